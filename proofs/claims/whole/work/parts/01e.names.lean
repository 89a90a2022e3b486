theorem dX7_canSplit_128 : decode cX7_canSplit 128 = .ok (.aload_n 0, 1) := by decide +kernel
theorem dX7_canSplit_129 : decode cX7_canSplit 129 = .ok (.getfield 48, 3) := by decide +kernel
theorem dX7_canSplit_132 : decode cX7_canSplit 132 = .ok (.getfield 238, 3) := by decide +kernel
theorem dX7_canSplit_135 : decode cX7_canSplit 135 = .ok (.aload_n 2, 1) := by decide +kernel
theorem dX7_canSplit_136 : decode cX7_canSplit 136 = .ok (.getfield 238, 3) := by decide +kernel
theorem dX7_canSplit_139 : decode cX7_canSplit 139 = .ok (.isub, 1) := by decide +kernel
theorem dX7_canSplit_140 : decode cX7_canSplit 140 = .ok (.bipush 6, 2) := by decide +kernel
theorem dX7_canSplit_142 : decode cX7_canSplit 142 = .ok (.if_icmp .ge 7, 3) := by decide +kernel
theorem dX7_canSplit_145 : decode cX7_canSplit 145 = .ok (.iconst 1, 1) := by decide +kernel
theorem dX7_canSplit_146 : decode cX7_canSplit 146 = .ok (.goto 4, 3) := by decide +kernel
theorem dX7_canSplit_149 : decode cX7_canSplit 149 = .ok (.iconst 0, 1) := by decide +kernel
theorem dX7_canSplit_150 : decode cX7_canSplit 150 = .ok (.ireturn, 1) := by decide +kernel
set_option maxRecDepth 20000 in
theorem ggX7_canJoin_X4_hasReferences : GoodIn wsX7_canJoin wsX4_hasReferences := goodIn_r _ [8, 9, 10, 27, 28, 29, 30, 31, 32] (by decide +kernel) (by decide +kernel)
set_option maxRecDepth 20000 in
theorem gX7_canJoin_X4_hasReferences : GoodIn wsX7_canJoin (wsV RX7 387 RX4 yX4_hasReferences wsX4_hasReferences) := goodIn_app (goodIn_of _ (by decide +kernel)) ggX7_canJoin_X4_hasReferences
set_option maxRecDepth 20000 in
theorem ggX7_canJoin_X4_placeOf : GoodIn wsX7_canJoin wsX4_placeOf := goodIn_r _ [14, 9, 15, 27, 28, 29, 30, 31, 32] (by decide +kernel) (by decide +kernel)
set_option maxRecDepth 20000 in
theorem gX7_canJoin_X4_placeOf : GoodIn wsX7_canJoin (wsV RX7 281 RX4 yX4_placeOf wsX4_placeOf) := goodIn_app (goodIn_of _ (by decide +kernel)) ggX7_canJoin_X4_placeOf
theorem dX7_canJoin_0 : decode cX7_canJoin 0 = .ok (.aload_n 2, 1) := by decide +kernel
theorem dX7_canJoin_1 : decode cX7_canJoin 1 = .ok (.invokevirtual 387, 3) := by decide +kernel
theorem dX7_canJoin_4 : decode cX7_canJoin 4 = .ok (.ifCond .ne 22, 3) := by decide +kernel
theorem dX7_canJoin_7 : decode cX7_canJoin 7 = .ok (.aload_n 0, 1) := by decide +kernel
theorem dX7_canJoin_8 : decode cX7_canJoin 8 = .ok (.getfield 48, 3) := by decide +kernel
theorem dX7_canJoin_11 : decode cX7_canJoin 11 = .ok (.getfield 238, 3) := by decide +kernel
theorem dX7_canJoin_14 : decode cX7_canJoin 14 = .ok (.iconst 1, 1) := by decide +kernel
theorem dX7_canJoin_15 : decode cX7_canJoin 15 = .ok (.isub, 1) := by decide +kernel
theorem dX7_canJoin_16 : decode cX7_canJoin 16 = .ok (.aload_n 2, 1) := by decide +kernel
theorem dX7_canJoin_17 : decode cX7_canJoin 17 = .ok (.getfield 238, 3) := by decide +kernel
theorem dX7_canJoin_20 : decode cX7_canJoin 20 = .ok (.iadd, 1) := by decide +kernel
theorem dX7_canJoin_21 : decode cX7_canJoin 21 = .ok (.bipush 6, 2) := by decide +kernel
theorem dX7_canJoin_23 : decode cX7_canJoin 23 = .ok (.if_icmp .le 5, 3) := by decide +kernel
theorem dX7_canJoin_26 : decode cX7_canJoin 26 = .ok (.iconst 0, 1) := by decide +kernel
theorem dX7_canJoin_27 : decode cX7_canJoin 27 = .ok (.ireturn, 1) := by decide +kernel
theorem dX7_canJoin_28 : decode cX7_canJoin 28 = .ok (.iconst 0, 1) := by decide +kernel
theorem dX7_canJoin_29 : decode cX7_canJoin 29 = .ok (.istore_n 3, 1) := by decide +kernel
theorem dX7_canJoin_30 : decode cX7_canJoin 30 = .ok (.iload_n 3, 1) := by decide +kernel
theorem dX7_canJoin_31 : decode cX7_canJoin 31 = .ok (.aload_n 2, 1) := by decide +kernel
theorem dX7_canJoin_32 : decode cX7_canJoin 32 = .ok (.getfield 238, 3) := by decide +kernel
theorem dX7_canJoin_35 : decode cX7_canJoin 35 = .ok (.if_icmp .ge 38, 3) := by decide +kernel
theorem dX7_canJoin_38 : decode cX7_canJoin 38 = .ok (.aload_n 0, 1) := by decide +kernel
theorem dX7_canJoin_39 : decode cX7_canJoin 39 = .ok (.getfield 48, 3) := by decide +kernel
theorem dX7_canJoin_42 : decode cX7_canJoin 42 = .ok (.aload_n 2, 1) := by decide +kernel
theorem dX7_canJoin_43 : decode cX7_canJoin 43 = .ok (.getfield 246, 3) := by decide +kernel
theorem dX7_canJoin_46 : decode cX7_canJoin 46 = .ok (.iload_n 3, 1) := by decide +kernel
theorem dX7_canJoin_47 : decode cX7_canJoin 47 = .ok (.iaload, 1) := by decide +kernel
theorem dX7_canJoin_48 : decode cX7_canJoin 48 = .ok (.invokevirtual 281, 3) := by decide +kernel
theorem dX7_canJoin_51 : decode cX7_canJoin 51 = .ok (.istore 4, 2) := by decide +kernel
theorem dX7_canJoin_53 : decode cX7_canJoin 53 = .ok (.iload 4, 2) := by decide +kernel
theorem dX7_canJoin_55 : decode cX7_canJoin 55 = .ok (.iconst (-1), 1) := by decide +kernel
theorem dX7_canJoin_56 : decode cX7_canJoin 56 = .ok (.if_icmp .eq 11, 3) := by decide +kernel
theorem dX7_canJoin_59 : decode cX7_canJoin 59 = .ok (.iload 4, 2) := by decide +kernel
theorem dX7_canJoin_61 : decode cX7_canJoin 61 = .ok (.iload_n 1, 1) := by decide +kernel
theorem dX7_canJoin_62 : decode cX7_canJoin 62 = .ok (.if_icmp .eq 5, 3) := by decide +kernel
theorem dX7_canJoin_65 : decode cX7_canJoin 65 = .ok (.iconst 0, 1) := by decide +kernel
theorem dX7_canJoin_66 : decode cX7_canJoin 66 = .ok (.ireturn, 1) := by decide +kernel
theorem dX7_canJoin_67 : decode cX7_canJoin 67 = .ok (.iinc 3 1, 3) := by decide +kernel
theorem dX7_canJoin_70 : decode cX7_canJoin 70 = .ok (.goto (-40), 3) := by decide +kernel
theorem dX7_canJoin_73 : decode cX7_canJoin 73 = .ok (.iconst 1, 1) := by decide +kernel
theorem dX7_canJoin_74 : decode cX7_canJoin 74 = .ok (.ireturn, 1) := by decide +kernel
set_option maxRecDepth 20000 in
theorem ggX7_someRootHolds_X0_isOf : GoodIn wsX7_someRootHolds wsX0_isOf := goodIn_r _ [8, 9, 10, 31, 32, 33, 34, 35, 36] (by decide +kernel) (by decide +kernel)
set_option maxRecDepth 20000 in
theorem gX7_someRootHolds_X0_isOf : GoodIn wsX7_someRootHolds (wsV RX7 202 RX0 yX0_isOf wsX0_isOf) := goodIn_app (goodIn_of _ (by decide +kernel)) ggX7_someRootHolds_X0_isOf
set_option maxRecDepth 20000 in
theorem ggX7_someRootHolds_X7_isHeld : GoodIn wsX7_someRootHolds wsX7_isHeld := goodIn_r _ [15, 16, 17, 18, 19, 20, 21, 22, 23, 24, 25, 26, 27] (by decide +kernel) (by decide +kernel)
set_option maxRecDepth 20000 in
theorem gX7_someRootHolds_X7_isHeld : GoodIn wsX7_someRootHolds (wsV RX7 397 RX7 yX7_isHeld wsX7_isHeld) := goodIn_app (goodIn_of _ (by decide +kernel)) ggX7_someRootHolds_X7_isHeld
theorem dX7_someRootHolds_0 : decode cX7_someRootHolds 0 = .ok (.iconst 0, 1) := by decide +kernel
theorem dX7_someRootHolds_1 : decode cX7_someRootHolds 1 = .ok (.istore_n 3, 1) := by decide +kernel
theorem dX7_someRootHolds_2 : decode cX7_someRootHolds 2 = .ok (.iload_n 3, 1) := by decide +kernel
theorem dX7_someRootHolds_3 : decode cX7_someRootHolds 3 = .ok (.bipush 24, 2) := by decide +kernel
theorem dX7_someRootHolds_5 : decode cX7_someRootHolds 5 = .ok (.if_icmp .ge 45, 3) := by decide +kernel
theorem dX7_someRootHolds_8 : decode cX7_someRootHolds 8 = .ok (.aload_n 0, 1) := by decide +kernel
theorem dX7_someRootHolds_9 : decode cX7_someRootHolds 9 = .ok (.getfield 19, 3) := by decide +kernel
theorem dX7_someRootHolds_12 : decode cX7_someRootHolds 12 = .ok (.getfield 199, 3) := by decide +kernel
theorem dX7_someRootHolds_15 : decode cX7_someRootHolds 15 = .ok (.iload_n 3, 1) := by decide +kernel
theorem dX7_someRootHolds_16 : decode cX7_someRootHolds 16 = .ok (.aaload, 1) := by decide +kernel
theorem dX7_someRootHolds_17 : decode cX7_someRootHolds 17 = .ok (.astore 4, 2) := by decide +kernel
theorem dX7_someRootHolds_19 : decode cX7_someRootHolds 19 = .ok (.aload 4, 2) := by decide +kernel
theorem dX7_someRootHolds_21 : decode cX7_someRootHolds 21 = .ok (.iload_n 1, 1) := by decide +kernel
theorem dX7_someRootHolds_22 : decode cX7_someRootHolds 22 = .ok (.invokevirtual 202, 3) := by decide +kernel
theorem dX7_someRootHolds_25 : decode cX7_someRootHolds 25 = .ok (.ifCond .eq 19, 3) := by decide +kernel
theorem dX7_someRootHolds_28 : decode cX7_someRootHolds 28 = .ok (.aload_n 0, 1) := by decide +kernel
theorem dX7_someRootHolds_29 : decode cX7_someRootHolds 29 = .ok (.aload 4, 2) := by decide +kernel
theorem dX7_someRootHolds_31 : decode cX7_someRootHolds 31 = .ok (.getfield 109, 3) := by decide +kernel
theorem dX7_someRootHolds_34 : decode cX7_someRootHolds 34 = .ok (.iload_n 2, 1) := by decide +kernel
theorem dX7_someRootHolds_35 : decode cX7_someRootHolds 35 = .ok (.iaload, 1) := by decide +kernel
theorem dX7_someRootHolds_36 : decode cX7_someRootHolds 36 = .ok (.invokevirtual 397, 3) := by decide +kernel
theorem dX7_someRootHolds_39 : decode cX7_someRootHolds 39 = .ok (.ifCond .eq 5, 3) := by decide +kernel
theorem dX7_someRootHolds_42 : decode cX7_someRootHolds 42 = .ok (.iconst 1, 1) := by decide +kernel
theorem dX7_someRootHolds_43 : decode cX7_someRootHolds 43 = .ok (.ireturn, 1) := by decide +kernel
theorem dX7_someRootHolds_44 : decode cX7_someRootHolds 44 = .ok (.iinc 3 1, 3) := by decide +kernel
theorem dX7_someRootHolds_47 : decode cX7_someRootHolds 47 = .ok (.goto (-45), 3) := by decide +kernel
theorem dX7_someRootHolds_50 : decode cX7_someRootHolds 50 = .ok (.iconst 0, 1) := by decide +kernel
theorem dX7_someRootHolds_51 : decode cX7_someRootHolds 51 = .ok (.ireturn, 1) := by decide +kernel
theorem dX7_isHeld_0 : decode cX7_isHeld 0 = .ok (.iconst 0, 1) := by decide +kernel
theorem dX7_isHeld_1 : decode cX7_isHeld 1 = .ok (.istore_n 2, 1) := by decide +kernel
theorem dX7_isHeld_2 : decode cX7_isHeld 2 = .ok (.iload_n 2, 1) := by decide +kernel
theorem dX7_isHeld_3 : decode cX7_isHeld 3 = .ok (.bipush 8, 2) := by decide +kernel
theorem dX7_isHeld_5 : decode cX7_isHeld 5 = .ok (.if_icmp .ge 21, 3) := by decide +kernel
theorem dX7_isHeld_8 : decode cX7_isHeld 8 = .ok (.aload_n 0, 1) := by decide +kernel
theorem dX7_isHeld_9 : decode cX7_isHeld 9 = .ok (.getfield 23, 3) := by decide +kernel
theorem dX7_isHeld_12 : decode cX7_isHeld 12 = .ok (.iload_n 2, 1) := by decide +kernel
theorem dX7_isHeld_13 : decode cX7_isHeld 13 = .ok (.iaload, 1) := by decide +kernel
theorem dX7_isHeld_14 : decode cX7_isHeld 14 = .ok (.iload_n 1, 1) := by decide +kernel
theorem dX7_isHeld_15 : decode cX7_isHeld 15 = .ok (.if_icmp .ne 5, 3) := by decide +kernel
theorem dX7_isHeld_18 : decode cX7_isHeld 18 = .ok (.iconst 1, 1) := by decide +kernel
theorem dX7_isHeld_19 : decode cX7_isHeld 19 = .ok (.ireturn, 1) := by decide +kernel
theorem dX7_isHeld_20 : decode cX7_isHeld 20 = .ok (.iinc 2 1, 3) := by decide +kernel
theorem dX7_isHeld_23 : decode cX7_isHeld 23 = .ok (.goto (-21), 3) := by decide +kernel
theorem dX7_isHeld_26 : decode cX7_isHeld 26 = .ok (.iconst 0, 1) := by decide +kernel
theorem dX7_isHeld_27 : decode cX7_isHeld 27 = .ok (.ireturn, 1) := by decide +kernel
theorem dX7_isIn_0 : decode cX7_isIn 0 = .ok (.iload_n 1, 1) := by decide +kernel
theorem dX7_isIn_1 : decode cX7_isIn 1 = .ok (.iload_n 0, 1) := by decide +kernel
theorem dX7_isIn_2 : decode cX7_isIn 2 = .ok (.ishr, 1) := by decide +kernel
theorem dX7_isIn_3 : decode cX7_isIn 3 = .ok (.iconst 1, 1) := by decide +kernel
theorem dX7_isIn_4 : decode cX7_isIn 4 = .ok (.iand, 1) := by decide +kernel
theorem dX7_isIn_5 : decode cX7_isIn 5 = .ok (.iconst 1, 1) := by decide +kernel
theorem dX7_isIn_6 : decode cX7_isIn 6 = .ok (.if_icmp .ne 7, 3) := by decide +kernel
theorem dX7_isIn_9 : decode cX7_isIn 9 = .ok (.iconst 1, 1) := by decide +kernel
theorem dX7_isIn_10 : decode cX7_isIn 10 = .ok (.goto 4, 3) := by decide +kernel
theorem dX7_isIn_13 : decode cX7_isIn 13 = .ok (.iconst 0, 1) := by decide +kernel
theorem dX7_isIn_14 : decode cX7_isIn 14 = .ok (.ireturn, 1) := by decide +kernel
set_option maxRecDepth 20000 in
theorem ggX7_reshape_X4_placeOf : GoodIn wsX7_reshape wsX4_placeOf := goodIn_r _ [13, 14, 15, 73, 74, 75, 76, 77, 78] (by decide +kernel) (by decide +kernel)
set_option maxRecDepth 20000 in
theorem gX7_reshape_X4_placeOf : GoodIn wsX7_reshape (wsV RX7 281 RX4 yX4_placeOf wsX4_placeOf) := goodIn_app (goodIn_of _ (by decide +kernel)) ggX7_reshape_X4_placeOf
set_option maxRecDepth 20000 in
theorem ggX7_reshape_X4_removeAll : GoodIn wsX7_reshape wsX4_removeAll := goodIn_r _ [19, 20, 21, 22, 23, 15, 14, 24, 25, 26, 12, 27, 28, 29, 30, 73, 74, 75, 76, 77, 78] (by decide +kernel) (by decide +kernel)
set_option maxRecDepth 20000 in
theorem gX7_reshape_X4_removeAll : GoodIn wsX7_reshape (wsV RX7 400 RX4 yX4_removeAll wsX4_removeAll) := goodIn_app (goodIn_of _ (by decide +kernel)) ggX7_reshape_X4_removeAll
set_option maxRecDepth 20000 in
theorem ggX7_reshape_X4_rename : GoodIn wsX7_reshape wsX4_rename := goodIn_r _ [34, 15, 35, 36, 37, 12, 38, 14, 73, 74, 75, 76, 77, 78] (by decide +kernel) (by decide +kernel)
set_option maxRecDepth 20000 in
theorem gX7_reshape_X4_rename : GoodIn wsX7_reshape (wsV RX7 403 RX4 yX4_rename wsX4_rename) := goodIn_app (goodIn_of _ (by decide +kernel)) ggX7_reshape_X4_rename
set_option maxRecDepth 20000 in
theorem ggX7_reshape_X4_append : GoodIn wsX7_reshape wsX4_append := goodIn_r _ [42, 14, 15, 20, 21, 22, 23, 73, 74, 75, 76, 77, 78] (by decide +kernel) (by decide +kernel)
set_option maxRecDepth 20000 in
theorem gX7_reshape_X4_append : GoodIn wsX7_reshape (wsV RX7 406 RX4 yX4_append wsX4_append) := goodIn_app (goodIn_of _ (by decide +kernel)) ggX7_reshape_X4_append
set_option maxRecDepth 20000 in
theorem ggX7_reshape_X4_setRange : GoodIn wsX7_reshape wsX4_setRange := goodIn_r _ [46, 21, 22, 35, 36, 37, 12, 38, 14, 73, 74, 75, 76, 77, 78] (by decide +kernel) (by decide +kernel)
set_option maxRecDepth 20000 in
theorem gX7_reshape_X4_setRange : GoodIn wsX7_reshape (wsV RX7 409 RX4 yX4_setRange wsX4_setRange) := goodIn_app (goodIn_of _ (by decide +kernel)) ggX7_reshape_X4_setRange
set_option maxRecDepth 20000 in
theorem ggX7_reshape_X4_isOwning : GoodIn wsX7_reshape wsX4_isOwning := goodIn_r _ [50, 20, 35, 36, 37, 12, 38, 14, 73, 74, 75, 76, 77, 78] (by decide +kernel) (by decide +kernel)
set_option maxRecDepth 20000 in
theorem gX7_reshape_X4_isOwning : GoodIn wsX7_reshape (wsV RX7 133 RX4 yX4_isOwning wsX4_isOwning) := goodIn_app (goodIn_of _ (by decide +kernel)) ggX7_reshape_X4_isOwning
set_option maxRecDepth 20000 in
theorem ggX7_reshape_X4_appendAll : GoodIn wsX7_reshape wsX4_appendAll := goodIn_r _ [54, 14, 15, 20, 21, 22, 55, 40, 41, 12, 42, 23, 73, 74, 75, 76, 77, 78] (by decide +kernel) (by decide +kernel)
set_option maxRecDepth 20000 in
theorem gX7_reshape_X4_appendAll : GoodIn wsX7_reshape (wsV RX7 413 RX4 yX4_appendAll wsX4_appendAll) := goodIn_app (goodIn_of _ (by decide +kernel)) ggX7_reshape_X4_appendAll
theorem dX7_reshape_0 : decode cX7_reshape 0 = .ok (.aload_n 0, 1) := by decide +kernel
theorem dX7_reshape_1 : decode cX7_reshape 1 = .ok (.getfield 48, 3) := by decide +kernel
theorem dX7_reshape_4 : decode cX7_reshape 4 = .ok (.aload_n 1, 1) := by decide +kernel
theorem dX7_reshape_5 : decode cX7_reshape 5 = .ok (.getfield 345, 3) := by decide +kernel
theorem dX7_reshape_8 : decode cX7_reshape 8 = .ok (.invokevirtual 281, 3) := by decide +kernel
theorem dX7_reshape_11 : decode cX7_reshape 11 = .ok (.istore_n 2, 1) := by decide +kernel
theorem dX7_reshape_12 : decode cX7_reshape 12 = .ok (.aload_n 1, 1) := by decide +kernel
theorem dX7_reshape_13 : decode cX7_reshape 13 = .ok (.getfield 344, 3) := by decide +kernel
theorem dX7_reshape_16 : decode cX7_reshape 16 = .ok (.tableswitch 227 0 6 #[44, 60, 75, 98, 117, 140, 174], 44) := by decide +kernel
theorem dX7_reshape_60 : decode cX7_reshape 60 = .ok (.aload_n 0, 1) := by decide +kernel
theorem dX7_reshape_61 : decode cX7_reshape 61 = .ok (.getfield 48, 3) := by decide +kernel
theorem dX7_reshape_64 : decode cX7_reshape 64 = .ok (.iconst 1, 1) := by decide +kernel
theorem dX7_reshape_65 : decode cX7_reshape 65 = .ok (.aload_n 1, 1) := by decide +kernel
theorem dX7_reshape_66 : decode cX7_reshape 66 = .ok (.getfield 345, 3) := by decide +kernel
theorem dX7_reshape_69 : decode cX7_reshape 69 = .ok (.ishl, 1) := by decide +kernel
theorem dX7_reshape_70 : decode cX7_reshape 70 = .ok (.invokevirtual 400, 3) := by decide +kernel
theorem dX7_reshape_73 : decode cX7_reshape 73 = .ok (.goto 170, 3) := by decide +kernel
theorem dX7_reshape_76 : decode cX7_reshape 76 = .ok (.aload_n 0, 1) := by decide +kernel
theorem dX7_reshape_77 : decode cX7_reshape 77 = .ok (.getfield 48, 3) := by decide +kernel
theorem dX7_reshape_80 : decode cX7_reshape 80 = .ok (.iload_n 2, 1) := by decide +kernel
theorem dX7_reshape_81 : decode cX7_reshape 81 = .ok (.aload_n 1, 1) := by decide +kernel
theorem dX7_reshape_82 : decode cX7_reshape 82 = .ok (.getfield 348, 3) := by decide +kernel
theorem dX7_reshape_85 : decode cX7_reshape 85 = .ok (.invokevirtual 403, 3) := by decide +kernel
theorem dX7_reshape_88 : decode cX7_reshape 88 = .ok (.goto 155, 3) := by decide +kernel
theorem dX7_reshape_91 : decode cX7_reshape 91 = .ok (.aload_n 0, 1) := by decide +kernel
theorem dX7_reshape_92 : decode cX7_reshape 92 = .ok (.getfield 48, 3) := by decide +kernel
theorem dX7_reshape_95 : decode cX7_reshape 95 = .ok (.aload_n 1, 1) := by decide +kernel
theorem dX7_reshape_96 : decode cX7_reshape 96 = .ok (.getfield 345, 3) := by decide +kernel
theorem dX7_reshape_99 : decode cX7_reshape 99 = .ok (.iconst 0, 1) := by decide +kernel
theorem dX7_reshape_100 : decode cX7_reshape 100 = .ok (.aload_n 1, 1) := by decide +kernel
theorem dX7_reshape_101 : decode cX7_reshape 101 = .ok (.getfield 348, 3) := by decide +kernel
theorem dX7_reshape_104 : decode cX7_reshape 104 = .ok (.aload_n 1, 1) := by decide +kernel
theorem dX7_reshape_105 : decode cX7_reshape 105 = .ok (.getfield 358, 3) := by decide +kernel
theorem dX7_reshape_108 : decode cX7_reshape 108 = .ok (.invokevirtual 406, 3) := by decide +kernel
theorem dX7_reshape_111 : decode cX7_reshape 111 = .ok (.goto 132, 3) := by decide +kernel
theorem dX7_reshape_114 : decode cX7_reshape 114 = .ok (.aload_n 0, 1) := by decide +kernel
theorem dX7_reshape_115 : decode cX7_reshape 115 = .ok (.getfield 48, 3) := by decide +kernel
theorem dX7_reshape_118 : decode cX7_reshape 118 = .ok (.iload_n 2, 1) := by decide +kernel
theorem dX7_reshape_119 : decode cX7_reshape 119 = .ok (.aload_n 1, 1) := by decide +kernel
theorem dX7_reshape_120 : decode cX7_reshape 120 = .ok (.getfield 348, 3) := by decide +kernel
theorem dX7_reshape_123 : decode cX7_reshape 123 = .ok (.aload_n 1, 1) := by decide +kernel
theorem dX7_reshape_124 : decode cX7_reshape 124 = .ok (.getfield 358, 3) := by decide +kernel
theorem dX7_reshape_127 : decode cX7_reshape 127 = .ok (.invokevirtual 409, 3) := by decide +kernel
theorem dX7_reshape_130 : decode cX7_reshape 130 = .ok (.goto 113, 3) := by decide +kernel
theorem dX7_reshape_133 : decode cX7_reshape 133 = .ok (.aload_n 0, 1) := by decide +kernel
theorem dX7_reshape_134 : decode cX7_reshape 134 = .ok (.getfield 48, 3) := by decide +kernel
theorem dX7_reshape_137 : decode cX7_reshape 137 = .ok (.aload_n 1, 1) := by decide +kernel
theorem dX7_reshape_138 : decode cX7_reshape 138 = .ok (.getfield 345, 3) := by decide +kernel
theorem dX7_reshape_141 : decode cX7_reshape 141 = .ok (.iconst 1, 1) := by decide +kernel
theorem dX7_reshape_142 : decode cX7_reshape 142 = .ok (.aload_n 1, 1) := by decide +kernel
theorem dX7_reshape_143 : decode cX7_reshape 143 = .ok (.getfield 348, 3) := by decide +kernel
theorem dX7_reshape_146 : decode cX7_reshape 146 = .ok (.aload_n 1, 1) := by decide +kernel
theorem dX7_reshape_147 : decode cX7_reshape 147 = .ok (.getfield 348, 3) := by decide +kernel
theorem dX7_reshape_150 : decode cX7_reshape 150 = .ok (.invokevirtual 406, 3) := by decide +kernel
theorem dX7_reshape_153 : decode cX7_reshape 153 = .ok (.goto 90, 3) := by decide +kernel
theorem dX7_reshape_156 : decode cX7_reshape 156 = .ok (.aload_n 0, 1) := by decide +kernel
theorem dX7_reshape_157 : decode cX7_reshape 157 = .ok (.getfield 48, 3) := by decide +kernel
theorem dX7_reshape_160 : decode cX7_reshape 160 = .ok (.aload_n 1, 1) := by decide +kernel
theorem dX7_reshape_161 : decode cX7_reshape 161 = .ok (.getfield 358, 3) := by decide +kernel
theorem dX7_reshape_164 : decode cX7_reshape 164 = .ok (.invokevirtual 400, 3) := by decide +kernel
theorem dX7_reshape_167 : decode cX7_reshape 167 = .ok (.aload_n 0, 1) := by decide +kernel
theorem dX7_reshape_168 : decode cX7_reshape 168 = .ok (.getfield 48, 3) := by decide +kernel
theorem dX7_reshape_171 : decode cX7_reshape 171 = .ok (.aload_n 1, 1) := by decide +kernel
theorem dX7_reshape_172 : decode cX7_reshape 172 = .ok (.getfield 345, 3) := by decide +kernel
theorem dX7_reshape_175 : decode cX7_reshape 175 = .ok (.iconst 2, 1) := by decide +kernel
theorem dX7_reshape_176 : decode cX7_reshape 176 = .ok (.aload_n 1, 1) := by decide +kernel
theorem dX7_reshape_177 : decode cX7_reshape 177 = .ok (.getfield 348, 3) := by decide +kernel
theorem dX7_reshape_180 : decode cX7_reshape 180 = .ok (.aload_n 1, 1) := by decide +kernel
theorem dX7_reshape_181 : decode cX7_reshape 181 = .ok (.getfield 348, 3) := by decide +kernel
theorem dX7_reshape_184 : decode cX7_reshape 184 = .ok (.invokevirtual 406, 3) := by decide +kernel
theorem dX7_reshape_187 : decode cX7_reshape 187 = .ok (.goto 56, 3) := by decide +kernel
theorem dX7_reshape_190 : decode cX7_reshape 190 = .ok (.aload_n 0, 1) := by decide +kernel
theorem dX7_reshape_191 : decode cX7_reshape 191 = .ok (.getfield 48, 3) := by decide +kernel
theorem dX7_reshape_194 : decode cX7_reshape 194 = .ok (.iload_n 2, 1) := by decide +kernel
theorem dX7_reshape_195 : decode cX7_reshape 195 = .ok (.invokevirtual 133, 3) := by decide +kernel
theorem dX7_reshape_198 : decode cX7_reshape 198 = .ok (.ifCond .eq 45, 3) := by decide +kernel
theorem dX7_reshape_201 : decode cX7_reshape 201 = .ok (.aload_n 0, 1) := by decide +kernel
theorem dX7_reshape_202 : decode cX7_reshape 202 = .ok (.getfield 11, 3) := by decide +kernel
theorem dX7_reshape_205 : decode cX7_reshape 205 = .ok (.aload_n 0, 1) := by decide +kernel
theorem dX7_reshape_206 : decode cX7_reshape 206 = .ok (.getfield 48, 3) := by decide +kernel
theorem dX7_reshape_209 : decode cX7_reshape 209 = .ok (.getfield 118, 3) := by decide +kernel
theorem dX7_reshape_212 : decode cX7_reshape 212 = .ok (.iload_n 2, 1) := by decide +kernel
theorem dX7_reshape_213 : decode cX7_reshape 213 = .ok (.iaload, 1) := by decide +kernel
theorem dX7_reshape_214 : decode cX7_reshape 214 = .ok (.aaload, 1) := by decide +kernel
theorem dX7_reshape_215 : decode cX7_reshape 215 = .ok (.getfield 115, 3) := by decide +kernel
theorem dX7_reshape_218 : decode cX7_reshape 218 = .ok (.astore_n 3, 1) := by decide +kernel
theorem dX7_reshape_219 : decode cX7_reshape 219 = .ok (.aload_n 0, 1) := by decide +kernel
theorem dX7_reshape_220 : decode cX7_reshape 220 = .ok (.getfield 48, 3) := by decide +kernel
theorem dX7_reshape_223 : decode cX7_reshape 223 = .ok (.iconst 1, 1) := by decide +kernel
theorem dX7_reshape_224 : decode cX7_reshape 224 = .ok (.aload_n 1, 1) := by decide +kernel
theorem dX7_reshape_225 : decode cX7_reshape 225 = .ok (.getfield 345, 3) := by decide +kernel
theorem dX7_reshape_228 : decode cX7_reshape 228 = .ok (.ishl, 1) := by decide +kernel
theorem dX7_reshape_229 : decode cX7_reshape 229 = .ok (.invokevirtual 400, 3) := by decide +kernel
theorem dX7_reshape_232 : decode cX7_reshape 232 = .ok (.aload_n 0, 1) := by decide +kernel
theorem dX7_reshape_233 : decode cX7_reshape 233 = .ok (.getfield 48, 3) := by decide +kernel
theorem dX7_reshape_236 : decode cX7_reshape 236 = .ok (.aload_n 3, 1) := by decide +kernel
theorem dX7_reshape_237 : decode cX7_reshape 237 = .ok (.invokevirtual 413, 3) := by decide +kernel
theorem dX7_reshape_240 : decode cX7_reshape 240 = .ok (.goto 3, 3) := by decide +kernel
theorem dX7_reshape_243 : decode cX7_reshape 243 = .ok (.return_, 1) := by decide +kernel
set_option maxRecDepth 20000 in
theorem ggX7_carryOut_X4_copyFrom : GoodIn wsX7_carryOut wsX4_copyFrom := goodIn_r _ [14, 15, 16, 17, 18, 13, 19, 20, 21, 22, 23, 24, 25, 26, 27, 28, 240, 241, 242, 243, 244, 245] (by decide +kernel) (by decide +kernel)
set_option maxRecDepth 20000 in
theorem gX7_carryOut_X4_copyFrom : GoodIn wsX7_carryOut (wsV RX7 215 RX4 yX4_copyFrom wsX4_copyFrom) := goodIn_app (goodIn_of _ (by decide +kernel)) ggX7_carryOut_X4_copyFrom
set_option maxRecDepth 20000 in
theorem ggX7_carryOut_X6_rememberAll : GoodIn wsX7_carryOut wsX6_rememberAll := goodIn_r _ [33, 34, 35, 36, 37, 38, 39, 40, 41, 42, 43, 44, 45, 46, 47, 246, 247, 248, 249, 250, 251, 252, 253, 254] (by decide +kernel) (by decide +kernel)
set_option maxRecDepth 20000 in
theorem gX7_carryOut_X6_rememberAll : GoodIn wsX7_carryOut (wsV RX7 416 RX6 yX6_rememberAll wsX6_rememberAll) := goodIn_app (goodIn_of _ (by decide +kernel)) ggX7_carryOut_X6_rememberAll
set_option maxRecDepth 20000 in
theorem ggX7_carryOut_X4_startFrom : GoodIn wsX7_carryOut wsX4_startFrom := goodIn_r _ [51, 15, 28, 52, 11, 12, 13, 14, 16, 17, 18, 19, 20, 21, 22, 23, 24, 25, 26, 27, 240, 241, 242, 243, 244, 245] (by decide +kernel) (by decide +kernel)
set_option maxRecDepth 20000 in
theorem gX7_carryOut_X4_startFrom : GoodIn wsX7_carryOut (wsV RX7 329 RX4 yX4_startFrom wsX4_startFrom) := goodIn_app (goodIn_of _ (by decide +kernel)) ggX7_carryOut_X4_startFrom
set_option maxRecDepth 20000 in
theorem ggX7_carryOut_X7_barTakeBackOfPart : GoodIn wsX7_carryOut wsX7_barTakeBackOfPart := goodIn_r _ [57, 7, 1, 58, 9, 5, 59, 60, 61, 62, 63, 13, 64, 15, 20, 65, 66, 67, 68, 21, 69, 70, 71, 72, 234, 235, 236, 237, 238, 239, 219, 220, 221, 222, 223, 224, 225, 226, 227, 228, 229, 230, 231, 232, 233, 240, 241, 242, 243, 244, 245] (by decide +kernel) (by decide +kernel)
set_option maxRecDepth 20000 in
theorem gX7_carryOut_X7_barTakeBackOfPart : GoodIn wsX7_carryOut (wsV RX7 419 RX7 yX7_barTakeBackOfPart wsX7_barTakeBackOfPart) := goodIn_app (goodIn_of _ (by decide +kernel)) ggX7_carryOut_X7_barTakeBackOfPart
set_option maxRecDepth 20000 in
theorem ggX7_carryOut_X7_moveAll : GoodIn wsX7_carryOut wsX7_moveAll := goodIn_r _ [76, 4, 77, 78, 42, 43, 44, 45, 46, 47, 79, 80, 81, 56, 82, 5, 59, 7, 83, 84, 85, 1, 86, 2, 87, 88, 58, 89, 61, 62, 63, 13, 64, 15, 20, 90, 91, 92, 93, 94, 95, 96, 97, 98, 99, 100, 101, 102, 103, 104, 105, 106, 107, 108, 109, 110, 111, 112, 113, 114, 21, 69, 70, 71, 72, 115, 116, 117, 118, 119, 120, 121, 122, 123, 124, 125, 126, 127, 128, 129, 130, 131, 132, 133, 134, 135, 136, 137, 138, 139, 140, 141, 142, 143, 144, 145, 146, 147, 148, 149, 150, 151, 152, 153, 154, 155, 156, 157, 158, 159, 160, 161, 162, 163, 164, 165, 166, 167, 168, 3, 169, 170, 171, 172, 173, 174, 9, 8, 175, 176, 177, 32, 178, 179, 180, 181, 182, 183, 184, 185, 186, 187, 34, 65, 66, 67, 68, 188, 189, 190, 191, 192, 193, 194, 195, 196, 197, 198, 199, 219, 220, 221, 222, 223, 224, 225, 226, 227, 228, 229, 246, 247, 248, 249, 250, 251, 252, 253, 254, 234, 235, 236, 237, 238, 239, 230, 231, 232, 233, 240, 241, 242, 243, 244, 245, 255, 256, 257, 258, 259] (by decide +kernel) (by decide +kernel)
set_option maxRecDepth 20000 in
theorem gX7_carryOut_X7_moveAll : GoodIn wsX7_carryOut (wsV RX7 422 RX7 yX7_moveAll wsX7_moveAll) := goodIn_app (goodIn_of _ (by decide +kernel)) ggX7_carryOut_X7_moveAll
set_option maxRecDepth 20000 in
theorem ggX7_carryOut_X7_reshape : GoodIn wsX7_carryOut wsX7_reshape := goodIn_r _ [203, 5, 59, 7, 58, 89, 1, 60, 3, 61, 62, 63, 13, 64, 15, 20, 204, 205, 206, 207, 21, 22, 23, 28, 208, 91, 92, 93, 94, 56, 95, 209, 210, 211, 212, 69, 70, 71, 72, 213, 25, 26, 27, 214, 215, 216, 217, 65, 66, 67, 68, 218, 17, 18, 19, 24, 219, 220, 221, 222, 223, 224, 225, 226, 227, 228, 229, 234, 235, 236, 237, 238, 239, 240, 241, 242, 243, 244, 245, 230, 231, 232, 233] (by decide +kernel) (by decide +kernel)
set_option maxRecDepth 20000 in
theorem gX7_carryOut_X7_reshape : GoodIn wsX7_carryOut (wsV RX7 340 RX7 yX7_reshape wsX7_reshape) := goodIn_app (goodIn_of _ (by decide +kernel)) ggX7_carryOut_X7_reshape
theorem dX7_carryOut_0 : decode cX7_carryOut 0 = .ok (.aload_n 0, 1) := by decide +kernel
theorem dX7_carryOut_1 : decode cX7_carryOut 1 = .ok (.getfield 11, 3) := by decide +kernel
theorem dX7_carryOut_4 : decode cX7_carryOut 4 = .ok (.iload_n 1, 1) := by decide +kernel
theorem dX7_carryOut_5 : decode cX7_carryOut 5 = .ok (.aaload, 1) := by decide +kernel
theorem dX7_carryOut_6 : decode cX7_carryOut 6 = .ok (.astore_n 3, 1) := by decide +kernel
theorem dX7_carryOut_7 : decode cX7_carryOut 7 = .ok (.aload_n 3, 1) := by decide +kernel
theorem dX7_carryOut_8 : decode cX7_carryOut 8 = .ok (.getfield 205, 3) := by decide +kernel
theorem dX7_carryOut_11 : decode cX7_carryOut 11 = .ok (.aload_n 3, 1) := by decide +kernel
theorem dX7_carryOut_12 : decode cX7_carryOut 12 = .ok (.getfield 115, 3) := by decide +kernel
theorem dX7_carryOut_15 : decode cX7_carryOut 15 = .ok (.invokevirtual 215, 3) := by decide +kernel
theorem dX7_carryOut_18 : decode cX7_carryOut 18 = .ok (.aload_n 0, 1) := by decide +kernel
theorem dX7_carryOut_19 : decode cX7_carryOut 19 = .ok (.getfield 19, 3) := by decide +kernel
theorem dX7_carryOut_22 : decode cX7_carryOut 22 = .ok (.iload_n 1, 1) := by decide +kernel
theorem dX7_carryOut_23 : decode cX7_carryOut 23 = .ok (.invokevirtual 416, 3) := by decide +kernel
theorem dX7_carryOut_26 : decode cX7_carryOut 26 = .ok (.aload_n 0, 1) := by decide +kernel
theorem dX7_carryOut_27 : decode cX7_carryOut 27 = .ok (.getfield 48, 3) := by decide +kernel
theorem dX7_carryOut_30 : decode cX7_carryOut 30 = .ok (.aload_n 3, 1) := by decide +kernel
theorem dX7_carryOut_31 : decode cX7_carryOut 31 = .ok (.getfield 115, 3) := by decide +kernel
theorem dX7_carryOut_34 : decode cX7_carryOut 34 = .ok (.invokevirtual 329, 3) := by decide +kernel
theorem dX7_carryOut_37 : decode cX7_carryOut 37 = .ok (.iconst 1, 1) := by decide +kernel
theorem dX7_carryOut_38 : decode cX7_carryOut 38 = .ok (.istore 4, 2) := by decide +kernel
theorem dX7_carryOut_40 : decode cX7_carryOut 40 = .ok (.iconst 0, 1) := by decide +kernel
theorem dX7_carryOut_41 : decode cX7_carryOut 41 = .ok (.istore 5, 2) := by decide +kernel
theorem dX7_carryOut_43 : decode cX7_carryOut 43 = .ok (.iload 5, 2) := by decide +kernel
theorem dX7_carryOut_45 : decode cX7_carryOut 45 = .ok (.iload_n 2, 1) := by decide +kernel
theorem dX7_carryOut_46 : decode cX7_carryOut 46 = .ok (.if_icmp .ge 66, 3) := by decide +kernel
theorem dX7_carryOut_49 : decode cX7_carryOut 49 = .ok (.iload 5, 2) := by decide +kernel
theorem dX7_carryOut_51 : decode cX7_carryOut 51 = .ok (.bipush 6, 2) := by decide +kernel
theorem dX7_carryOut_53 : decode cX7_carryOut 53 = .ok (.if_icmp .ge 59, 3) := by decide +kernel
theorem dX7_carryOut_56 : decode cX7_carryOut 56 = .ok (.aload_n 0, 1) := by decide +kernel
theorem dX7_carryOut_57 : decode cX7_carryOut 57 = .ok (.getfield 36, 3) := by decide +kernel
theorem dX7_carryOut_60 : decode cX7_carryOut 60 = .ok (.iload 5, 2) := by decide +kernel
theorem dX7_carryOut_62 : decode cX7_carryOut 62 = .ok (.aaload, 1) := by decide +kernel
theorem dX7_carryOut_63 : decode cX7_carryOut 63 = .ok (.astore 6, 2) := by decide +kernel
theorem dX7_carryOut_65 : decode cX7_carryOut 65 = .ok (.aload 6, 2) := by decide +kernel
theorem dX7_carryOut_67 : decode cX7_carryOut 67 = .ok (.getfield 344, 3) := by decide +kernel
theorem dX7_carryOut_70 : decode cX7_carryOut 70 = .ok (.iconst 5, 1) := by decide +kernel
theorem dX7_carryOut_71 : decode cX7_carryOut 71 = .ok (.if_icmp .eq 13, 3) := by decide +kernel
theorem dX7_carryOut_74 : decode cX7_carryOut 74 = .ok (.aload 6, 2) := by decide +kernel
theorem dX7_carryOut_76 : decode cX7_carryOut 76 = .ok (.getfield 344, 3) := by decide +kernel
theorem dX7_carryOut_79 : decode cX7_carryOut 79 = .ok (.bipush 6, 2) := by decide +kernel
theorem dX7_carryOut_81 : decode cX7_carryOut 81 = .ok (.if_icmp .ne 12, 3) := by decide +kernel
theorem dX7_carryOut_84 : decode cX7_carryOut 84 = .ok (.iconst 0, 1) := by decide +kernel
theorem dX7_carryOut_85 : decode cX7_carryOut 85 = .ok (.istore 4, 2) := by decide +kernel
theorem dX7_carryOut_87 : decode cX7_carryOut 87 = .ok (.aload_n 0, 1) := by decide +kernel
theorem dX7_carryOut_88 : decode cX7_carryOut 88 = .ok (.aload 6, 2) := by decide +kernel
theorem dX7_carryOut_90 : decode cX7_carryOut 90 = .ok (.invokevirtual 419, 3) := by decide +kernel
theorem dX7_carryOut_93 : decode cX7_carryOut 93 = .ok (.aload_n 0, 1) := by decide +kernel
theorem dX7_carryOut_94 : decode cX7_carryOut 94 = .ok (.aload 6, 2) := by decide +kernel
theorem dX7_carryOut_96 : decode cX7_carryOut 96 = .ok (.iload_n 1, 1) := by decide +kernel
theorem dX7_carryOut_97 : decode cX7_carryOut 97 = .ok (.invokevirtual 422, 3) := by decide +kernel
theorem dX7_carryOut_100 : decode cX7_carryOut 100 = .ok (.aload_n 0, 1) := by decide +kernel
theorem dX7_carryOut_101 : decode cX7_carryOut 101 = .ok (.aload 6, 2) := by decide +kernel
theorem dX7_carryOut_103 : decode cX7_carryOut 103 = .ok (.invokevirtual 340, 3) := by decide +kernel
theorem dX7_carryOut_106 : decode cX7_carryOut 106 = .ok (.iinc 5 1, 3) := by decide +kernel
theorem dX7_carryOut_109 : decode cX7_carryOut 109 = .ok (.goto (-66), 3) := by decide +kernel
theorem dX7_carryOut_112 : decode cX7_carryOut 112 = .ok (.aload_n 3, 1) := by decide +kernel
theorem dX7_carryOut_113 : decode cX7_carryOut 113 = .ok (.getfield 115, 3) := by decide +kernel
theorem dX7_carryOut_116 : decode cX7_carryOut 116 = .ok (.aload_n 0, 1) := by decide +kernel
theorem dX7_carryOut_117 : decode cX7_carryOut 117 = .ok (.getfield 48, 3) := by decide +kernel
theorem dX7_carryOut_120 : decode cX7_carryOut 120 = .ok (.invokevirtual 215, 3) := by decide +kernel
theorem dX7_carryOut_123 : decode cX7_carryOut 123 = .ok (.aload_n 3, 1) := by decide +kernel
theorem dX7_carryOut_124 : decode cX7_carryOut 124 = .ok (.dup, 1) := by decide +kernel
theorem dX7_carryOut_125 : decode cX7_carryOut 125 = .ok (.getfield 183, 3) := by decide +kernel
theorem dX7_carryOut_128 : decode cX7_carryOut 128 = .ok (.iconst 1, 1) := by decide +kernel
theorem dX7_carryOut_129 : decode cX7_carryOut 129 = .ok (.iadd, 1) := by decide +kernel
theorem dX7_carryOut_130 : decode cX7_carryOut 130 = .ok (.putfield 183, 3) := by decide +kernel
theorem dX7_carryOut_133 : decode cX7_carryOut 133 = .ok (.aload_n 3, 1) := by decide +kernel
theorem dX7_carryOut_134 : decode cX7_carryOut 134 = .ok (.iload 4, 2) := by decide +kernel
theorem dX7_carryOut_136 : decode cX7_carryOut 136 = .ok (.putfield 126, 3) := by decide +kernel
theorem dX7_carryOut_139 : decode cX7_carryOut 139 = .ok (.return_, 1) := by decide +kernel
set_option maxRecDepth 20000 in
theorem ggX7_barTakeBackOfPart_X4_placeOf : GoodIn wsX7_barTakeBackOfPart wsX4_placeOf := goodIn_r _ [12, 13, 14, 45, 46, 47, 48, 49, 50] (by decide +kernel) (by decide +kernel)
set_option maxRecDepth 20000 in
theorem gX7_barTakeBackOfPart_X4_placeOf : GoodIn wsX7_barTakeBackOfPart (wsV RX7 281 RX4 yX4_placeOf wsX4_placeOf) := goodIn_app (goodIn_of _ (by decide +kernel)) ggX7_barTakeBackOfPart_X4_placeOf
set_option maxRecDepth 20000 in
theorem ggX7_barTakeBackOfPart_X4_isOwning : GoodIn wsX7_barTakeBackOfPart wsX4_isOwning := goodIn_r _ [18, 19, 20, 21, 22, 11, 23, 13, 45, 46, 47, 48, 49, 50] (by decide +kernel) (by decide +kernel)
set_option maxRecDepth 20000 in
theorem gX7_barTakeBackOfPart_X4_isOwning : GoodIn wsX7_barTakeBackOfPart (wsV RX7 133 RX4 yX4_isOwning wsX4_isOwning) := goodIn_app (goodIn_of _ (by decide +kernel)) ggX7_barTakeBackOfPart_X4_isOwning
theorem dX7_barTakeBackOfPart_0 : decode cX7_barTakeBackOfPart 0 = .ok (.aload_n 1, 1) := by decide +kernel
theorem dX7_barTakeBackOfPart_1 : decode cX7_barTakeBackOfPart 1 = .ok (.getfield 344, 3) := by decide +kernel
theorem dX7_barTakeBackOfPart_4 : decode cX7_barTakeBackOfPart 4 = .ok (.iconst 5, 1) := by decide +kernel
theorem dX7_barTakeBackOfPart_5 : decode cX7_barTakeBackOfPart 5 = .ok (.if_icmp .ne 17, 3) := by decide +kernel
theorem dX7_barTakeBackOfPart_8 : decode cX7_barTakeBackOfPart 8 = .ok (.aload_n 0, 1) := by decide +kernel
theorem dX7_barTakeBackOfPart_9 : decode cX7_barTakeBackOfPart 9 = .ok (.getfield 11, 3) := by decide +kernel
theorem dX7_barTakeBackOfPart_12 : decode cX7_barTakeBackOfPart 12 = .ok (.aload_n 1, 1) := by decide +kernel
theorem dX7_barTakeBackOfPart_13 : decode cX7_barTakeBackOfPart 13 = .ok (.getfield 348, 3) := by decide +kernel
theorem dX7_barTakeBackOfPart_16 : decode cX7_barTakeBackOfPart 16 = .ok (.aaload, 1) := by decide +kernel
theorem dX7_barTakeBackOfPart_17 : decode cX7_barTakeBackOfPart 17 = .ok (.iconst 0, 1) := by decide +kernel
theorem dX7_barTakeBackOfPart_18 : decode cX7_barTakeBackOfPart 18 = .ok (.putfield 126, 3) := by decide +kernel
theorem dX7_barTakeBackOfPart_21 : decode cX7_barTakeBackOfPart 21 = .ok (.return_, 1) := by decide +kernel
theorem dX7_barTakeBackOfPart_22 : decode cX7_barTakeBackOfPart 22 = .ok (.aload_n 0, 1) := by decide +kernel
theorem dX7_barTakeBackOfPart_23 : decode cX7_barTakeBackOfPart 23 = .ok (.getfield 48, 3) := by decide +kernel
theorem dX7_barTakeBackOfPart_26 : decode cX7_barTakeBackOfPart 26 = .ok (.aload_n 1, 1) := by decide +kernel
theorem dX7_barTakeBackOfPart_27 : decode cX7_barTakeBackOfPart 27 = .ok (.getfield 345, 3) := by decide +kernel
theorem dX7_barTakeBackOfPart_30 : decode cX7_barTakeBackOfPart 30 = .ok (.invokevirtual 281, 3) := by decide +kernel
theorem dX7_barTakeBackOfPart_33 : decode cX7_barTakeBackOfPart 33 = .ok (.istore_n 2, 1) := by decide +kernel
theorem dX7_barTakeBackOfPart_34 : decode cX7_barTakeBackOfPart 34 = .ok (.aload_n 0, 1) := by decide +kernel
theorem dX7_barTakeBackOfPart_35 : decode cX7_barTakeBackOfPart 35 = .ok (.getfield 48, 3) := by decide +kernel
theorem dX7_barTakeBackOfPart_38 : decode cX7_barTakeBackOfPart 38 = .ok (.iload_n 2, 1) := by decide +kernel
theorem dX7_barTakeBackOfPart_39 : decode cX7_barTakeBackOfPart 39 = .ok (.invokevirtual 133, 3) := by decide +kernel
theorem dX7_barTakeBackOfPart_42 : decode cX7_barTakeBackOfPart 42 = .ok (.ifCond .eq 21, 3) := by decide +kernel
theorem dX7_barTakeBackOfPart_45 : decode cX7_barTakeBackOfPart 45 = .ok (.aload_n 0, 1) := by decide +kernel
theorem dX7_barTakeBackOfPart_46 : decode cX7_barTakeBackOfPart 46 = .ok (.getfield 11, 3) := by decide +kernel
theorem dX7_barTakeBackOfPart_49 : decode cX7_barTakeBackOfPart 49 = .ok (.aload_n 0, 1) := by decide +kernel
theorem dX7_barTakeBackOfPart_50 : decode cX7_barTakeBackOfPart 50 = .ok (.getfield 48, 3) := by decide +kernel
theorem dX7_barTakeBackOfPart_53 : decode cX7_barTakeBackOfPart 53 = .ok (.getfield 118, 3) := by decide +kernel
theorem dX7_barTakeBackOfPart_56 : decode cX7_barTakeBackOfPart 56 = .ok (.iload_n 2, 1) := by decide +kernel
theorem dX7_barTakeBackOfPart_57 : decode cX7_barTakeBackOfPart 57 = .ok (.iaload, 1) := by decide +kernel
theorem dX7_barTakeBackOfPart_58 : decode cX7_barTakeBackOfPart 58 = .ok (.aaload, 1) := by decide +kernel
theorem dX7_barTakeBackOfPart_59 : decode cX7_barTakeBackOfPart 59 = .ok (.iconst 0, 1) := by decide +kernel
theorem dX7_barTakeBackOfPart_60 : decode cX7_barTakeBackOfPart 60 = .ok (.putfield 126, 3) := by decide +kernel
theorem dX7_barTakeBackOfPart_63 : decode cX7_barTakeBackOfPart 63 = .ok (.return_, 1) := by decide +kernel
set_option maxRecDepth 20000 in
theorem ggX7_moveAll_X0_isOf : GoodIn wsX7_moveAll wsX0_isOf := goodIn_r _ [7, 8, 9, 173, 174, 175, 176, 177, 178] (by decide +kernel) (by decide +kernel)
set_option maxRecDepth 20000 in
theorem gX7_moveAll_X0_isOf : GoodIn wsX7_moveAll (wsV RX7 202 RX0 yX0_isOf wsX0_isOf) := goodIn_app (goodIn_of _ (by decide +kernel)) ggX7_moveAll_X0_isOf
set_option maxRecDepth 20000 in
theorem ggX7_moveAll_X7_move : GoodIn wsX7_moveAll wsX7_move := goodIn_r _ [14, 15, 16, 17, 18, 19, 20, 21, 22, 23, 24, 25, 26, 27, 1, 28, 29, 30, 31, 32, 33, 34, 35, 36, 37, 38, 39, 13, 40, 41, 42, 43, 44, 45, 46, 47, 48, 49, 50, 51, 52, 53, 54, 55, 56, 57, 58, 59, 60, 61, 62, 63, 64, 65, 66, 67, 68, 69, 70, 71, 72, 73, 74, 75, 76, 77, 78, 79, 80, 81, 82, 83, 84, 85, 86, 87, 88, 89, 90, 91, 92, 93, 94, 95, 96, 97, 98, 99, 100, 101, 102, 103, 6, 104, 105, 106, 107, 108, 109, 110, 111, 112, 113, 114, 115, 116, 117, 118, 119, 120, 121, 122, 123, 124, 125, 126, 127, 128, 129, 130, 131, 132, 133, 134, 135, 136, 137, 138, 139, 140, 141, 142, 143, 144, 145, 146, 147, 148, 149, 150, 151, 152, 153, 154, 155, 156, 157, 158, 159, 160, 161, 162, 163, 164, 165, 166, 167, 168, 169, 179, 180, 181, 182, 183, 184, 173, 174, 175, 176, 177, 178, 185, 186, 187, 188, 189, 190, 191, 192, 193, 194, 195, 196, 197, 198, 199, 170, 171, 172] (by decide +kernel) (by decide +kernel)
set_option maxRecDepth 20000 in
theorem gX7_moveAll_X7_move : GoodIn wsX7_moveAll (wsV RX7 426 RX7 yX7_move wsX7_move) := goodIn_app (goodIn_of _ (by decide +kernel)) ggX7_moveAll_X7_move
theorem dX7_moveAll_0 : decode cX7_moveAll 0 = .ok (.iconst 0, 1) := by decide +kernel
theorem dX7_moveAll_1 : decode cX7_moveAll 1 = .ok (.istore_n 3, 1) := by decide +kernel
theorem dX7_moveAll_2 : decode cX7_moveAll 2 = .ok (.iload_n 3, 1) := by decide +kernel
theorem dX7_moveAll_3 : decode cX7_moveAll 3 = .ok (.bipush 24, 2) := by decide +kernel
theorem dX7_moveAll_5 : decode cX7_moveAll 5 = .ok (.if_icmp .ge 36, 3) := by decide +kernel
theorem dX7_moveAll_8 : decode cX7_moveAll 8 = .ok (.aload_n 0, 1) := by decide +kernel
theorem dX7_moveAll_9 : decode cX7_moveAll 9 = .ok (.getfield 19, 3) := by decide +kernel
theorem dX7_moveAll_12 : decode cX7_moveAll 12 = .ok (.getfield 199, 3) := by decide +kernel
theorem dX7_moveAll_15 : decode cX7_moveAll 15 = .ok (.iload_n 3, 1) := by decide +kernel
theorem dX7_moveAll_16 : decode cX7_moveAll 16 = .ok (.aaload, 1) := by decide +kernel
theorem dX7_moveAll_17 : decode cX7_moveAll 17 = .ok (.astore 4, 2) := by decide +kernel
theorem dX7_moveAll_19 : decode cX7_moveAll 19 = .ok (.aload 4, 2) := by decide +kernel
theorem dX7_moveAll_21 : decode cX7_moveAll 21 = .ok (.iload_n 2, 1) := by decide +kernel
theorem dX7_moveAll_22 : decode cX7_moveAll 22 = .ok (.invokevirtual 202, 3) := by decide +kernel
theorem dX7_moveAll_25 : decode cX7_moveAll 25 = .ok (.ifCond .eq 10, 3) := by decide +kernel
theorem dX7_moveAll_28 : decode cX7_moveAll 28 = .ok (.aload_n 0, 1) := by decide +kernel
theorem dX7_moveAll_29 : decode cX7_moveAll 29 = .ok (.aload_n 1, 1) := by decide +kernel
theorem dX7_moveAll_30 : decode cX7_moveAll 30 = .ok (.aload 4, 2) := by decide +kernel
theorem dX7_moveAll_32 : decode cX7_moveAll 32 = .ok (.invokevirtual 426, 3) := by decide +kernel
theorem dX7_moveAll_35 : decode cX7_moveAll 35 = .ok (.iinc 3 1, 3) := by decide +kernel
theorem dX7_moveAll_38 : decode cX7_moveAll 38 = .ok (.goto (-36), 3) := by decide +kernel
theorem dX7_moveAll_41 : decode cX7_moveAll 41 = .ok (.return_, 1) := by decide +kernel
set_option maxRecDepth 20000 in
theorem ggX7_move_X4_placeOf : GoodIn wsX7_move wsX4_placeOf := goodIn_r _ [19, 20, 21, 175, 176, 177, 178, 179, 180] (by decide +kernel) (by decide +kernel)
set_option maxRecDepth 20000 in
theorem gX7_move_X4_placeOf : GoodIn wsX7_move (wsV RX7 281 RX4 yX4_placeOf wsX4_placeOf) := goodIn_app (goodIn_of _ (by decide +kernel)) ggX7_move_X4_placeOf
set_option maxRecDepth 20000 in
theorem ggX7_move_X4_squeeze : GoodIn wsX7_move wsX4_squeeze := goodIn_r _ [25, 20, 21, 26, 27, 28, 175, 176, 177, 178, 179, 180] (by decide +kernel) (by decide +kernel)
set_option maxRecDepth 20000 in
theorem gX7_move_X4_squeeze : GoodIn wsX7_move (wsV RX7 430 RX4 yX4_squeeze wsX4_squeeze) := goodIn_app (goodIn_of _ (by decide +kernel)) ggX7_move_X4_squeeze
set_option maxRecDepth 20000 in
theorem ggX7_move_X3_reckon : GoodIn wsX7_move wsX3_reckon := goodIn_r _ [33, 34, 35, 36, 37, 16, 17, 18, 19, 20, 21, 38, 39, 40, 32, 41, 42, 43, 44, 45, 46, 47, 48, 49, 50, 51, 52, 53, 54, 55, 56, 57, 58, 59, 60, 61, 62, 63, 64, 65, 66, 67, 68, 69, 70, 71, 72, 73, 74, 75, 76, 77, 78, 79, 80, 81, 82, 83, 84, 181, 182, 183, 184, 185, 175, 176, 177, 178, 179, 180] (by decide +kernel) (by decide +kernel)
set_option maxRecDepth 20000 in
theorem gX7_move_X3_reckon : GoodIn wsX7_move (wsV RX7 378 RX3 yX3_reckon wsX3_reckon) := goodIn_app (goodIn_of _ (by decide +kernel)) ggX7_move_X3_reckon
set_option maxRecDepth 20000 in
theorem ggX7_move_X3_value : GoodIn wsX7_move wsX3_value := goodIn_r _ [88, 59, 181, 182, 183] (by decide +kernel) (by decide +kernel)
set_option maxRecDepth 20000 in
theorem gX7_move_X3_value : GoodIn wsX7_move (wsV RX7 434 RX3 yX3_value wsX3_value) := goodIn_app (goodIn_of _ (by decide +kernel)) ggX7_move_X3_value
set_option maxRecDepth 20000 in
theorem ggX7_move_X0_put : GoodIn wsX7_move wsX0_put := goodIn_r _ [93, 94, 165, 166, 167, 168, 169, 170] (by decide +kernel) (by decide +kernel)
set_option maxRecDepth 20000 in
theorem gX7_move_X0_put : GoodIn wsX7_move (wsV RX7 437 RX0 yX0_put wsX0_put) := goodIn_app (goodIn_of _ (by decide +kernel)) ggX7_move_X0_put
set_option maxRecDepth 20000 in
theorem ggX7_move_X7_nearest : GoodIn wsX7_move wsX7_nearest := goodIn_r _ [97, 98, 99, 71, 100, 101, 102, 103] (by decide +kernel) (by decide +kernel)
set_option maxRecDepth 20000 in
theorem gX7_move_X7_nearest : GoodIn wsX7_move (va_wsS RX7 304 yX7_nearest wsX7_nearest) := goodIn_app (goodIn_of _ (by decide +kernel)) ggX7_move_X7_nearest
set_option maxRecDepth 20000 in
theorem ggX7_move_X7_splitOff : GoodIn wsX7_move wsX7_splitOff := goodIn_r _ [107, 12, 7, 108, 11, 1, 109, 4, 13, 110, 111, 112, 113, 27, 114, 115, 14, 116, 117, 118, 119, 120, 121, 122, 123, 124, 125, 126, 127, 128, 129, 130, 131, 15, 16, 17, 18, 19, 20, 21, 22, 23, 24, 25, 26, 28, 89, 90, 91, 92, 93, 94, 159, 160, 161, 162, 163, 164, 148, 149, 150, 151, 152, 153, 154, 155, 156, 157, 158, 171, 172, 173, 174, 175, 176, 177, 178, 179, 180, 165, 166, 167, 168, 169, 170, 186, 187, 188] (by decide +kernel) (by decide +kernel)
set_option maxRecDepth 20000 in
theorem gX7_move_X7_splitOff : GoodIn wsX7_move (wsV RX7 440 RX7 yX7_splitOff wsX7_splitOff) := goodIn_app (goodIn_of _ (by decide +kernel)) ggX7_move_X7_splitOff
set_option maxRecDepth 20000 in
theorem ggX7_move_X4_isOwning : GoodIn wsX7_move wsX4_isOwning := goodIn_r _ [135, 48, 49, 50, 51, 18, 52, 20, 175, 176, 177, 178, 179, 180] (by decide +kernel) (by decide +kernel)
set_option maxRecDepth 20000 in
theorem gX7_move_X4_isOwning : GoodIn wsX7_move (wsV RX7 133 RX4 yX4_isOwning wsX4_isOwning) := goodIn_app (goodIn_of _ (by decide +kernel)) ggX7_move_X4_isOwning
set_option maxRecDepth 20000 in
theorem ggX7_move_X6_find : GoodIn wsX7_move wsX6_find := goodIn_r _ [139, 127, 128, 129, 120, 130, 131, 124, 186, 187, 188, 165, 166, 167, 168, 169, 170] (by decide +kernel) (by decide +kernel)
set_option maxRecDepth 20000 in
theorem gX7_move_X6_find : GoodIn wsX7_move (wsV RX7 273 RX6 yX6_find wsX6_find) := goodIn_app (goodIn_of _ (by decide +kernel)) ggX7_move_X6_find
set_option maxRecDepth 20000 in
theorem ggX7_move_X7_joinBack : GoodIn wsX7_move wsX7_joinBack := goodIn_r _ [143, 1, 4, 2, 7, 8, 108, 11, 14, 22, 23, 24, 18, 25, 20, 21, 26, 27, 28, 89, 90, 91, 92, 93, 94, 144, 145, 146, 120, 147, 124, 123, 148, 149, 150, 151, 152, 153, 154, 155, 156, 157, 158, 165, 166, 167, 168, 169, 170, 159, 160, 161, 162, 163, 164, 171, 172, 173, 174, 175, 176, 177, 178, 179, 180, 186, 187, 188] (by decide +kernel) (by decide +kernel)
set_option maxRecDepth 20000 in
theorem gX7_move_X7_joinBack : GoodIn wsX7_move (wsV RX7 443 RX7 yX7_joinBack wsX7_joinBack) := goodIn_app (goodIn_of _ (by decide +kernel)) ggX7_move_X7_joinBack
theorem dX7_move_0 : decode cX7_move 0 = .ok (.aload_n 0, 1) := by decide +kernel
theorem dX7_move_1 : decode cX7_move 1 = .ok (.getfield 48, 3) := by decide +kernel
theorem dX7_move_4 : decode cX7_move 4 = .ok (.aload_n 1, 1) := by decide +kernel
theorem dX7_move_5 : decode cX7_move 5 = .ok (.getfield 345, 3) := by decide +kernel
theorem dX7_move_8 : decode cX7_move 8 = .ok (.invokevirtual 281, 3) := by decide +kernel
theorem dX7_move_11 : decode cX7_move 11 = .ok (.istore_n 3, 1) := by decide +kernel
theorem dX7_move_12 : decode cX7_move 12 = .ok (.aload_n 1, 1) := by decide +kernel
theorem dX7_move_13 : decode cX7_move 13 = .ok (.getfield 344, 3) := by decide +kernel
theorem dX7_move_16 : decode cX7_move 16 = .ok (.tableswitch 201 0 6 #[44, 201, 65, 114, 144, 159, 168], 44) := by decide +kernel
theorem dX7_move_60 : decode cX7_move 60 = .ok (.aload_n 0, 1) := by decide +kernel
theorem dX7_move_61 : decode cX7_move 61 = .ok (.getfield 48, 3) := by decide +kernel
theorem dX7_move_64 : decode cX7_move 64 = .ok (.aload_n 2, 1) := by decide +kernel
theorem dX7_move_65 : decode cX7_move 65 = .ok (.getfield 109, 3) := by decide +kernel
theorem dX7_move_68 : decode cX7_move 68 = .ok (.iconst 1, 1) := by decide +kernel
theorem dX7_move_69 : decode cX7_move 69 = .ok (.aload_n 1, 1) := by decide +kernel
theorem dX7_move_70 : decode cX7_move 70 = .ok (.getfield 345, 3) := by decide +kernel
theorem dX7_move_73 : decode cX7_move 73 = .ok (.ishl, 1) := by decide +kernel
theorem dX7_move_74 : decode cX7_move 74 = .ok (.invokevirtual 430, 3) := by decide +kernel
theorem dX7_move_77 : decode cX7_move 77 = .ok (.pop, 1) := by decide +kernel
theorem dX7_move_78 : decode cX7_move 78 = .ok (.goto 139, 3) := by decide +kernel
theorem dX7_move_81 : decode cX7_move 81 = .ok (.aload_n 0, 1) := by decide +kernel
theorem dX7_move_82 : decode cX7_move 82 = .ok (.getfield 55, 3) := by decide +kernel
theorem dX7_move_85 : decode cX7_move 85 = .ok (.aload_n 1, 1) := by decide +kernel
theorem dX7_move_86 : decode cX7_move 86 = .ok (.getfield 174, 3) := by decide +kernel
theorem dX7_move_89 : decode cX7_move 89 = .ok (.aload_n 0, 1) := by decide +kernel
theorem dX7_move_90 : decode cX7_move 90 = .ok (.getfield 11, 3) := by decide +kernel
theorem dX7_move_93 : decode cX7_move 93 = .ok (.aload_n 2, 1) := by decide +kernel
theorem dX7_move_94 : decode cX7_move 94 = .ok (.getfield 112, 3) := by decide +kernel
theorem dX7_move_97 : decode cX7_move 97 = .ok (.aaload, 1) := by decide +kernel
theorem dX7_move_98 : decode cX7_move 98 = .ok (.getfield 205, 3) := by decide +kernel
theorem dX7_move_101 : decode cX7_move 101 = .ok (.aload_n 2, 1) := by decide +kernel
theorem dX7_move_102 : decode cX7_move 102 = .ok (.getfield 320, 3) := by decide +kernel
theorem dX7_move_105 : decode cX7_move 105 = .ok (.invokevirtual 378, 3) := by decide +kernel
theorem dX7_move_108 : decode cX7_move 108 = .ok (.pop, 1) := by decide +kernel
theorem dX7_move_109 : decode cX7_move 109 = .ok (.aload_n 2, 1) := by decide +kernel
theorem dX7_move_110 : decode cX7_move 110 = .ok (.aload_n 0, 1) := by decide +kernel
theorem dX7_move_111 : decode cX7_move 111 = .ok (.getfield 48, 3) := by decide +kernel
theorem dX7_move_114 : decode cX7_move 114 = .ok (.getfield 238, 3) := by decide +kernel
theorem dX7_move_117 : decode cX7_move 117 = .ok (.aload_n 0, 1) := by decide +kernel
theorem dX7_move_118 : decode cX7_move 118 = .ok (.getfield 55, 3) := by decide +kernel
theorem dX7_move_121 : decode cX7_move 121 = .ok (.invokevirtual 434, 3) := by decide +kernel
theorem dX7_move_124 : decode cX7_move 124 = .ok (.invokevirtual 437, 3) := by decide +kernel
theorem dX7_move_127 : decode cX7_move 127 = .ok (.goto 90, 3) := by decide +kernel
theorem dX7_move_130 : decode cX7_move 130 = .ok (.iload_n 3, 1) := by decide +kernel
theorem dX7_move_131 : decode cX7_move 131 = .ok (.iconst (-1), 1) := by decide +kernel
theorem dX7_move_132 : decode cX7_move 132 = .ok (.if_icmp .eq 85, 3) := by decide +kernel
theorem dX7_move_135 : decode cX7_move 135 = .ok (.aload_n 2, 1) := by decide +kernel
theorem dX7_move_136 : decode cX7_move 136 = .ok (.iload_n 3, 1) := by decide +kernel
theorem dX7_move_137 : decode cX7_move 137 = .ok (.aload_n 2, 1) := by decide +kernel
theorem dX7_move_138 : decode cX7_move 138 = .ok (.getfield 109, 3) := by decide +kernel
theorem dX7_move_141 : decode cX7_move 141 = .ok (.iload_n 3, 1) := by decide +kernel
theorem dX7_move_142 : decode cX7_move 142 = .ok (.iaload, 1) := by decide +kernel
theorem dX7_move_143 : decode cX7_move 143 = .ok (.aload_n 1, 1) := by decide +kernel
theorem dX7_move_144 : decode cX7_move 144 = .ok (.getfield 348, 3) := by decide +kernel
theorem dX7_move_147 : decode cX7_move 147 = .ok (.aload_n 1, 1) := by decide +kernel
theorem dX7_move_148 : decode cX7_move 148 = .ok (.getfield 358, 3) := by decide +kernel
theorem dX7_move_151 : decode cX7_move 151 = .ok (.invokestatic 304, 3) := by decide +kernel
theorem dX7_move_154 : decode cX7_move 154 = .ok (.invokevirtual 437, 3) := by decide +kernel
theorem dX7_move_157 : decode cX7_move 157 = .ok (.goto 60, 3) := by decide +kernel
theorem dX7_move_160 : decode cX7_move 160 = .ok (.aload_n 2, 1) := by decide +kernel
theorem dX7_move_161 : decode cX7_move 161 = .ok (.aload_n 0, 1) := by decide +kernel
theorem dX7_move_162 : decode cX7_move 162 = .ok (.getfield 48, 3) := by decide +kernel
theorem dX7_move_165 : decode cX7_move 165 = .ok (.getfield 238, 3) := by decide +kernel
theorem dX7_move_168 : decode cX7_move 168 = .ok (.iconst 0, 1) := by decide +kernel
theorem dX7_move_169 : decode cX7_move 169 = .ok (.invokevirtual 437, 3) := by decide +kernel
theorem dX7_move_172 : decode cX7_move 172 = .ok (.goto 45, 3) := by decide +kernel
theorem dX7_move_175 : decode cX7_move 175 = .ok (.aload_n 0, 1) := by decide +kernel
theorem dX7_move_176 : decode cX7_move 176 = .ok (.aload_n 1, 1) := by decide +kernel
theorem dX7_move_177 : decode cX7_move 177 = .ok (.aload_n 2, 1) := by decide +kernel
theorem dX7_move_178 : decode cX7_move 178 = .ok (.invokevirtual 440, 3) := by decide +kernel
theorem dX7_move_181 : decode cX7_move 181 = .ok (.goto 36, 3) := by decide +kernel
theorem dX7_move_184 : decode cX7_move 184 = .ok (.aload_n 0, 1) := by decide +kernel
theorem dX7_move_185 : decode cX7_move 185 = .ok (.getfield 48, 3) := by decide +kernel
theorem dX7_move_188 : decode cX7_move 188 = .ok (.iload_n 3, 1) := by decide +kernel
theorem dX7_move_189 : decode cX7_move 189 = .ok (.invokevirtual 133, 3) := by decide +kernel
theorem dX7_move_192 : decode cX7_move 192 = .ok (.ifCond .eq 25, 3) := by decide +kernel
theorem dX7_move_195 : decode cX7_move 195 = .ok (.aload_n 0, 1) := by decide +kernel
theorem dX7_move_196 : decode cX7_move 196 = .ok (.aload_n 1, 1) := by decide +kernel
theorem dX7_move_197 : decode cX7_move 197 = .ok (.aload_n 2, 1) := by decide +kernel
theorem dX7_move_198 : decode cX7_move 198 = .ok (.aload_n 0, 1) := by decide +kernel
theorem dX7_move_199 : decode cX7_move 199 = .ok (.getfield 19, 3) := by decide +kernel
theorem dX7_move_202 : decode cX7_move 202 = .ok (.aload_n 2, 1) := by decide +kernel
theorem dX7_move_203 : decode cX7_move 203 = .ok (.getfield 109, 3) := by decide +kernel
theorem dX7_move_206 : decode cX7_move 206 = .ok (.iload_n 3, 1) := by decide +kernel
theorem dX7_move_207 : decode cX7_move 207 = .ok (.iaload, 1) := by decide +kernel
theorem dX7_move_208 : decode cX7_move 208 = .ok (.invokevirtual 273, 3) := by decide +kernel
theorem dX7_move_211 : decode cX7_move 211 = .ok (.invokevirtual 443, 3) := by decide +kernel
theorem dX7_move_214 : decode cX7_move 214 = .ok (.goto 3, 3) := by decide +kernel
theorem dX7_move_217 : decode cX7_move 217 = .ok (.return_, 1) := by decide +kernel
set_option maxRecDepth 20000 in
theorem ggX7_splitOff_X7_newRecord : GoodIn wsX7_splitOff wsX7_newRecord := goodIn_r _ [14, 2, 15, 16, 17, 18, 19, 20, 21, 22, 23, 24, 25, 26, 27, 28, 29, 30, 31, 32, 58, 59, 60, 61, 62, 63, 64, 65, 66, 67, 68, 69, 70, 71, 72, 85, 86, 87, 79, 80, 81, 82, 83, 84] (by decide +kernel) (by decide +kernel)
set_option maxRecDepth 20000 in
theorem gX7_splitOff_X7_newRecord : GoodIn wsX7_splitOff (wsV RX7 301 RX7 yX7_newRecord wsX7_newRecord) := goodIn_app (goodIn_of _ (by decide +kernel)) ggX7_splitOff_X7_newRecord
set_option maxRecDepth 20000 in
theorem ggX7_splitOff_X4_placeOf : GoodIn wsX7_splitOff wsX4_placeOf := goodIn_r _ [37, 38, 39, 73, 74, 75, 76, 77, 78] (by decide +kernel) (by decide +kernel)
set_option maxRecDepth 20000 in
theorem gX7_splitOff_X4_placeOf : GoodIn wsX7_splitOff (wsV RX7 281 RX4 yX4_placeOf wsX4_placeOf) := goodIn_app (goodIn_of _ (by decide +kernel)) ggX7_splitOff_X4_placeOf
set_option maxRecDepth 20000 in
theorem ggX7_splitOff_X4_squeeze : GoodIn wsX7_splitOff wsX4_squeeze := goodIn_r _ [43, 38, 39, 44, 13, 45, 73, 74, 75, 76, 77, 78] (by decide +kernel) (by decide +kernel)
set_option maxRecDepth 20000 in
theorem gX7_splitOff_X4_squeeze : GoodIn wsX7_splitOff (wsV RX7 430 RX4 yX4_squeeze wsX4_squeeze) := goodIn_app (goodIn_of _ (by decide +kernel)) ggX7_splitOff_X4_squeeze
set_option maxRecDepth 20000 in
theorem ggX7_splitOff_X0_put : GoodIn wsX7_splitOff wsX0_put := goodIn_r _ [50, 51, 79, 80, 81, 82, 83, 84] (by decide +kernel) (by decide +kernel)
set_option maxRecDepth 20000 in
theorem gX7_splitOff_X0_put : GoodIn wsX7_splitOff (wsV RX7 437 RX0 yX0_put wsX0_put) := goodIn_app (goodIn_of _ (by decide +kernel)) ggX7_splitOff_X0_put
theorem dX7_splitOff_0 : decode cX7_splitOff 0 = .ok (.aload_n 0, 1) := by decide +kernel
theorem dX7_splitOff_1 : decode cX7_splitOff 1 = .ok (.aload_n 1, 1) := by decide +kernel
theorem dX7_splitOff_2 : decode cX7_splitOff 2 = .ok (.getfield 348, 3) := by decide +kernel
theorem dX7_splitOff_5 : decode cX7_splitOff 5 = .ok (.invokevirtual 301, 3) := by decide +kernel
theorem dX7_splitOff_8 : decode cX7_splitOff 8 = .ok (.astore_n 3, 1) := by decide +kernel
theorem dX7_splitOff_9 : decode cX7_splitOff 9 = .ok (.aload_n 3, 1) := by decide +kernel
theorem dX7_splitOff_10 : decode cX7_splitOff 10 = .ok (.ifnonnull 4, 3) := by decide +kernel
theorem dX7_splitOff_13 : decode cX7_splitOff 13 = .ok (.return_, 1) := by decide +kernel
theorem dX7_splitOff_14 : decode cX7_splitOff 14 = .ok (.aload_n 0, 1) := by decide +kernel
theorem dX7_splitOff_15 : decode cX7_splitOff 15 = .ok (.getfield 11, 3) := by decide +kernel
theorem dX7_splitOff_18 : decode cX7_splitOff 18 = .ok (.aload_n 1, 1) := by decide +kernel
theorem dX7_splitOff_19 : decode cX7_splitOff 19 = .ok (.getfield 348, 3) := by decide +kernel
theorem dX7_splitOff_22 : decode cX7_splitOff 22 = .ok (.aaload, 1) := by decide +kernel
theorem dX7_splitOff_23 : decode cX7_splitOff 23 = .ok (.getfield 115, 3) := by decide +kernel
theorem dX7_splitOff_26 : decode cX7_splitOff 26 = .ok (.astore 4, 2) := by decide +kernel
theorem dX7_splitOff_28 : decode cX7_splitOff 28 = .ok (.iconst 0, 1) := by decide +kernel
theorem dX7_splitOff_29 : decode cX7_splitOff 29 = .ok (.istore 5, 2) := by decide +kernel
theorem dX7_splitOff_31 : decode cX7_splitOff 31 = .ok (.iload 5, 2) := by decide +kernel
theorem dX7_splitOff_33 : decode cX7_splitOff 33 = .ok (.aload 4, 2) := by decide +kernel
theorem dX7_splitOff_35 : decode cX7_splitOff 35 = .ok (.getfield 238, 3) := by decide +kernel
theorem dX7_splitOff_38 : decode cX7_splitOff 38 = .ok (.if_icmp .ge 46, 3) := by decide +kernel
theorem dX7_splitOff_41 : decode cX7_splitOff 41 = .ok (.aload_n 0, 1) := by decide +kernel
theorem dX7_splitOff_42 : decode cX7_splitOff 42 = .ok (.getfield 48, 3) := by decide +kernel
theorem dX7_splitOff_45 : decode cX7_splitOff 45 = .ok (.aload 4, 2) := by decide +kernel
theorem dX7_splitOff_47 : decode cX7_splitOff 47 = .ok (.getfield 246, 3) := by decide +kernel
theorem dX7_splitOff_50 : decode cX7_splitOff 50 = .ok (.iload 5, 2) := by decide +kernel
theorem dX7_splitOff_52 : decode cX7_splitOff 52 = .ok (.iaload, 1) := by decide +kernel
theorem dX7_splitOff_53 : decode cX7_splitOff 53 = .ok (.invokevirtual 281, 3) := by decide +kernel
theorem dX7_splitOff_56 : decode cX7_splitOff 56 = .ok (.istore 6, 2) := by decide +kernel
theorem dX7_splitOff_58 : decode cX7_splitOff 58 = .ok (.iload 6, 2) := by decide +kernel
theorem dX7_splitOff_60 : decode cX7_splitOff 60 = .ok (.iconst (-1), 1) := by decide +kernel
theorem dX7_splitOff_61 : decode cX7_splitOff 61 = .ok (.if_icmp .eq 17, 3) := by decide +kernel
theorem dX7_splitOff_64 : decode cX7_splitOff 64 = .ok (.aload_n 3, 1) := by decide +kernel
theorem dX7_splitOff_65 : decode cX7_splitOff 65 = .ok (.getfield 109, 3) := by decide +kernel
theorem dX7_splitOff_68 : decode cX7_splitOff 68 = .ok (.iload 5, 2) := by decide +kernel
theorem dX7_splitOff_70 : decode cX7_splitOff 70 = .ok (.aload_n 2, 1) := by decide +kernel
theorem dX7_splitOff_71 : decode cX7_splitOff 71 = .ok (.getfield 109, 3) := by decide +kernel
theorem dX7_splitOff_74 : decode cX7_splitOff 74 = .ok (.iload 6, 2) := by decide +kernel
theorem dX7_splitOff_76 : decode cX7_splitOff 76 = .ok (.iaload, 1) := by decide +kernel
theorem dX7_splitOff_77 : decode cX7_splitOff 77 = .ok (.iastore, 1) := by decide +kernel
theorem dX7_splitOff_78 : decode cX7_splitOff 78 = .ok (.iinc 5 1, 3) := by decide +kernel
theorem dX7_splitOff_81 : decode cX7_splitOff 81 = .ok (.goto (-50), 3) := by decide +kernel
theorem dX7_splitOff_84 : decode cX7_splitOff 84 = .ok (.aload_n 0, 1) := by decide +kernel
theorem dX7_splitOff_85 : decode cX7_splitOff 85 = .ok (.getfield 48, 3) := by decide +kernel
theorem dX7_splitOff_88 : decode cX7_splitOff 88 = .ok (.aload_n 2, 1) := by decide +kernel
theorem dX7_splitOff_89 : decode cX7_splitOff 89 = .ok (.getfield 109, 3) := by decide +kernel
theorem dX7_splitOff_92 : decode cX7_splitOff 92 = .ok (.aload_n 1, 1) := by decide +kernel
theorem dX7_splitOff_93 : decode cX7_splitOff 93 = .ok (.getfield 358, 3) := by decide +kernel
theorem dX7_splitOff_96 : decode cX7_splitOff 96 = .ok (.invokevirtual 430, 3) := by decide +kernel
theorem dX7_splitOff_99 : decode cX7_splitOff 99 = .ok (.istore 5, 2) := by decide +kernel
theorem dX7_splitOff_101 : decode cX7_splitOff 101 = .ok (.aload_n 2, 1) := by decide +kernel
theorem dX7_splitOff_102 : decode cX7_splitOff 102 = .ok (.iload 5, 2) := by decide +kernel
theorem dX7_splitOff_104 : decode cX7_splitOff 104 = .ok (.aload_n 3, 1) := by decide +kernel
theorem dX7_splitOff_105 : decode cX7_splitOff 105 = .ok (.getfield 221, 3) := by decide +kernel
theorem dX7_splitOff_108 : decode cX7_splitOff 108 = .ok (.invokevirtual 437, 3) := by decide +kernel
theorem dX7_splitOff_111 : decode cX7_splitOff 111 = .ok (.return_, 1) := by decide +kernel
set_option maxRecDepth 20000 in
theorem ggX7_joinBack_X4_squeeze : GoodIn wsX7_joinBack wsX4_squeeze := goodIn_r _ [13, 14, 15, 16, 17, 18, 59, 60, 61, 62, 63, 64] (by decide +kernel) (by decide +kernel)
set_option maxRecDepth 20000 in
theorem gX7_joinBack_X4_squeeze : GoodIn wsX7_joinBack (wsV RX7 430 RX4 yX4_squeeze wsX4_squeeze) := goodIn_app (goodIn_of _ (by decide +kernel)) ggX7_joinBack_X4_squeeze
set_option maxRecDepth 20000 in
theorem ggX7_joinBack_X0_put : GoodIn wsX7_joinBack wsX0_put := goodIn_r _ [23, 24, 43, 44, 45, 46, 47, 48] (by decide +kernel) (by decide +kernel)
set_option maxRecDepth 20000 in
theorem gX7_joinBack_X0_put : GoodIn wsX7_joinBack (wsV RX7 437 RX0 yX0_put wsX0_put) := goodIn_app (goodIn_of _ (by decide +kernel)) ggX7_joinBack_X0_put
set_option maxRecDepth 20000 in
theorem ggX7_joinBack_X6_remove : GoodIn wsX7_joinBack wsX6_remove := goodIn_r _ [29, 30, 31, 43, 44, 45, 46, 47, 48, 65, 66, 67] (by decide +kernel) (by decide +kernel)
set_option maxRecDepth 20000 in
theorem gX7_joinBack_X6_remove : GoodIn wsX7_joinBack (wsV RX7 227 RX6 yX6_remove wsX6_remove) := goodIn_app (goodIn_of _ (by decide +kernel)) ggX7_joinBack_X6_remove
theorem dX7_joinBack_0 : decode cX7_joinBack 0 = .ok (.aload_n 3, 1) := by decide +kernel
theorem dX7_joinBack_1 : decode cX7_joinBack 1 = .ok (.ifnonnull 4, 3) := by decide +kernel
theorem dX7_joinBack_4 : decode cX7_joinBack 4 = .ok (.return_, 1) := by decide +kernel
theorem dX7_joinBack_5 : decode cX7_joinBack 5 = .ok (.aload_n 0, 1) := by decide +kernel
theorem dX7_joinBack_6 : decode cX7_joinBack 6 = .ok (.getfield 48, 3) := by decide +kernel
theorem dX7_joinBack_9 : decode cX7_joinBack 9 = .ok (.aload_n 2, 1) := by decide +kernel
theorem dX7_joinBack_10 : decode cX7_joinBack 10 = .ok (.getfield 109, 3) := by decide +kernel
theorem dX7_joinBack_13 : decode cX7_joinBack 13 = .ok (.iconst 1, 1) := by decide +kernel
theorem dX7_joinBack_14 : decode cX7_joinBack 14 = .ok (.aload_n 1, 1) := by decide +kernel
theorem dX7_joinBack_15 : decode cX7_joinBack 15 = .ok (.getfield 345, 3) := by decide +kernel
theorem dX7_joinBack_18 : decode cX7_joinBack 18 = .ok (.ishl, 1) := by decide +kernel
theorem dX7_joinBack_19 : decode cX7_joinBack 19 = .ok (.invokevirtual 430, 3) := by decide +kernel
theorem dX7_joinBack_22 : decode cX7_joinBack 22 = .ok (.istore 4, 2) := by decide +kernel
theorem dX7_joinBack_24 : decode cX7_joinBack 24 = .ok (.aload_n 0, 1) := by decide +kernel
theorem dX7_joinBack_25 : decode cX7_joinBack 25 = .ok (.getfield 11, 3) := by decide +kernel
theorem dX7_joinBack_28 : decode cX7_joinBack 28 = .ok (.aload_n 3, 1) := by decide +kernel
theorem dX7_joinBack_29 : decode cX7_joinBack 29 = .ok (.getfield 112, 3) := by decide +kernel
theorem dX7_joinBack_32 : decode cX7_joinBack 32 = .ok (.aaload, 1) := by decide +kernel
theorem dX7_joinBack_33 : decode cX7_joinBack 33 = .ok (.getfield 115, 3) := by decide +kernel
theorem dX7_joinBack_36 : decode cX7_joinBack 36 = .ok (.getfield 238, 3) := by decide +kernel
theorem dX7_joinBack_39 : decode cX7_joinBack 39 = .ok (.istore 5, 2) := by decide +kernel
theorem dX7_joinBack_41 : decode cX7_joinBack 41 = .ok (.iconst 0, 1) := by decide +kernel
theorem dX7_joinBack_42 : decode cX7_joinBack 42 = .ok (.istore 6, 2) := by decide +kernel
theorem dX7_joinBack_44 : decode cX7_joinBack 44 = .ok (.iload 6, 2) := by decide +kernel
theorem dX7_joinBack_46 : decode cX7_joinBack 46 = .ok (.iload 5, 2) := by decide +kernel
theorem dX7_joinBack_48 : decode cX7_joinBack 48 = .ok (.if_icmp .ge 25, 3) := by decide +kernel
theorem dX7_joinBack_51 : decode cX7_joinBack 51 = .ok (.aload_n 2, 1) := by decide +kernel
theorem dX7_joinBack_52 : decode cX7_joinBack 52 = .ok (.iload 4, 2) := by decide +kernel
theorem dX7_joinBack_54 : decode cX7_joinBack 54 = .ok (.iload 6, 2) := by decide +kernel
theorem dX7_joinBack_56 : decode cX7_joinBack 56 = .ok (.iadd, 1) := by decide +kernel
theorem dX7_joinBack_57 : decode cX7_joinBack 57 = .ok (.aload_n 3, 1) := by decide +kernel
theorem dX7_joinBack_58 : decode cX7_joinBack 58 = .ok (.getfield 109, 3) := by decide +kernel
theorem dX7_joinBack_61 : decode cX7_joinBack 61 = .ok (.iload 6, 2) := by decide +kernel
theorem dX7_joinBack_63 : decode cX7_joinBack 63 = .ok (.iaload, 1) := by decide +kernel
theorem dX7_joinBack_64 : decode cX7_joinBack 64 = .ok (.invokevirtual 437, 3) := by decide +kernel
theorem dX7_joinBack_67 : decode cX7_joinBack 67 = .ok (.iinc 6 1, 3) := by decide +kernel
theorem dX7_joinBack_70 : decode cX7_joinBack 70 = .ok (.goto (-26), 3) := by decide +kernel
theorem dX7_joinBack_73 : decode cX7_joinBack 73 = .ok (.aload_n 0, 1) := by decide +kernel
theorem dX7_joinBack_74 : decode cX7_joinBack 74 = .ok (.getfield 19, 3) := by decide +kernel
theorem dX7_joinBack_77 : decode cX7_joinBack 77 = .ok (.aload_n 3, 1) := by decide +kernel
theorem dX7_joinBack_78 : decode cX7_joinBack 78 = .ok (.invokevirtual 227, 3) := by decide +kernel
theorem dX7_joinBack_81 : decode cX7_joinBack 81 = .ok (.return_, 1) := by decide +kernel
theorem dX8_init_0 : decode cX8_init 0 = .ok (.aload_n 0, 1) := by decide +kernel
theorem dX8_init_1 : decode cX8_init 1 = .ok (.invokespecial 1, 3) := by decide +kernel
theorem dX8_init_4 : decode cX8_init 4 = .ok (.aload_n 0, 1) := by decide +kernel
theorem dX8_init_5 : decode cX8_init 5 = .ok (.iconst 4, 1) := by decide +kernel
theorem dX8_init_6 : decode cX8_init 6 = .ok (.newarray .int, 2) := by decide +kernel
theorem dX8_init_8 : decode cX8_init 8 = .ok (.putfield 7, 3) := by decide +kernel
theorem dX8_init_11 : decode cX8_init 11 = .ok (.aload_n 0, 1) := by decide +kernel
theorem dX8_init_12 : decode cX8_init 12 = .ok (.iconst 4, 1) := by decide +kernel
theorem dX8_init_13 : decode cX8_init 13 = .ok (.newarray .boolean, 2) := by decide +kernel
theorem dX8_init_15 : decode cX8_init 15 = .ok (.putfield 13, 3) := by decide +kernel
theorem dX8_init_18 : decode cX8_init 18 = .ok (.aload_n 0, 1) := by decide +kernel
theorem dX8_init_19 : decode cX8_init 19 = .ok (.iconst 4, 1) := by decide +kernel
theorem dX8_init_20 : decode cX8_init 20 = .ok (.newarray .int, 2) := by decide +kernel
theorem dX8_init_22 : decode cX8_init 22 = .ok (.putfield 17, 3) := by decide +kernel
theorem dX8_init_25 : decode cX8_init 25 = .ok (.aload_n 0, 1) := by decide +kernel
theorem dX8_init_26 : decode cX8_init 26 = .ok (.bipush 24, 2) := by decide +kernel
theorem dX8_init_28 : decode cX8_init 28 = .ok (.newarray .int, 2) := by decide +kernel
theorem dX8_init_30 : decode cX8_init 30 = .ok (.putfield 20, 3) := by decide +kernel
theorem dX8_init_33 : decode cX8_init 33 = .ok (.aload_n 0, 1) := by decide +kernel
theorem dX8_init_34 : decode cX8_init 34 = .ok (.bipush 24, 2) := by decide +kernel
theorem dX8_init_36 : decode cX8_init 36 = .ok (.newarray .int, 2) := by decide +kernel
theorem dX8_init_38 : decode cX8_init 38 = .ok (.putfield 23, 3) := by decide +kernel
theorem dX8_init_41 : decode cX8_init 41 = .ok (.aload_n 0, 1) := by decide +kernel
theorem dX8_init_42 : decode cX8_init 42 = .ok (.bipush 24, 2) := by decide +kernel
theorem dX8_init_44 : decode cX8_init 44 = .ok (.newarray .int, 2) := by decide +kernel
theorem dX8_init_46 : decode cX8_init 46 = .ok (.putfield 26, 3) := by decide +kernel
theorem dX8_init_49 : decode cX8_init 49 = .ok (.aload_n 0, 1) := by decide +kernel
theorem dX8_init_50 : decode cX8_init 50 = .ok (.bipush 24, 2) := by decide +kernel
theorem dX8_init_52 : decode cX8_init 52 = .ok (.newarray .int, 2) := by decide +kernel
theorem dX8_init_54 : decode cX8_init 54 = .ok (.putfield 29, 3) := by decide +kernel
theorem dX8_init_57 : decode cX8_init 57 = .ok (.aload_n 0, 1) := by decide +kernel
theorem dX8_init_58 : decode cX8_init 58 = .ok (.iconst 4, 1) := by decide +kernel
theorem dX8_init_59 : decode cX8_init 59 = .ok (.newarray .int, 2) := by decide +kernel
theorem dX8_init_61 : decode cX8_init 61 = .ok (.putfield 32, 3) := by decide +kernel
theorem dX8_init_64 : decode cX8_init 64 = .ok (.aload_n 0, 1) := by decide +kernel
theorem dX8_init_65 : decode cX8_init 65 = .ok (.bipush 24, 2) := by decide +kernel
theorem dX8_init_67 : decode cX8_init 67 = .ok (.newarray .int, 2) := by decide +kernel
theorem dX8_init_69 : decode cX8_init 69 = .ok (.putfield 35, 3) := by decide +kernel
theorem dX8_init_72 : decode cX8_init 72 = .ok (.aload_n 0, 1) := by decide +kernel
theorem dX8_init_73 : decode cX8_init 73 = .ok (.bipush 24, 2) := by decide +kernel
theorem dX8_init_75 : decode cX8_init 75 = .ok (.newarray .int, 2) := by decide +kernel
theorem dX8_init_77 : decode cX8_init 77 = .ok (.putfield 38, 3) := by decide +kernel
theorem dX8_init_80 : decode cX8_init 80 = .ok (.aload_n 0, 1) := by decide +kernel
theorem dX8_init_81 : decode cX8_init 81 = .ok (.bipush 24, 2) := by decide +kernel
theorem dX8_init_83 : decode cX8_init 83 = .ok (.newarray .int, 2) := by decide +kernel
theorem dX8_init_85 : decode cX8_init 85 = .ok (.putfield 41, 3) := by decide +kernel
theorem dX8_init_88 : decode cX8_init 88 = .ok (.aload_n 0, 1) := by decide +kernel
theorem dX8_init_89 : decode cX8_init 89 = .ok (.bipush 24, 2) := by decide +kernel
theorem dX8_init_91 : decode cX8_init 91 = .ok (.newarray .int, 2) := by decide +kernel
theorem dX8_init_93 : decode cX8_init 93 = .ok (.putfield 44, 3) := by decide +kernel
theorem dX8_init_96 : decode cX8_init 96 = .ok (.aload_n 0, 1) := by decide +kernel
theorem dX8_init_97 : decode cX8_init 97 = .ok (.bipush 24, 2) := by decide +kernel
theorem dX8_init_99 : decode cX8_init 99 = .ok (.newarray .int, 2) := by decide +kernel
theorem dX8_init_101 : decode cX8_init 101 = .ok (.putfield 47, 3) := by decide +kernel
theorem dX8_init_104 : decode cX8_init 104 = .ok (.aload_n 0, 1) := by decide +kernel
theorem dX8_init_105 : decode cX8_init 105 = .ok (.bipush 24, 2) := by decide +kernel
theorem dX8_init_107 : decode cX8_init 107 = .ok (.newarray .int, 2) := by decide +kernel
theorem dX8_init_109 : decode cX8_init 109 = .ok (.putfield 50, 3) := by decide +kernel
theorem dX8_init_112 : decode cX8_init 112 = .ok (.aload_n 0, 1) := by decide +kernel
theorem dX8_init_113 : decode cX8_init 113 = .ok (.sipush 144, 3) := by decide +kernel
theorem dX8_init_116 : decode cX8_init 116 = .ok (.newarray .int, 2) := by decide +kernel
theorem dX8_init_118 : decode cX8_init 118 = .ok (.putfield 53, 3) := by decide +kernel
theorem dX8_init_121 : decode cX8_init 121 = .ok (.aload_n 0, 1) := by decide +kernel
theorem dX8_init_122 : decode cX8_init 122 = .ok (.sipush 144, 3) := by decide +kernel
theorem dX8_init_125 : decode cX8_init 125 = .ok (.newarray .int, 2) := by decide +kernel
theorem dX8_init_127 : decode cX8_init 127 = .ok (.putfield 56, 3) := by decide +kernel
theorem dX8_init_130 : decode cX8_init 130 = .ok (.aload_n 0, 1) := by decide +kernel
theorem dX8_init_131 : decode cX8_init 131 = .ok (.bipush 24, 2) := by decide +kernel
theorem dX8_init_133 : decode cX8_init 133 = .ok (.newarray .boolean, 2) := by decide +kernel
theorem dX8_init_135 : decode cX8_init 135 = .ok (.putfield 59, 3) := by decide +kernel
theorem dX8_init_138 : decode cX8_init 138 = .ok (.aload_n 0, 1) := by decide +kernel
theorem dX8_init_139 : decode cX8_init 139 = .ok (.bipush 8, 2) := by decide +kernel
theorem dX8_init_141 : decode cX8_init 141 = .ok (.newarray .int, 2) := by decide +kernel
theorem dX8_init_143 : decode cX8_init 143 = .ok (.putfield 62, 3) := by decide +kernel
theorem dX8_init_146 : decode cX8_init 146 = .ok (.aload_n 0, 1) := by decide +kernel
theorem dX8_init_147 : decode cX8_init 147 = .ok (.bipush 12, 2) := by decide +kernel
theorem dX8_init_149 : decode cX8_init 149 = .ok (.newarray .int, 2) := by decide +kernel
theorem dX8_init_151 : decode cX8_init 151 = .ok (.putfield 65, 3) := by decide +kernel
theorem dX8_init_154 : decode cX8_init 154 = .ok (.aload_n 0, 1) := by decide +kernel
theorem dX8_init_155 : decode cX8_init 155 = .ok (.bipush 30, 2) := by decide +kernel
theorem dX8_init_157 : decode cX8_init 157 = .ok (.newarray .int, 2) := by decide +kernel
theorem dX8_init_159 : decode cX8_init 159 = .ok (.putfield 68, 3) := by decide +kernel
theorem dX8_init_162 : decode cX8_init 162 = .ok (.aload_n 0, 1) := by decide +kernel
theorem dX8_init_163 : decode cX8_init 163 = .ok (.bipush 6, 2) := by decide +kernel
theorem dX8_init_165 : decode cX8_init 165 = .ok (.newarray .int, 2) := by decide +kernel
theorem dX8_init_167 : decode cX8_init 167 = .ok (.putfield 71, 3) := by decide +kernel
theorem dX8_init_170 : decode cX8_init 170 = .ok (.aload_n 0, 1) := by decide +kernel
theorem dX8_init_171 : decode cX8_init 171 = .ok (.bipush 72, 2) := by decide +kernel
theorem dX8_init_173 : decode cX8_init 173 = .ok (.newarray .int, 2) := by decide +kernel
theorem dX8_init_175 : decode cX8_init 175 = .ok (.putfield 74, 3) := by decide +kernel
theorem dX8_init_178 : decode cX8_init 178 = .ok (.aload_n 0, 1) := by decide +kernel
theorem dX8_init_179 : decode cX8_init 179 = .ok (.iconst (-1), 1) := by decide +kernel
theorem dX8_init_180 : decode cX8_init 180 = .ok (.putfield 77, 3) := by decide +kernel
theorem dX8_init_183 : decode cX8_init 183 = .ok (.aload_n 0, 1) := by decide +kernel
theorem dX8_init_184 : decode cX8_init 184 = .ok (.bipush 6, 2) := by decide +kernel
theorem dX8_init_186 : decode cX8_init 186 = .ok (.newarray .int, 2) := by decide +kernel
theorem dX8_init_188 : decode cX8_init 188 = .ok (.putfield 81, 3) := by decide +kernel
theorem dX8_init_191 : decode cX8_init 191 = .ok (.aload_n 0, 1) := by decide +kernel
theorem dX8_init_192 : decode cX8_init 192 = .ok (.bipush 6, 2) := by decide +kernel
theorem dX8_init_194 : decode cX8_init 194 = .ok (.newarray .int, 2) := by decide +kernel
theorem dX8_init_196 : decode cX8_init 196 = .ok (.putfield 84, 3) := by decide +kernel
theorem dX8_init_199 : decode cX8_init 199 = .ok (.aload_n 0, 1) := by decide +kernel
theorem dX8_init_200 : decode cX8_init 200 = .ok (.bipush 6, 2) := by decide +kernel
theorem dX8_init_202 : decode cX8_init 202 = .ok (.newarray .int, 2) := by decide +kernel
theorem dX8_init_204 : decode cX8_init 204 = .ok (.putfield 87, 3) := by decide +kernel
theorem dX8_init_207 : decode cX8_init 207 = .ok (.aload_n 0, 1) := by decide +kernel
theorem dX8_init_208 : decode cX8_init 208 = .ok (.bipush 6, 2) := by decide +kernel
theorem dX8_init_210 : decode cX8_init 210 = .ok (.newarray .int, 2) := by decide +kernel
theorem dX8_init_212 : decode cX8_init 212 = .ok (.putfield 90, 3) := by decide +kernel
theorem dX8_init_215 : decode cX8_init 215 = .ok (.aload_n 0, 1) := by decide +kernel
theorem dX8_init_216 : decode cX8_init 216 = .ok (.bipush 6, 2) := by decide +kernel
theorem dX8_init_218 : decode cX8_init 218 = .ok (.newarray .int, 2) := by decide +kernel
theorem dX8_init_220 : decode cX8_init 220 = .ok (.putfield 93, 3) := by decide +kernel
theorem dX8_init_223 : decode cX8_init 223 = .ok (.aload_n 0, 1) := by decide +kernel
theorem dX8_init_224 : decode cX8_init 224 = .ok (.sipush 144, 3) := by decide +kernel
theorem dX8_init_227 : decode cX8_init 227 = .ok (.newarray .int, 2) := by decide +kernel
theorem dX8_init_229 : decode cX8_init 229 = .ok (.putfield 96, 3) := by decide +kernel
theorem dX8_init_232 : decode cX8_init 232 = .ok (.aload_n 0, 1) := by decide +kernel
theorem dX8_init_233 : decode cX8_init 233 = .ok (.bipush 24, 2) := by decide +kernel
theorem dX8_init_235 : decode cX8_init 235 = .ok (.newarray .int, 2) := by decide +kernel
theorem dX8_init_237 : decode cX8_init 237 = .ok (.putfield 99, 3) := by decide +kernel
theorem dX8_init_240 : decode cX8_init 240 = .ok (.aload_n 0, 1) := by decide +kernel
theorem dX8_init_241 : decode cX8_init 241 = .ok (.bipush 24, 2) := by decide +kernel
theorem dX8_init_243 : decode cX8_init 243 = .ok (.newarray .int, 2) := by decide +kernel
theorem dX8_init_245 : decode cX8_init 245 = .ok (.putfield 102, 3) := by decide +kernel
theorem dX8_init_248 : decode cX8_init 248 = .ok (.aload_n 0, 1) := by decide +kernel
theorem dX8_init_249 : decode cX8_init 249 = .ok (.sipush 144, 3) := by decide +kernel
theorem dX8_init_252 : decode cX8_init 252 = .ok (.newarray .int, 2) := by decide +kernel
theorem dX8_init_254 : decode cX8_init 254 = .ok (.putfield 105, 3) := by decide +kernel
theorem dX8_init_257 : decode cX8_init 257 = .ok (.aload_n 0, 1) := by decide +kernel
theorem dX8_init_258 : decode cX8_init 258 = .ok (.bipush 12, 2) := by decide +kernel
theorem dX8_init_260 : decode cX8_init 260 = .ok (.newarray .long, 2) := by decide +kernel
theorem dX8_init_262 : decode cX8_init 262 = .ok (.putfield 108, 3) := by decide +kernel
theorem dX8_init_265 : decode cX8_init 265 = .ok (.aload_n 0, 1) := by decide +kernel
theorem dX8_init_266 : decode cX8_init 266 = .ok (.bipush 12, 2) := by decide +kernel
theorem dX8_init_268 : decode cX8_init 268 = .ok (.newarray .long, 2) := by decide +kernel
theorem dX8_init_270 : decode cX8_init 270 = .ok (.putfield 112, 3) := by decide +kernel
theorem dX8_init_273 : decode cX8_init 273 = .ok (.aload_n 0, 1) := by decide +kernel
theorem dX8_init_274 : decode cX8_init 274 = .ok (.bipush 32, 2) := by decide +kernel
theorem dX8_init_276 : decode cX8_init 276 = .ok (.newarray .int, 2) := by decide +kernel
theorem dX8_init_278 : decode cX8_init 278 = .ok (.putfield 115, 3) := by decide +kernel
theorem dX8_init_281 : decode cX8_init 281 = .ok (.iconst 0, 1) := by decide +kernel
theorem dX8_init_282 : decode cX8_init 282 = .ok (.istore_n 1, 1) := by decide +kernel
theorem dX8_init_283 : decode cX8_init 283 = .ok (.iload_n 1, 1) := by decide +kernel
theorem dX8_init_284 : decode cX8_init 284 = .ok (.bipush 24, 2) := by decide +kernel
theorem dX8_init_286 : decode cX8_init 286 = .ok (.if_icmp .ge 16, 3) := by decide +kernel
theorem dX8_init_289 : decode cX8_init 289 = .ok (.aload_n 0, 1) := by decide +kernel
theorem dX8_init_290 : decode cX8_init 290 = .ok (.getfield 47, 3) := by decide +kernel
theorem dX8_init_293 : decode cX8_init 293 = .ok (.iload_n 1, 1) := by decide +kernel
theorem dX8_init_294 : decode cX8_init 294 = .ok (.iconst (-1), 1) := by decide +kernel
theorem dX8_init_295 : decode cX8_init 295 = .ok (.iastore, 1) := by decide +kernel
theorem dX8_init_296 : decode cX8_init 296 = .ok (.iinc 1 1, 3) := by decide +kernel
theorem dX8_init_299 : decode cX8_init 299 = .ok (.goto (-16), 3) := by decide +kernel
theorem dX8_init_302 : decode cX8_init 302 = .ok (.iconst 0, 1) := by decide +kernel
theorem dX8_init_303 : decode cX8_init 303 = .ok (.istore_n 1, 1) := by decide +kernel
theorem dX8_init_304 : decode cX8_init 304 = .ok (.iload_n 1, 1) := by decide +kernel
theorem dX8_init_305 : decode cX8_init 305 = .ok (.bipush 8, 2) := by decide +kernel
theorem dX8_init_307 : decode cX8_init 307 = .ok (.if_icmp .ge 16, 3) := by decide +kernel
theorem dX8_init_310 : decode cX8_init 310 = .ok (.aload_n 0, 1) := by decide +kernel
theorem dX8_init_311 : decode cX8_init 311 = .ok (.getfield 62, 3) := by decide +kernel
theorem dX8_init_314 : decode cX8_init 314 = .ok (.iload_n 1, 1) := by decide +kernel
theorem dX8_init_315 : decode cX8_init 315 = .ok (.iconst (-1), 1) := by decide +kernel
theorem dX8_init_316 : decode cX8_init 316 = .ok (.iastore, 1) := by decide +kernel
theorem dX8_init_317 : decode cX8_init 317 = .ok (.iinc 1 1, 3) := by decide +kernel
theorem dX8_init_320 : decode cX8_init 320 = .ok (.goto (-16), 3) := by decide +kernel
theorem dX8_init_323 : decode cX8_init 323 = .ok (.return_, 1) := by decide +kernel
theorem dX8_thrown_0 : decode cX8_thrown 0 = .ok (.aload_n 0, 1) := by decide +kernel
theorem dX8_thrown_1 : decode cX8_thrown 1 = .ok (.getfield 118, 3) := by decide +kernel
theorem dX8_thrown_4 : decode cX8_thrown 4 = .ok (.ireturn, 1) := by decide +kernel
theorem dX8_isRoot_0 : decode cX8_isRoot 0 = .ok (.iload_n 0, 1) := by decide +kernel
theorem dX8_isRoot_1 : decode cX8_isRoot 1 = .ok (.ifCond .lt 13, 3) := by decide +kernel
theorem dX8_isRoot_4 : decode cX8_isRoot 4 = .ok (.iload_n 0, 1) := by decide +kernel
theorem dX8_isRoot_5 : decode cX8_isRoot 5 = .ok (.bipush 8, 2) := by decide +kernel
theorem dX8_isRoot_7 : decode cX8_isRoot 7 = .ok (.if_icmp .ge 7, 3) := by decide +kernel
theorem dX8_isRoot_10 : decode cX8_isRoot 10 = .ok (.iconst 1, 1) := by decide +kernel
theorem dX8_isRoot_11 : decode cX8_isRoot 11 = .ok (.goto 4, 3) := by decide +kernel
theorem dX8_isRoot_14 : decode cX8_isRoot 14 = .ok (.iconst 0, 1) := by decide +kernel
theorem dX8_isRoot_15 : decode cX8_isRoot 15 = .ok (.ireturn, 1) := by decide +kernel
theorem dX8_isName_0 : decode cX8_isName 0 = .ok (.iload_n 0, 1) := by decide +kernel
theorem dX8_isName_1 : decode cX8_isName 1 = .ok (.ifCond .lt 13, 3) := by decide +kernel
theorem dX8_isName_4 : decode cX8_isName 4 = .ok (.iload_n 0, 1) := by decide +kernel
theorem dX8_isName_5 : decode cX8_isName 5 = .ok (.bipush 10, 2) := by decide +kernel
theorem dX8_isName_7 : decode cX8_isName 7 = .ok (.if_icmp .ge 7, 3) := by decide +kernel
theorem dX8_isName_10 : decode cX8_isName 10 = .ok (.iconst 1, 1) := by decide +kernel
theorem dX8_isName_11 : decode cX8_isName 11 = .ok (.goto 4, 3) := by decide +kernel
theorem dX8_isName_14 : decode cX8_isName 14 = .ok (.iconst 0, 1) := by decide +kernel
theorem dX8_isName_15 : decode cX8_isName 15 = .ok (.ireturn, 1) := by decide +kernel
theorem dX8_isClass_0 : decode cX8_isClass 0 = .ok (.iload_n 1, 1) := by decide +kernel
theorem dX8_isClass_1 : decode cX8_isClass 1 = .ok (.ifCond .lt 15, 3) := by decide +kernel
theorem dX8_isClass_4 : decode cX8_isClass 4 = .ok (.iload_n 1, 1) := by decide +kernel
theorem dX8_isClass_5 : decode cX8_isClass 5 = .ok (.aload_n 0, 1) := by decide +kernel
theorem dX8_isClass_6 : decode cX8_isClass 6 = .ok (.getfield 121, 3) := by decide +kernel
theorem dX8_isClass_9 : decode cX8_isClass 9 = .ok (.if_icmp .ge 7, 3) := by decide +kernel
theorem dX8_isClass_12 : decode cX8_isClass 12 = .ok (.iconst 1, 1) := by decide +kernel
theorem dX8_isClass_13 : decode cX8_isClass 13 = .ok (.goto 4, 3) := by decide +kernel
theorem dX8_isClass_16 : decode cX8_isClass 16 = .ok (.iconst 0, 1) := by decide +kernel
theorem dX8_isClass_17 : decode cX8_isClass 17 = .ok (.ireturn, 1) := by decide +kernel
theorem dX8_records_0 : decode cX8_records 0 = .ok (.iconst 0, 1) := by decide +kernel
theorem dX8_records_1 : decode cX8_records 1 = .ok (.istore_n 2, 1) := by decide +kernel
theorem dX8_records_2 : decode cX8_records 2 = .ok (.iconst 0, 1) := by decide +kernel
theorem dX8_records_3 : decode cX8_records 3 = .ok (.istore_n 3, 1) := by decide +kernel
theorem dX8_records_4 : decode cX8_records 4 = .ok (.iload_n 3, 1) := by decide +kernel
theorem dX8_records_5 : decode cX8_records 5 = .ok (.bipush 24, 2) := by decide +kernel
theorem dX8_records_7 : decode cX8_records 7 = .ok (.if_icmp .ge 48, 3) := by decide +kernel
theorem dX8_records_10 : decode cX8_records 10 = .ok (.iload_n 2, 1) := by decide +kernel
theorem dX8_records_11 : decode cX8_records 11 = .ok (.iload_n 1, 1) := by decide +kernel
theorem dX8_records_12 : decode cX8_records 12 = .ok (.ifCond .ge 20, 3) := by decide +kernel
theorem dX8_records_15 : decode cX8_records 15 = .ok (.aload_n 0, 1) := by decide +kernel
theorem dX8_records_16 : decode cX8_records 16 = .ok (.getfield 47, 3) := by decide +kernel
theorem dX8_records_19 : decode cX8_records 19 = .ok (.iload_n 3, 1) := by decide +kernel
theorem dX8_records_20 : decode cX8_records 20 = .ok (.iaload, 1) := by decide +kernel
theorem dX8_records_21 : decode cX8_records 21 = .ok (.ifCond .lt 7, 3) := by decide +kernel
theorem dX8_records_24 : decode cX8_records 24 = .ok (.iconst 1, 1) := by decide +kernel
theorem dX8_records_25 : decode cX8_records 25 = .ok (.goto 22, 3) := by decide +kernel
theorem dX8_records_28 : decode cX8_records 28 = .ok (.iconst 0, 1) := by decide +kernel
theorem dX8_records_29 : decode cX8_records 29 = .ok (.goto 18, 3) := by decide +kernel
theorem dX8_records_32 : decode cX8_records 32 = .ok (.aload_n 0, 1) := by decide +kernel
theorem dX8_records_33 : decode cX8_records 33 = .ok (.getfield 47, 3) := by decide +kernel
theorem dX8_records_36 : decode cX8_records 36 = .ok (.iload_n 3, 1) := by decide +kernel
theorem dX8_records_37 : decode cX8_records 37 = .ok (.iaload, 1) := by decide +kernel
theorem dX8_records_38 : decode cX8_records 38 = .ok (.iload_n 1, 1) := by decide +kernel
theorem dX8_records_39 : decode cX8_records 39 = .ok (.if_icmp .ne 7, 3) := by decide +kernel
theorem dX8_records_42 : decode cX8_records 42 = .ok (.iconst 1, 1) := by decide +kernel
theorem dX8_records_43 : decode cX8_records 43 = .ok (.goto 4, 3) := by decide +kernel
theorem dX8_records_46 : decode cX8_records 46 = .ok (.iconst 0, 1) := by decide +kernel
theorem dX8_records_47 : decode cX8_records 47 = .ok (.iadd, 1) := by decide +kernel
theorem dX8_records_48 : decode cX8_records 48 = .ok (.istore_n 2, 1) := by decide +kernel
theorem dX8_records_49 : decode cX8_records 49 = .ok (.iinc 3 1, 3) := by decide +kernel
theorem dX8_records_52 : decode cX8_records 52 = .ok (.goto (-48), 3) := by decide +kernel
theorem dX8_records_55 : decode cX8_records 55 = .ok (.iload_n 2, 1) := by decide +kernel
theorem dX8_records_56 : decode cX8_records 56 = .ok (.ireturn, 1) := by decide +kernel
theorem dX8_free_0 : decode cX8_free 0 = .ok (.iconst (-1), 1) := by decide +kernel
theorem dX8_free_1 : decode cX8_free 1 = .ok (.istore_n 1, 1) := by decide +kernel
theorem dX8_free_2 : decode cX8_free 2 = .ok (.bipush 23, 2) := by decide +kernel
theorem dX8_free_4 : decode cX8_free 4 = .ok (.istore_n 2, 1) := by decide +kernel
theorem dX8_free_5 : decode cX8_free 5 = .ok (.iload_n 2, 1) := by decide +kernel
theorem dX8_free_6 : decode cX8_free 6 = .ok (.ifCond .lt 24, 3) := by decide +kernel
theorem dX8_free_9 : decode cX8_free 9 = .ok (.aload_n 0, 1) := by decide +kernel
theorem dX8_free_10 : decode cX8_free 10 = .ok (.getfield 47, 3) := by decide +kernel
theorem dX8_free_13 : decode cX8_free 13 = .ok (.iload_n 2, 1) := by decide +kernel
theorem dX8_free_14 : decode cX8_free 14 = .ok (.iaload, 1) := by decide +kernel
theorem dX8_free_15 : decode cX8_free 15 = .ok (.ifCond .ge 7, 3) := by decide +kernel
theorem dX8_free_18 : decode cX8_free 18 = .ok (.iload_n 2, 1) := by decide +kernel
theorem dX8_free_19 : decode cX8_free 19 = .ok (.goto 4, 3) := by decide +kernel
theorem dX8_free_22 : decode cX8_free 22 = .ok (.iload_n 1, 1) := by decide +kernel
theorem dX8_free_23 : decode cX8_free 23 = .ok (.istore_n 1, 1) := by decide +kernel
theorem dX8_free_24 : decode cX8_free 24 = .ok (.iinc 2 (-1), 3) := by decide +kernel
theorem dX8_free_27 : decode cX8_free 27 = .ok (.goto (-22), 3) := by decide +kernel
theorem dX8_free_30 : decode cX8_free 30 = .ok (.iload_n 1, 1) := by decide +kernel
theorem dX8_free_31 : decode cX8_free 31 = .ok (.ireturn, 1) := by decide +kernel
theorem dX8_find_0 : decode cX8_find 0 = .ok (.iconst (-1), 1) := by decide +kernel
theorem dX8_find_1 : decode cX8_find 1 = .ok (.istore_n 3, 1) := by decide +kernel
theorem dX8_find_2 : decode cX8_find 2 = .ok (.iconst 0, 1) := by decide +kernel
theorem dX8_find_3 : decode cX8_find 3 = .ok (.istore 4, 2) := by decide +kernel
theorem dX8_find_5 : decode cX8_find 5 = .ok (.iload 4, 2) := by decide +kernel
theorem dX8_find_7 : decode cX8_find 7 = .ok (.aload_n 0, 1) := by decide +kernel
theorem dX8_find_8 : decode cX8_find 8 = .ok (.getfield 17, 3) := by decide +kernel
theorem dX8_find_11 : decode cX8_find 11 = .ok (.iload_n 1, 1) := by decide +kernel
theorem dX8_find_12 : decode cX8_find 12 = .ok (.iaload, 1) := by decide +kernel
theorem dX8_find_13 : decode cX8_find 13 = .ok (.if_icmp .ge 32, 3) := by decide +kernel
theorem dX8_find_16 : decode cX8_find 16 = .ok (.aload_n 0, 1) := by decide +kernel
theorem dX8_find_17 : decode cX8_find 17 = .ok (.getfield 20, 3) := by decide +kernel
theorem dX8_find_20 : decode cX8_find 20 = .ok (.bipush 6, 2) := by decide +kernel
theorem dX8_find_22 : decode cX8_find 22 = .ok (.iload_n 1, 1) := by decide +kernel
theorem dX8_find_23 : decode cX8_find 23 = .ok (.imul, 1) := by decide +kernel
theorem dX8_find_24 : decode cX8_find 24 = .ok (.iload 4, 2) := by decide +kernel
theorem dX8_find_26 : decode cX8_find 26 = .ok (.iadd, 1) := by decide +kernel
theorem dX8_find_27 : decode cX8_find 27 = .ok (.iaload, 1) := by decide +kernel
theorem dX8_find_28 : decode cX8_find 28 = .ok (.iload_n 2, 1) := by decide +kernel
theorem dX8_find_29 : decode cX8_find 29 = .ok (.if_icmp .ne 8, 3) := by decide +kernel
theorem dX8_find_32 : decode cX8_find 32 = .ok (.iload 4, 2) := by decide +kernel
theorem dX8_find_34 : decode cX8_find 34 = .ok (.goto 4, 3) := by decide +kernel
theorem dX8_find_37 : decode cX8_find 37 = .ok (.iload_n 3, 1) := by decide +kernel
theorem dX8_find_38 : decode cX8_find 38 = .ok (.istore_n 3, 1) := by decide +kernel
theorem dX8_find_39 : decode cX8_find 39 = .ok (.iinc 4 1, 3) := by decide +kernel
theorem dX8_find_42 : decode cX8_find 42 = .ok (.goto (-37), 3) := by decide +kernel
theorem dX8_find_45 : decode cX8_find 45 = .ok (.iload_n 3, 1) := by decide +kernel
theorem dX8_find_46 : decode cX8_find 46 = .ok (.ireturn, 1) := by decide +kernel
theorem dX8_newClass_0 : decode cX8_newClass 0 = .ok (.aload_n 0, 1) := by decide +kernel
theorem dX8_newClass_1 : decode cX8_newClass 1 = .ok (.aload_n 0, 1) := by decide +kernel
theorem dX8_newClass_2 : decode cX8_newClass 2 = .ok (.getfield 121, 3) := by decide +kernel
theorem dX8_newClass_5 : decode cX8_newClass 5 = .ok (.iconst 4, 1) := by decide +kernel
theorem dX8_newClass_6 : decode cX8_newClass 6 = .ok (.if_icmp .ne 7, 3) := by decide +kernel
theorem dX8_newClass_9 : decode cX8_newClass 9 = .ok (.iconst 1, 1) := by decide +kernel
theorem dX8_newClass_10 : decode cX8_newClass 10 = .ok (.goto 4, 3) := by decide +kernel
theorem dX8_newClass_13 : decode cX8_newClass 13 = .ok (.iconst 0, 1) := by decide +kernel
theorem dX8_newClass_14 : decode cX8_newClass 14 = .ok (.putfield 118, 3) := by decide +kernel
theorem dX8_newClass_17 : decode cX8_newClass 17 = .ok (.aload_n 0, 1) := by decide +kernel
theorem dX8_newClass_18 : decode cX8_newClass 18 = .ok (.getfield 118, 3) := by decide +kernel
theorem dX8_newClass_21 : decode cX8_newClass 21 = .ok (.ifCond .le 5, 3) := by decide +kernel
theorem dX8_newClass_24 : decode cX8_newClass 24 = .ok (.iconst 0, 1) := by decide +kernel
theorem dX8_newClass_25 : decode cX8_newClass 25 = .ok (.ireturn, 1) := by decide +kernel
theorem dX8_newClass_26 : decode cX8_newClass 26 = .ok (.aload_n 0, 1) := by decide +kernel
theorem dX8_newClass_27 : decode cX8_newClass 27 = .ok (.dup, 1) := by decide +kernel
theorem dX8_newClass_28 : decode cX8_newClass 28 = .ok (.getfield 121, 3) := by decide +kernel
theorem dX8_newClass_31 : decode cX8_newClass 31 = .ok (.iconst 1, 1) := by decide +kernel
theorem dX8_newClass_32 : decode cX8_newClass 32 = .ok (.iadd, 1) := by decide +kernel
theorem dX8_newClass_33 : decode cX8_newClass 33 = .ok (.putfield 121, 3) := by decide +kernel
theorem dX8_newClass_36 : decode cX8_newClass 36 = .ok (.aload_n 0, 1) := by decide +kernel
theorem dX8_newClass_37 : decode cX8_newClass 37 = .ok (.getfield 121, 3) := by decide +kernel
theorem dX8_newClass_40 : decode cX8_newClass 40 = .ok (.iconst 1, 1) := by decide +kernel
theorem dX8_newClass_41 : decode cX8_newClass 41 = .ok (.isub, 1) := by decide +kernel
theorem dX8_newClass_42 : decode cX8_newClass 42 = .ok (.ireturn, 1) := by decide +kernel
theorem dX8_needed_0 : decode cX8_needed 0 = .ok (.aload_n 0, 1) := by decide +kernel
theorem dX8_needed_1 : decode cX8_needed 1 = .ok (.getfield 115, 3) := by decide +kernel
theorem dX8_needed_4 : decode cX8_needed 4 = .ok (.iconst 0, 1) := by decide +kernel
theorem dX8_needed_5 : decode cX8_needed 5 = .ok (.iload_n 1, 1) := by decide +kernel
theorem dX8_needed_6 : decode cX8_needed 6 = .ok (.iastore, 1) := by decide +kernel
theorem dX8_needed_7 : decode cX8_needed 7 = .ok (.iconst 1, 1) := by decide +kernel
theorem dX8_needed_8 : decode cX8_needed 8 = .ok (.istore_n 2, 1) := by decide +kernel
theorem dX8_needed_9 : decode cX8_needed 9 = .ok (.iconst 0, 1) := by decide +kernel
theorem dX8_needed_10 : decode cX8_needed 10 = .ok (.istore_n 3, 1) := by decide +kernel
theorem dX8_needed_11 : decode cX8_needed 11 = .ok (.iload_n 3, 1) := by decide +kernel
theorem dX8_needed_12 : decode cX8_needed 12 = .ok (.iload_n 2, 1) := by decide +kernel
theorem dX8_needed_13 : decode cX8_needed 13 = .ok (.if_icmp .ge 89, 3) := by decide +kernel
theorem dX8_needed_16 : decode cX8_needed 16 = .ok (.iload_n 2, 1) := by decide +kernel
theorem dX8_needed_17 : decode cX8_needed 17 = .ok (.bipush 25, 2) := by decide +kernel
theorem dX8_needed_19 : decode cX8_needed 19 = .ok (.if_icmp .ge 83, 3) := by decide +kernel
theorem dX8_needed_22 : decode cX8_needed 22 = .ok (.aload_n 0, 1) := by decide +kernel
theorem dX8_needed_23 : decode cX8_needed 23 = .ok (.getfield 115, 3) := by decide +kernel
theorem dX8_needed_26 : decode cX8_needed 26 = .ok (.iload_n 3, 1) := by decide +kernel
theorem dX8_needed_27 : decode cX8_needed 27 = .ok (.iaload, 1) := by decide +kernel
theorem dX8_needed_28 : decode cX8_needed 28 = .ok (.istore 4, 2) := by decide +kernel
theorem dX8_needed_30 : decode cX8_needed 30 = .ok (.iconst 0, 1) := by decide +kernel
theorem dX8_needed_31 : decode cX8_needed 31 = .ok (.istore 5, 2) := by decide +kernel
theorem dX8_needed_33 : decode cX8_needed 33 = .ok (.iload 5, 2) := by decide +kernel
theorem dX8_needed_35 : decode cX8_needed 35 = .ok (.aload_n 0, 1) := by decide +kernel
theorem dX8_needed_36 : decode cX8_needed 36 = .ok (.getfield 17, 3) := by decide +kernel
theorem dX8_needed_39 : decode cX8_needed 39 = .ok (.iload 4, 2) := by decide +kernel
theorem dX8_needed_41 : decode cX8_needed 41 = .ok (.iaload, 1) := by decide +kernel
theorem dX8_needed_42 : decode cX8_needed 42 = .ok (.if_icmp .ge 54, 3) := by decide +kernel
theorem dX8_needed_45 : decode cX8_needed 45 = .ok (.aload_n 0, 1) := by decide +kernel
theorem dX8_needed_46 : decode cX8_needed 46 = .ok (.getfield 23, 3) := by decide +kernel
theorem dX8_needed_49 : decode cX8_needed 49 = .ok (.bipush 6, 2) := by decide +kernel
theorem dX8_needed_51 : decode cX8_needed 51 = .ok (.iload 4, 2) := by decide +kernel
theorem dX8_needed_53 : decode cX8_needed 53 = .ok (.imul, 1) := by decide +kernel
theorem dX8_needed_54 : decode cX8_needed 54 = .ok (.iload 5, 2) := by decide +kernel
theorem dX8_needed_56 : decode cX8_needed 56 = .ok (.iadd, 1) := by decide +kernel
theorem dX8_needed_57 : decode cX8_needed 57 = .ok (.iaload, 1) := by decide +kernel
theorem dX8_needed_58 : decode cX8_needed 58 = .ok (.iconst 2, 1) := by decide +kernel
theorem dX8_needed_59 : decode cX8_needed 59 = .ok (.if_icmp .ne 31, 3) := by decide +kernel
theorem dX8_needed_62 : decode cX8_needed 62 = .ok (.iload_n 2, 1) := by decide +kernel
theorem dX8_needed_63 : decode cX8_needed 63 = .ok (.bipush 25, 2) := by decide +kernel
theorem dX8_needed_65 : decode cX8_needed 65 = .ok (.if_icmp .ge 25, 3) := by decide +kernel
theorem dX8_needed_68 : decode cX8_needed 68 = .ok (.aload_n 0, 1) := by decide +kernel
theorem dX8_needed_69 : decode cX8_needed 69 = .ok (.getfield 115, 3) := by decide +kernel
theorem dX8_needed_72 : decode cX8_needed 72 = .ok (.iload_n 2, 1) := by decide +kernel
theorem dX8_needed_73 : decode cX8_needed 73 = .ok (.aload_n 0, 1) := by decide +kernel
theorem dX8_needed_74 : decode cX8_needed 74 = .ok (.getfield 26, 3) := by decide +kernel
theorem dX8_needed_77 : decode cX8_needed 77 = .ok (.bipush 6, 2) := by decide +kernel
theorem dX8_needed_79 : decode cX8_needed 79 = .ok (.iload 4, 2) := by decide +kernel
theorem dX8_needed_81 : decode cX8_needed 81 = .ok (.imul, 1) := by decide +kernel
theorem dX8_needed_82 : decode cX8_needed 82 = .ok (.iload 5, 2) := by decide +kernel
theorem dX8_needed_84 : decode cX8_needed 84 = .ok (.iadd, 1) := by decide +kernel
theorem dX8_needed_85 : decode cX8_needed 85 = .ok (.iaload, 1) := by decide +kernel
theorem dX8_needed_86 : decode cX8_needed 86 = .ok (.iastore, 1) := by decide +kernel
theorem dX8_needed_87 : decode cX8_needed 87 = .ok (.iinc 2 1, 3) := by decide +kernel
theorem dX8_needed_90 : decode cX8_needed 90 = .ok (.iinc 5 1, 3) := by decide +kernel
theorem dX8_needed_93 : decode cX8_needed 93 = .ok (.goto (-60), 3) := by decide +kernel
theorem dX8_needed_96 : decode cX8_needed 96 = .ok (.iinc 3 1, 3) := by decide +kernel
theorem dX8_needed_99 : decode cX8_needed 99 = .ok (.goto (-88), 3) := by decide +kernel
theorem dX8_needed_102 : decode cX8_needed 102 = .ok (.iload_n 2, 1) := by decide +kernel
theorem dX8_needed_103 : decode cX8_needed 103 = .ok (.ireturn, 1) := by decide +kernel
set_option maxRecDepth 20000 in
theorem ggX8_bare_X8_free : GoodIn wsX8_bare wsX8_free := goodIn_r _ [14, 1, 15, 16, 17, 18, 19, 20, 21, 22, 23, 24, 25, 26, 27, 28, 29, 30, 31, 32, 33, 34, 35, 36, 37, 38, 39, 40, 41, 42, 43, 44, 45, 46, 47, 48, 49, 50, 51, 52, 53, 54, 55, 56, 57, 58] (by decide +kernel) (by decide +kernel)
set_option maxRecDepth 20000 in
theorem gX8_bare_X8_free : GoodIn wsX8_bare (wsV RX8 124 RX8 yX8_free wsX8_free) := goodIn_app (goodIn_of _ (by decide +kernel)) ggX8_bare_X8_free
theorem dX8_bare_0 : decode cX8_bare 0 = .ok (.aload_n 0, 1) := by decide +kernel
theorem dX8_bare_1 : decode cX8_bare 1 = .ok (.invokevirtual 124, 3) := by decide +kernel
theorem dX8_bare_4 : decode cX8_bare 4 = .ok (.istore_n 2, 1) := by decide +kernel
theorem dX8_bare_5 : decode cX8_bare 5 = .ok (.aload_n 0, 1) := by decide +kernel
theorem dX8_bare_6 : decode cX8_bare 6 = .ok (.getfield 47, 3) := by decide +kernel
theorem dX8_bare_9 : decode cX8_bare 9 = .ok (.iload_n 2, 1) := by decide +kernel
theorem dX8_bare_10 : decode cX8_bare 10 = .ok (.iload_n 1, 1) := by decide +kernel
theorem dX8_bare_11 : decode cX8_bare 11 = .ok (.iastore, 1) := by decide +kernel
theorem dX8_bare_12 : decode cX8_bare 12 = .ok (.aload_n 0, 1) := by decide +kernel
theorem dX8_bare_13 : decode cX8_bare 13 = .ok (.getfield 50, 3) := by decide +kernel
theorem dX8_bare_16 : decode cX8_bare 16 = .ok (.iload_n 2, 1) := by decide +kernel
theorem dX8_bare_17 : decode cX8_bare 17 = .ok (.aload_n 0, 1) := by decide +kernel
theorem dX8_bare_18 : decode cX8_bare 18 = .ok (.getfield 7, 3) := by decide +kernel
theorem dX8_bare_21 : decode cX8_bare 21 = .ok (.iload_n 1, 1) := by decide +kernel
theorem dX8_bare_22 : decode cX8_bare 22 = .ok (.iaload, 1) := by decide +kernel
theorem dX8_bare_23 : decode cX8_bare 23 = .ok (.iastore, 1) := by decide +kernel
theorem dX8_bare_24 : decode cX8_bare 24 = .ok (.aload_n 0, 1) := by decide +kernel
theorem dX8_bare_25 : decode cX8_bare 25 = .ok (.getfield 13, 3) := by decide +kernel
theorem dX8_bare_28 : decode cX8_bare 28 = .ok (.iload_n 1, 1) := by decide +kernel
theorem dX8_bare_29 : decode cX8_bare 29 = .ok (.iconst 0, 1) := by decide +kernel
theorem dX8_bare_30 : decode cX8_bare 30 = .ok (.bastore, 1) := by decide +kernel
theorem dX8_bare_31 : decode cX8_bare 31 = .ok (.iconst 0, 1) := by decide +kernel
theorem dX8_bare_32 : decode cX8_bare 32 = .ok (.istore_n 3, 1) := by decide +kernel
theorem dX8_bare_33 : decode cX8_bare 33 = .ok (.iload_n 3, 1) := by decide +kernel
theorem dX8_bare_34 : decode cX8_bare 34 = .ok (.bipush 6, 2) := by decide +kernel
theorem dX8_bare_36 : decode cX8_bare 36 = .ok (.if_icmp .ge 107, 3) := by decide +kernel
theorem dX8_bare_39 : decode cX8_bare 39 = .ok (.aload_n 0, 1) := by decide +kernel
theorem dX8_bare_40 : decode cX8_bare 40 = .ok (.getfield 26, 3) := by decide +kernel
theorem dX8_bare_43 : decode cX8_bare 43 = .ok (.bipush 6, 2) := by decide +kernel
theorem dX8_bare_45 : decode cX8_bare 45 = .ok (.iload_n 1, 1) := by decide +kernel
theorem dX8_bare_46 : decode cX8_bare 46 = .ok (.imul, 1) := by decide +kernel
theorem dX8_bare_47 : decode cX8_bare 47 = .ok (.iload_n 3, 1) := by decide +kernel
theorem dX8_bare_48 : decode cX8_bare 48 = .ok (.iadd, 1) := by decide +kernel
theorem dX8_bare_49 : decode cX8_bare 49 = .ok (.iaload, 1) := by decide +kernel
theorem dX8_bare_50 : decode cX8_bare 50 = .ok (.istore 4, 2) := by decide +kernel
theorem dX8_bare_52 : decode cX8_bare 52 = .ok (.aload_n 0, 1) := by decide +kernel
theorem dX8_bare_53 : decode cX8_bare 53 = .ok (.getfield 29, 3) := by decide +kernel
theorem dX8_bare_56 : decode cX8_bare 56 = .ok (.bipush 6, 2) := by decide +kernel
theorem dX8_bare_58 : decode cX8_bare 58 = .ok (.iload_n 1, 1) := by decide +kernel
theorem dX8_bare_59 : decode cX8_bare 59 = .ok (.imul, 1) := by decide +kernel
theorem dX8_bare_60 : decode cX8_bare 60 = .ok (.iload_n 3, 1) := by decide +kernel
theorem dX8_bare_61 : decode cX8_bare 61 = .ok (.iadd, 1) := by decide +kernel
theorem dX8_bare_62 : decode cX8_bare 62 = .ok (.iaload, 1) := by decide +kernel
theorem dX8_bare_63 : decode cX8_bare 63 = .ok (.istore 5, 2) := by decide +kernel
theorem dX8_bare_65 : decode cX8_bare 65 = .ok (.iload_n 3, 1) := by decide +kernel
theorem dX8_bare_66 : decode cX8_bare 66 = .ok (.aload_n 0, 1) := by decide +kernel
theorem dX8_bare_67 : decode cX8_bare 67 = .ok (.getfield 17, 3) := by decide +kernel
theorem dX8_bare_70 : decode cX8_bare 70 = .ok (.iload_n 1, 1) := by decide +kernel
theorem dX8_bare_71 : decode cX8_bare 71 = .ok (.iaload, 1) := by decide +kernel
theorem dX8_bare_72 : decode cX8_bare 72 = .ok (.if_icmp .ge 21, 3) := by decide +kernel
theorem dX8_bare_75 : decode cX8_bare 75 = .ok (.aload_n 0, 1) := by decide +kernel
theorem dX8_bare_76 : decode cX8_bare 76 = .ok (.getfield 23, 3) := by decide +kernel
theorem dX8_bare_79 : decode cX8_bare 79 = .ok (.bipush 6, 2) := by decide +kernel
theorem dX8_bare_81 : decode cX8_bare 81 = .ok (.iload_n 1, 1) := by decide +kernel
theorem dX8_bare_82 : decode cX8_bare 82 = .ok (.imul, 1) := by decide +kernel
theorem dX8_bare_83 : decode cX8_bare 83 = .ok (.iload_n 3, 1) := by decide +kernel
theorem dX8_bare_84 : decode cX8_bare 84 = .ok (.iadd, 1) := by decide +kernel
theorem dX8_bare_85 : decode cX8_bare 85 = .ok (.iaload, 1) := by decide +kernel
theorem dX8_bare_86 : decode cX8_bare 86 = .ok (.ifCond .ne 7, 3) := by decide +kernel
theorem dX8_bare_89 : decode cX8_bare 89 = .ok (.iconst 1, 1) := by decide +kernel
theorem dX8_bare_90 : decode cX8_bare 90 = .ok (.goto 4, 3) := by decide +kernel
theorem dX8_bare_93 : decode cX8_bare 93 = .ok (.iconst 0, 1) := by decide +kernel
theorem dX8_bare_94 : decode cX8_bare 94 = .ok (.istore 6, 2) := by decide +kernel
theorem dX8_bare_96 : decode cX8_bare 96 = .ok (.aload_n 0, 1) := by decide +kernel
theorem dX8_bare_97 : decode cX8_bare 97 = .ok (.getfield 53, 3) := by decide +kernel
theorem dX8_bare_100 : decode cX8_bare 100 = .ok (.bipush 6, 2) := by decide +kernel
theorem dX8_bare_102 : decode cX8_bare 102 = .ok (.iload_n 2, 1) := by decide +kernel
theorem dX8_bare_103 : decode cX8_bare 103 = .ok (.imul, 1) := by decide +kernel
theorem dX8_bare_104 : decode cX8_bare 104 = .ok (.iload_n 3, 1) := by decide +kernel
theorem dX8_bare_105 : decode cX8_bare 105 = .ok (.iadd, 1) := by decide +kernel
theorem dX8_bare_106 : decode cX8_bare 106 = .ok (.iload 6, 2) := by decide +kernel
theorem dX8_bare_108 : decode cX8_bare 108 = .ok (.ifCond .ne 7, 3) := by decide +kernel
theorem dX8_bare_111 : decode cX8_bare 111 = .ok (.iconst (-1), 1) := by decide +kernel
theorem dX8_bare_112 : decode cX8_bare 112 = .ok (.goto 24, 3) := by decide +kernel
theorem dX8_bare_115 : decode cX8_bare 115 = .ok (.iload 4, 2) := by decide +kernel
theorem dX8_bare_117 : decode cX8_bare 117 = .ok (.ifCond .le 8, 3) := by decide +kernel
theorem dX8_bare_120 : decode cX8_bare 120 = .ok (.iload 4, 2) := by decide +kernel
theorem dX8_bare_122 : decode cX8_bare 122 = .ok (.goto 14, 3) := by decide +kernel
theorem dX8_bare_125 : decode cX8_bare 125 = .ok (.iload 5, 2) := by decide +kernel
theorem dX8_bare_127 : decode cX8_bare 127 = .ok (.ifCond .ge 8, 3) := by decide +kernel
theorem dX8_bare_130 : decode cX8_bare 130 = .ok (.iload 5, 2) := by decide +kernel
theorem dX8_bare_132 : decode cX8_bare 132 = .ok (.goto 4, 3) := by decide +kernel
theorem dX8_bare_135 : decode cX8_bare 135 = .ok (.iconst 0, 1) := by decide +kernel
theorem dX8_bare_136 : decode cX8_bare 136 = .ok (.iastore, 1) := by decide +kernel
theorem dX8_bare_137 : decode cX8_bare 137 = .ok (.iinc 3 1, 3) := by decide +kernel
theorem dX8_bare_140 : decode cX8_bare 140 = .ok (.goto (-107), 3) := by decide +kernel
theorem dX8_bare_143 : decode cX8_bare 143 = .ok (.iload_n 2, 1) := by decide +kernel
theorem dX8_bare_144 : decode cX8_bare 144 = .ok (.ireturn, 1) := by decide +kernel
set_option maxRecDepth 20000 in
theorem ggX8_make_X8_isClass : GoodIn wsX8_make wsX8_isClass := goodIn_r _ [13, 14, 38, 39, 40, 41, 42, 43, 44, 45, 46, 47, 48, 49, 50, 51, 52, 53, 54, 55, 56, 57, 58, 59, 60, 61, 62, 63, 64, 65, 66, 67, 68, 69, 70, 71, 72, 73, 74, 75, 76, 77, 78, 79, 80, 81] (by decide +kernel) (by decide +kernel)
set_option maxRecDepth 20000 in
theorem gX8_make_X8_isClass : GoodIn wsX8_make (wsV RX8 128 RX8 yX8_isClass wsX8_isClass) := goodIn_app (goodIn_of _ (by decide +kernel)) ggX8_make_X8_isClass
set_option maxRecDepth 20000 in
theorem ggX8_make_X8_isRoot : GoodIn wsX8_make wsX8_isRoot := goodIn_r _ [17] (by decide +kernel) (by decide +kernel)
set_option maxRecDepth 20000 in
theorem gX8_make_X8_isRoot : GoodIn wsX8_make (va_wsS RX8 132 yX8_isRoot wsX8_isRoot) := goodIn_app (goodIn_of _ (by decide +kernel)) ggX8_make_X8_isRoot
set_option maxRecDepth 20000 in
theorem ggX8_make_X8_records : GoodIn wsX8_make wsX8_records := goodIn_r _ [21, 3, 38, 39, 40, 41, 42, 43, 44, 45, 46, 47, 48, 49, 50, 51, 52, 53, 54, 55, 56, 57, 58, 59, 60, 61, 62, 63, 64, 65, 66, 67, 68, 69, 70, 71, 72, 73, 74, 75, 76, 77, 78, 79, 80, 81] (by decide +kernel) (by decide +kernel)
set_option maxRecDepth 20000 in
theorem gX8_make_X8_records : GoodIn wsX8_make (wsV RX8 135 RX8 yX8_records wsX8_records) := goodIn_app (goodIn_of _ (by decide +kernel)) ggX8_make_X8_records
set_option maxRecDepth 20000 in
theorem ggX8_make_X8_needed : GoodIn wsX8_make wsX8_needed := goodIn_r _ [25, 2, 4, 5, 6, 38, 39, 40, 41, 42, 43, 44, 45, 46, 47, 48, 49, 50, 51, 52, 53, 54, 55, 56, 57, 58, 59, 60, 61, 62, 63, 64, 65, 66, 67, 68, 69, 70, 71, 72, 73, 74, 75, 76, 77, 78, 79, 80, 81] (by decide +kernel) (by decide +kernel)
set_option maxRecDepth 20000 in
theorem gX8_make_X8_needed : GoodIn wsX8_make (wsV RX8 139 RX8 yX8_needed wsX8_needed) := goodIn_app (goodIn_of _ (by decide +kernel)) ggX8_make_X8_needed
set_option maxRecDepth 20000 in
theorem ggX8_make_X8_bare : GoodIn wsX8_make wsX8_bare := goodIn_r _ [29, 3, 30, 31, 32, 6, 33, 4, 5, 7, 34, 35, 36, 12, 37, 38, 39, 40, 41, 42, 43, 44, 45, 46, 47, 48, 49, 50, 51, 52, 53, 54, 55, 56, 57, 58, 59, 60, 61, 62, 63, 64, 65, 66, 67, 68, 69, 70, 71, 72, 73, 74, 75, 76, 77, 78, 79, 80, 81] (by decide +kernel) (by decide +kernel)
set_option maxRecDepth 20000 in
theorem gX8_make_X8_bare : GoodIn wsX8_make (wsV RX8 142 RX8 yX8_bare wsX8_bare) := goodIn_app (goodIn_of _ (by decide +kernel)) ggX8_make_X8_bare
theorem dX8_make_0 : decode cX8_make 0 = .ok (.aload_n 0, 1) := by decide +kernel
theorem dX8_make_1 : decode cX8_make 1 = .ok (.aload_n 0, 1) := by decide +kernel
theorem dX8_make_2 : decode cX8_make 2 = .ok (.iload_n 1, 1) := by decide +kernel
theorem dX8_make_3 : decode cX8_make 3 = .ok (.invokevirtual 128, 3) := by decide +kernel
theorem dX8_make_6 : decode cX8_make 6 = .ok (.ifCond .eq 10, 3) := by decide +kernel
theorem dX8_make_9 : decode cX8_make 9 = .ok (.iload_n 2, 1) := by decide +kernel
theorem dX8_make_10 : decode cX8_make 10 = .ok (.invokestatic 132, 3) := by decide +kernel
theorem dX8_make_13 : decode cX8_make 13 = .ok (.ifCond .ne 7, 3) := by decide +kernel
theorem dX8_make_16 : decode cX8_make 16 = .ok (.iconst 1, 1) := by decide +kernel
theorem dX8_make_17 : decode cX8_make 17 = .ok (.goto 24, 3) := by decide +kernel
theorem dX8_make_20 : decode cX8_make 20 = .ok (.aload_n 0, 1) := by decide +kernel
theorem dX8_make_21 : decode cX8_make 21 = .ok (.iconst (-1), 1) := by decide +kernel
theorem dX8_make_22 : decode cX8_make 22 = .ok (.invokevirtual 135, 3) := by decide +kernel
theorem dX8_make_25 : decode cX8_make 25 = .ok (.aload_n 0, 1) := by decide +kernel
theorem dX8_make_26 : decode cX8_make 26 = .ok (.iload_n 1, 1) := by decide +kernel
theorem dX8_make_27 : decode cX8_make 27 = .ok (.invokevirtual 139, 3) := by decide +kernel
theorem dX8_make_30 : decode cX8_make 30 = .ok (.iadd, 1) := by decide +kernel
theorem dX8_make_31 : decode cX8_make 31 = .ok (.bipush 24, 2) := by decide +kernel
theorem dX8_make_33 : decode cX8_make 33 = .ok (.if_icmp .le 7, 3) := by decide +kernel
theorem dX8_make_36 : decode cX8_make 36 = .ok (.iconst 2, 1) := by decide +kernel
theorem dX8_make_37 : decode cX8_make 37 = .ok (.goto 4, 3) := by decide +kernel
theorem dX8_make_40 : decode cX8_make 40 = .ok (.iconst 0, 1) := by decide +kernel
theorem dX8_make_41 : decode cX8_make 41 = .ok (.putfield 118, 3) := by decide +kernel
theorem dX8_make_44 : decode cX8_make 44 = .ok (.aload_n 0, 1) := by decide +kernel
theorem dX8_make_45 : decode cX8_make 45 = .ok (.getfield 118, 3) := by decide +kernel
theorem dX8_make_48 : decode cX8_make 48 = .ok (.ifCond .le 4, 3) := by decide +kernel
theorem dX8_make_51 : decode cX8_make 51 = .ok (.return_, 1) := by decide +kernel
theorem dX8_make_52 : decode cX8_make 52 = .ok (.aload_n 0, 1) := by decide +kernel
theorem dX8_make_53 : decode cX8_make 53 = .ok (.iload_n 1, 1) := by decide +kernel
theorem dX8_make_54 : decode cX8_make 54 = .ok (.invokevirtual 142, 3) := by decide +kernel
theorem dX8_make_57 : decode cX8_make 57 = .ok (.istore_n 3, 1) := by decide +kernel
theorem dX8_make_58 : decode cX8_make 58 = .ok (.aload_n 0, 1) := by decide +kernel
theorem dX8_make_59 : decode cX8_make 59 = .ok (.getfield 115, 3) := by decide +kernel
theorem dX8_make_62 : decode cX8_make 62 = .ok (.iconst 0, 1) := by decide +kernel
theorem dX8_make_63 : decode cX8_make 63 = .ok (.iload_n 3, 1) := by decide +kernel
theorem dX8_make_64 : decode cX8_make 64 = .ok (.iastore, 1) := by decide +kernel
theorem dX8_make_65 : decode cX8_make 65 = .ok (.iconst 1, 1) := by decide +kernel
theorem dX8_make_66 : decode cX8_make 66 = .ok (.istore 4, 2) := by decide +kernel
theorem dX8_make_68 : decode cX8_make 68 = .ok (.iconst 0, 1) := by decide +kernel
theorem dX8_make_69 : decode cX8_make 69 = .ok (.istore 5, 2) := by decide +kernel
theorem dX8_make_71 : decode cX8_make 71 = .ok (.iload 5, 2) := by decide +kernel
theorem dX8_make_73 : decode cX8_make 73 = .ok (.iload 4, 2) := by decide +kernel
theorem dX8_make_75 : decode cX8_make 75 = .ok (.if_icmp .ge 112, 3) := by decide +kernel
theorem dX8_make_78 : decode cX8_make 78 = .ok (.aload_n 0, 1) := by decide +kernel
theorem dX8_make_79 : decode cX8_make 79 = .ok (.getfield 115, 3) := by decide +kernel
theorem dX8_make_82 : decode cX8_make 82 = .ok (.iload 5, 2) := by decide +kernel
theorem dX8_make_84 : decode cX8_make 84 = .ok (.iaload, 1) := by decide +kernel
theorem dX8_make_85 : decode cX8_make 85 = .ok (.istore 6, 2) := by decide +kernel
theorem dX8_make_87 : decode cX8_make 87 = .ok (.aload_n 0, 1) := by decide +kernel
theorem dX8_make_88 : decode cX8_make 88 = .ok (.getfield 47, 3) := by decide +kernel
theorem dX8_make_91 : decode cX8_make 91 = .ok (.iload 6, 2) := by decide +kernel
theorem dX8_make_93 : decode cX8_make 93 = .ok (.iaload, 1) := by decide +kernel
theorem dX8_make_94 : decode cX8_make 94 = .ok (.istore 7, 2) := by decide +kernel
theorem dX8_make_96 : decode cX8_make 96 = .ok (.iconst 0, 1) := by decide +kernel
theorem dX8_make_97 : decode cX8_make 97 = .ok (.istore 8, 2) := by decide +kernel
theorem dX8_make_99 : decode cX8_make 99 = .ok (.iload 8, 2) := by decide +kernel
theorem dX8_make_101 : decode cX8_make 101 = .ok (.aload_n 0, 1) := by decide +kernel
theorem dX8_make_102 : decode cX8_make 102 = .ok (.getfield 17, 3) := by decide +kernel
theorem dX8_make_105 : decode cX8_make 105 = .ok (.iload 7, 2) := by decide +kernel
theorem dX8_make_107 : decode cX8_make 107 = .ok (.iaload, 1) := by decide +kernel
theorem dX8_make_108 : decode cX8_make 108 = .ok (.if_icmp .ge 73, 3) := by decide +kernel
theorem dX8_make_111 : decode cX8_make 111 = .ok (.aload_n 0, 1) := by decide +kernel
theorem dX8_make_112 : decode cX8_make 112 = .ok (.getfield 23, 3) := by decide +kernel
theorem dX8_make_115 : decode cX8_make 115 = .ok (.bipush 6, 2) := by decide +kernel
theorem dX8_make_117 : decode cX8_make 117 = .ok (.iload 7, 2) := by decide +kernel
theorem dX8_make_119 : decode cX8_make 119 = .ok (.imul, 1) := by decide +kernel
theorem dX8_make_120 : decode cX8_make 120 = .ok (.iload 8, 2) := by decide +kernel
theorem dX8_make_122 : decode cX8_make 122 = .ok (.iadd, 1) := by decide +kernel
theorem dX8_make_123 : decode cX8_make 123 = .ok (.iaload, 1) := by decide +kernel
theorem dX8_make_124 : decode cX8_make 124 = .ok (.iconst 2, 1) := by decide +kernel
theorem dX8_make_125 : decode cX8_make 125 = .ok (.if_icmp .ne 50, 3) := by decide +kernel
theorem dX8_make_128 : decode cX8_make 128 = .ok (.aload_n 0, 1) := by decide +kernel
theorem dX8_make_129 : decode cX8_make 129 = .ok (.getfield 115, 3) := by decide +kernel
theorem dX8_make_132 : decode cX8_make 132 = .ok (.iload 4, 2) := by decide +kernel
theorem dX8_make_134 : decode cX8_make 134 = .ok (.aload_n 0, 1) := by decide +kernel
theorem dX8_make_135 : decode cX8_make 135 = .ok (.aload_n 0, 1) := by decide +kernel
theorem dX8_make_136 : decode cX8_make 136 = .ok (.getfield 26, 3) := by decide +kernel
theorem dX8_make_139 : decode cX8_make 139 = .ok (.bipush 6, 2) := by decide +kernel
theorem dX8_make_141 : decode cX8_make 141 = .ok (.iload 7, 2) := by decide +kernel
theorem dX8_make_143 : decode cX8_make 143 = .ok (.imul, 1) := by decide +kernel
theorem dX8_make_144 : decode cX8_make 144 = .ok (.iload 8, 2) := by decide +kernel
theorem dX8_make_146 : decode cX8_make 146 = .ok (.iadd, 1) := by decide +kernel
theorem dX8_make_147 : decode cX8_make 147 = .ok (.iaload, 1) := by decide +kernel
theorem dX8_make_148 : decode cX8_make 148 = .ok (.invokevirtual 142, 3) := by decide +kernel
theorem dX8_make_151 : decode cX8_make 151 = .ok (.iastore, 1) := by decide +kernel
theorem dX8_make_152 : decode cX8_make 152 = .ok (.aload_n 0, 1) := by decide +kernel
theorem dX8_make_153 : decode cX8_make 153 = .ok (.getfield 53, 3) := by decide +kernel
theorem dX8_make_156 : decode cX8_make 156 = .ok (.bipush 6, 2) := by decide +kernel
theorem dX8_make_158 : decode cX8_make 158 = .ok (.iload 6, 2) := by decide +kernel
theorem dX8_make_160 : decode cX8_make 160 = .ok (.imul, 1) := by decide +kernel
theorem dX8_make_161 : decode cX8_make 161 = .ok (.iload 8, 2) := by decide +kernel
theorem dX8_make_163 : decode cX8_make 163 = .ok (.iadd, 1) := by decide +kernel
theorem dX8_make_164 : decode cX8_make 164 = .ok (.aload_n 0, 1) := by decide +kernel
theorem dX8_make_165 : decode cX8_make 165 = .ok (.getfield 115, 3) := by decide +kernel
theorem dX8_make_168 : decode cX8_make 168 = .ok (.iload 4, 2) := by decide +kernel
theorem dX8_make_170 : decode cX8_make 170 = .ok (.iaload, 1) := by decide +kernel
theorem dX8_make_171 : decode cX8_make 171 = .ok (.iastore, 1) := by decide +kernel
theorem dX8_make_172 : decode cX8_make 172 = .ok (.iinc 4 1, 3) := by decide +kernel
theorem dX8_make_175 : decode cX8_make 175 = .ok (.iinc 8 1, 3) := by decide +kernel
theorem dX8_make_178 : decode cX8_make 178 = .ok (.goto (-79), 3) := by decide +kernel
theorem dX8_make_181 : decode cX8_make 181 = .ok (.iinc 5 1, 3) := by decide +kernel
theorem dX8_make_184 : decode cX8_make 184 = .ok (.goto (-113), 3) := by decide +kernel
theorem dX8_make_187 : decode cX8_make 187 = .ok (.aload_n 0, 1) := by decide +kernel
theorem dX8_make_188 : decode cX8_make 188 = .ok (.getfield 62, 3) := by decide +kernel
theorem dX8_make_191 : decode cX8_make 191 = .ok (.iload_n 2, 1) := by decide +kernel
theorem dX8_make_192 : decode cX8_make 192 = .ok (.iload_n 3, 1) := by decide +kernel
theorem dX8_make_193 : decode cX8_make 193 = .ok (.iastore, 1) := by decide +kernel
theorem dX8_make_194 : decode cX8_make 194 = .ok (.return_, 1) := by decide +kernel
theorem dX8_touchRecord_0 : decode cX8_touchRecord 0 = .ok (.aload_n 0, 1) := by decide +kernel
theorem dX8_touchRecord_1 : decode cX8_touchRecord 1 = .ok (.getfield 50, 3) := by decide +kernel
theorem dX8_touchRecord_4 : decode cX8_touchRecord 4 = .ok (.iload_n 1, 1) := by decide +kernel
theorem dX8_touchRecord_5 : decode cX8_touchRecord 5 = .ok (.aload_n 0, 1) := by decide +kernel
theorem dX8_touchRecord_6 : decode cX8_touchRecord 6 = .ok (.getfield 7, 3) := by decide +kernel
theorem dX8_touchRecord_9 : decode cX8_touchRecord 9 = .ok (.aload_n 0, 1) := by decide +kernel
theorem dX8_touchRecord_10 : decode cX8_touchRecord 10 = .ok (.getfield 47, 3) := by decide +kernel
theorem dX8_touchRecord_13 : decode cX8_touchRecord 13 = .ok (.iload_n 1, 1) := by decide +kernel
theorem dX8_touchRecord_14 : decode cX8_touchRecord 14 = .ok (.iaload, 1) := by decide +kernel
theorem dX8_touchRecord_15 : decode cX8_touchRecord 15 = .ok (.iaload, 1) := by decide +kernel
theorem dX8_touchRecord_16 : decode cX8_touchRecord 16 = .ok (.iastore, 1) := by decide +kernel
theorem dX8_touchRecord_17 : decode cX8_touchRecord 17 = .ok (.return_, 1) := by decide +kernel
set_option maxRecDepth 20000 in
theorem ggX8_place_X8_isRoot : GoodIn wsX8_place wsX8_isRoot := goodIn_r _ [8] (by decide +kernel) (by decide +kernel)
set_option maxRecDepth 20000 in
theorem gX8_place_X8_isRoot : GoodIn wsX8_place (va_wsS RX8 132 yX8_isRoot wsX8_isRoot) := goodIn_app (goodIn_of _ (by decide +kernel)) ggX8_place_X8_isRoot
set_option maxRecDepth 20000 in
theorem ggX8_place_X8_isName : GoodIn wsX8_place wsX8_isName := goodIn_r _ [11] (by decide +kernel) (by decide +kernel)
set_option maxRecDepth 20000 in
theorem gX8_place_X8_isName : GoodIn wsX8_place (va_wsS RX8 145 yX8_isName wsX8_isName) := goodIn_app (goodIn_of _ (by decide +kernel)) ggX8_place_X8_isName
set_option maxRecDepth 20000 in
theorem ggX8_place_X8_find : GoodIn wsX8_place wsX8_find := goodIn_r _ [15, 16, 17, 18, 19, 20, 21, 22, 23, 24, 25, 26, 27, 28, 29, 30, 31, 32, 33, 34, 35, 36, 37, 38, 39, 40, 41, 42, 43, 44, 45, 46, 47, 48, 49, 50, 51, 52, 53, 54, 55, 56, 57, 58, 59, 60, 61] (by decide +kernel) (by decide +kernel)
set_option maxRecDepth 20000 in
theorem gX8_place_X8_find : GoodIn wsX8_place (wsV RX8 148 RX8 yX8_find wsX8_find) := goodIn_app (goodIn_of _ (by decide +kernel)) ggX8_place_X8_find
theorem dX8_place_0 : decode cX8_place 0 = .ok (.aload_n 0, 1) := by decide +kernel
theorem dX8_place_1 : decode cX8_place 1 = .ok (.iload_n 1, 1) := by decide +kernel
theorem dX8_place_2 : decode cX8_place 2 = .ok (.invokestatic 132, 3) := by decide +kernel
theorem dX8_place_5 : decode cX8_place 5 = .ok (.ifCond .eq 10, 3) := by decide +kernel
theorem dX8_place_8 : decode cX8_place 8 = .ok (.iload_n 2, 1) := by decide +kernel
theorem dX8_place_9 : decode cX8_place 9 = .ok (.invokestatic 145, 3) := by decide +kernel
theorem dX8_place_12 : decode cX8_place 12 = .ok (.ifCond .ne 7, 3) := by decide +kernel
theorem dX8_place_15 : decode cX8_place 15 = .ok (.iconst 1, 1) := by decide +kernel
theorem dX8_place_16 : decode cX8_place 16 = .ok (.goto 17, 3) := by decide +kernel
theorem dX8_place_19 : decode cX8_place 19 = .ok (.aload_n 0, 1) := by decide +kernel
theorem dX8_place_20 : decode cX8_place 20 = .ok (.getfield 62, 3) := by decide +kernel
theorem dX8_place_23 : decode cX8_place 23 = .ok (.iload_n 1, 1) := by decide +kernel
theorem dX8_place_24 : decode cX8_place 24 = .ok (.iaload, 1) := by decide +kernel
theorem dX8_place_25 : decode cX8_place 25 = .ok (.ifCond .ge 7, 3) := by decide +kernel
theorem dX8_place_28 : decode cX8_place 28 = .ok (.iconst 2, 1) := by decide +kernel
theorem dX8_place_29 : decode cX8_place 29 = .ok (.goto 4, 3) := by decide +kernel
theorem dX8_place_32 : decode cX8_place 32 = .ok (.iconst 0, 1) := by decide +kernel
theorem dX8_place_33 : decode cX8_place 33 = .ok (.putfield 118, 3) := by decide +kernel
theorem dX8_place_36 : decode cX8_place 36 = .ok (.aload_n 0, 1) := by decide +kernel
theorem dX8_place_37 : decode cX8_place 37 = .ok (.getfield 118, 3) := by decide +kernel
theorem dX8_place_40 : decode cX8_place 40 = .ok (.ifCond .le 5, 3) := by decide +kernel
theorem dX8_place_43 : decode cX8_place 43 = .ok (.iconst (-1), 1) := by decide +kernel
theorem dX8_place_44 : decode cX8_place 44 = .ok (.ireturn, 1) := by decide +kernel
theorem dX8_place_45 : decode cX8_place 45 = .ok (.aload_n 0, 1) := by decide +kernel
theorem dX8_place_46 : decode cX8_place 46 = .ok (.getfield 47, 3) := by decide +kernel
theorem dX8_place_49 : decode cX8_place 49 = .ok (.aload_n 0, 1) := by decide +kernel
theorem dX8_place_50 : decode cX8_place 50 = .ok (.getfield 62, 3) := by decide +kernel
theorem dX8_place_53 : decode cX8_place 53 = .ok (.iload_n 1, 1) := by decide +kernel
theorem dX8_place_54 : decode cX8_place 54 = .ok (.iaload, 1) := by decide +kernel
theorem dX8_place_55 : decode cX8_place 55 = .ok (.iaload, 1) := by decide +kernel
theorem dX8_place_56 : decode cX8_place 56 = .ok (.istore 4, 2) := by decide +kernel
theorem dX8_place_58 : decode cX8_place 58 = .ok (.aload_n 0, 1) := by decide +kernel
theorem dX8_place_59 : decode cX8_place 59 = .ok (.iload 4, 2) := by decide +kernel
theorem dX8_place_61 : decode cX8_place 61 = .ok (.iload_n 2, 1) := by decide +kernel
theorem dX8_place_62 : decode cX8_place 62 = .ok (.invokevirtual 148, 3) := by decide +kernel
theorem dX8_place_65 : decode cX8_place 65 = .ok (.istore 5, 2) := by decide +kernel
theorem dX8_place_67 : decode cX8_place 67 = .ok (.iload 5, 2) := by decide +kernel
theorem dX8_place_69 : decode cX8_place 69 = .ok (.ifCond .lt 32, 3) := by decide +kernel
theorem dX8_place_72 : decode cX8_place 72 = .ok (.iload_n 3, 1) := by decide +kernel
theorem dX8_place_73 : decode cX8_place 73 = .ok (.aload_n 0, 1) := by decide +kernel
theorem dX8_place_74 : decode cX8_place 74 = .ok (.getfield 23, 3) := by decide +kernel
theorem dX8_place_77 : decode cX8_place 77 = .ok (.bipush 6, 2) := by decide +kernel
theorem dX8_place_79 : decode cX8_place 79 = .ok (.iload 4, 2) := by decide +kernel
theorem dX8_place_81 : decode cX8_place 81 = .ok (.imul, 1) := by decide +kernel
theorem dX8_place_82 : decode cX8_place 82 = .ok (.iload 5, 2) := by decide +kernel
theorem dX8_place_84 : decode cX8_place 84 = .ok (.iadd, 1) := by decide +kernel
theorem dX8_place_85 : decode cX8_place 85 = .ok (.iaload, 1) := by decide +kernel
theorem dX8_place_86 : decode cX8_place 86 = .ok (.ifCond .ne 7, 3) := by decide +kernel
theorem dX8_place_89 : decode cX8_place 89 = .ok (.iconst 1, 1) := by decide +kernel
theorem dX8_place_90 : decode cX8_place 90 = .ok (.goto 4, 3) := by decide +kernel
theorem dX8_place_93 : decode cX8_place 93 = .ok (.iconst 0, 1) := by decide +kernel
theorem dX8_place_94 : decode cX8_place 94 = .ok (.if_icmp .ne 7, 3) := by decide +kernel
theorem dX8_place_97 : decode cX8_place 97 = .ok (.iconst 1, 1) := by decide +kernel
theorem dX8_place_98 : decode cX8_place 98 = .ok (.goto 4, 3) := by decide +kernel
theorem dX8_place_101 : decode cX8_place 101 = .ok (.iconst 0, 1) := by decide +kernel
theorem dX8_place_102 : decode cX8_place 102 = .ok (.istore 6, 2) := by decide +kernel
theorem dX8_place_104 : decode cX8_place 104 = .ok (.aload_n 0, 1) := by decide +kernel
theorem dX8_place_105 : decode cX8_place 105 = .ok (.iload 6, 2) := by decide +kernel
theorem dX8_place_107 : decode cX8_place 107 = .ok (.ifCond .eq 7, 3) := by decide +kernel
theorem dX8_place_110 : decode cX8_place 110 = .ok (.iconst 0, 1) := by decide +kernel
theorem dX8_place_111 : decode cX8_place 111 = .ok (.goto 4, 3) := by decide +kernel
theorem dX8_place_114 : decode cX8_place 114 = .ok (.iconst 2, 1) := by decide +kernel
theorem dX8_place_115 : decode cX8_place 115 = .ok (.putfield 118, 3) := by decide +kernel
theorem dX8_place_118 : decode cX8_place 118 = .ok (.iload 6, 2) := by decide +kernel
theorem dX8_place_120 : decode cX8_place 120 = .ok (.ifCond .eq 8, 3) := by decide +kernel
theorem dX8_place_123 : decode cX8_place 123 = .ok (.iload 5, 2) := by decide +kernel
theorem dX8_place_125 : decode cX8_place 125 = .ok (.goto 4, 3) := by decide +kernel
theorem dX8_place_128 : decode cX8_place 128 = .ok (.iconst (-1), 1) := by decide +kernel
theorem dX8_place_129 : decode cX8_place 129 = .ok (.ireturn, 1) := by decide +kernel
set_option maxRecDepth 20000 in
theorem ggX8_get_X8_place : GoodIn wsX8_get wsX8_place := goodIn_r _ [7, 1, 8, 9, 10, 11, 12, 6, 13, 14, 15, 16, 17, 18, 19, 20, 21, 22, 29, 30, 31, 32, 33, 34, 35, 36, 37, 38, 39, 40, 41, 42, 43, 44, 45, 46, 47, 48, 49, 50, 51, 52, 53, 54, 55, 56, 57, 58, 59, 60, 61, 62, 63, 64, 65, 66, 67, 68, 69, 70, 71, 72] (by decide +kernel) (by decide +kernel)
set_option maxRecDepth 20000 in
theorem gX8_get_X8_place : GoodIn wsX8_get (wsV RX8 152 RX8 yX8_place wsX8_place) := goodIn_app (goodIn_of _ (by decide +kernel)) ggX8_get_X8_place
set_option maxRecDepth 20000 in
theorem ggX8_get_X8_touchRecord : GoodIn wsX8_get wsX8_touchRecord := goodIn_r _ [26, 27, 28, 9, 29, 30, 31, 32, 33, 34, 35, 36, 37, 38, 39, 40, 41, 42, 43, 44, 45, 46, 47, 48, 49, 50, 51, 52, 53, 54, 55, 56, 57, 58, 59, 60, 61, 62, 63, 64, 65, 66, 67, 68, 69, 70, 71, 72] (by decide +kernel) (by decide +kernel)
set_option maxRecDepth 20000 in
theorem gX8_get_X8_touchRecord : GoodIn wsX8_get (wsV RX8 156 RX8 yX8_touchRecord wsX8_touchRecord) := goodIn_app (goodIn_of _ (by decide +kernel)) ggX8_get_X8_touchRecord
theorem dX8_get_0 : decode cX8_get 0 = .ok (.aload_n 0, 1) := by decide +kernel
theorem dX8_get_1 : decode cX8_get 1 = .ok (.iload_n 1, 1) := by decide +kernel
theorem dX8_get_2 : decode cX8_get 2 = .ok (.iload_n 2, 1) := by decide +kernel
theorem dX8_get_3 : decode cX8_get 3 = .ok (.iconst 1, 1) := by decide +kernel
theorem dX8_get_4 : decode cX8_get 4 = .ok (.invokevirtual 152, 3) := by decide +kernel
theorem dX8_get_7 : decode cX8_get 7 = .ok (.istore_n 3, 1) := by decide +kernel
theorem dX8_get_8 : decode cX8_get 8 = .ok (.iload_n 3, 1) := by decide +kernel
theorem dX8_get_9 : decode cX8_get 9 = .ok (.ifCond .ge 5, 3) := by decide +kernel
theorem dX8_get_12 : decode cX8_get 12 = .ok (.iconst 0, 1) := by decide +kernel
theorem dX8_get_13 : decode cX8_get 13 = .ok (.ireturn, 1) := by decide +kernel
theorem dX8_get_14 : decode cX8_get 14 = .ok (.aload_n 0, 1) := by decide +kernel
theorem dX8_get_15 : decode cX8_get 15 = .ok (.aload_n 0, 1) := by decide +kernel
theorem dX8_get_16 : decode cX8_get 16 = .ok (.getfield 62, 3) := by decide +kernel
theorem dX8_get_19 : decode cX8_get 19 = .ok (.iload_n 1, 1) := by decide +kernel
theorem dX8_get_20 : decode cX8_get 20 = .ok (.iaload, 1) := by decide +kernel
theorem dX8_get_21 : decode cX8_get 21 = .ok (.invokevirtual 156, 3) := by decide +kernel
theorem dX8_get_24 : decode cX8_get 24 = .ok (.aload_n 0, 1) := by decide +kernel
theorem dX8_get_25 : decode cX8_get 25 = .ok (.getfield 53, 3) := by decide +kernel
theorem dX8_get_28 : decode cX8_get 28 = .ok (.bipush 6, 2) := by decide +kernel
theorem dX8_get_30 : decode cX8_get 30 = .ok (.aload_n 0, 1) := by decide +kernel
theorem dX8_get_31 : decode cX8_get 31 = .ok (.getfield 62, 3) := by decide +kernel
theorem dX8_get_34 : decode cX8_get 34 = .ok (.iload_n 1, 1) := by decide +kernel
theorem dX8_get_35 : decode cX8_get 35 = .ok (.iaload, 1) := by decide +kernel
theorem dX8_get_36 : decode cX8_get 36 = .ok (.imul, 1) := by decide +kernel
theorem dX8_get_37 : decode cX8_get 37 = .ok (.iload_n 3, 1) := by decide +kernel
theorem dX8_get_38 : decode cX8_get 38 = .ok (.iadd, 1) := by decide +kernel
theorem dX8_get_39 : decode cX8_get 39 = .ok (.iaload, 1) := by decide +kernel
theorem dX8_get_40 : decode cX8_get 40 = .ok (.ireturn, 1) := by decide +kernel
set_option maxRecDepth 20000 in
theorem ggX8_set_X8_place : GoodIn wsX8_set wsX8_place := goodIn_r _ [12, 1, 5, 2, 13, 14, 15, 11, 16, 17, 18, 19, 20, 21, 22, 23, 24, 25, 32, 33, 34, 35, 36, 37, 38, 39, 40, 41, 42, 43, 44, 45, 46, 47, 48, 49, 50, 51, 52, 53, 54, 55, 56, 57, 58, 59, 60, 61, 62, 63, 64, 65, 66, 67, 68, 69, 70, 71, 72, 73, 74, 75] (by decide +kernel) (by decide +kernel)
set_option maxRecDepth 20000 in
theorem gX8_set_X8_place : GoodIn wsX8_set (wsV RX8 152 RX8 yX8_place wsX8_place) := goodIn_app (goodIn_of _ (by decide +kernel)) ggX8_set_X8_place
set_option maxRecDepth 20000 in
theorem ggX8_set_X8_touchRecord : GoodIn wsX8_set wsX8_touchRecord := goodIn_r _ [29, 30, 31, 2, 32, 33, 34, 35, 36, 37, 38, 39, 40, 41, 42, 43, 44, 45, 46, 47, 48, 49, 50, 51, 52, 53, 54, 55, 56, 57, 58, 59, 60, 61, 62, 63, 64, 65, 66, 67, 68, 69, 70, 71, 72, 73, 74, 75] (by decide +kernel) (by decide +kernel)
set_option maxRecDepth 20000 in
theorem gX8_set_X8_touchRecord : GoodIn wsX8_set (wsV RX8 156 RX8 yX8_touchRecord wsX8_touchRecord) := goodIn_app (goodIn_of _ (by decide +kernel)) ggX8_set_X8_touchRecord
theorem dX8_set_0 : decode cX8_set 0 = .ok (.aload_n 0, 1) := by decide +kernel
theorem dX8_set_1 : decode cX8_set 1 = .ok (.iload_n 1, 1) := by decide +kernel
theorem dX8_set_2 : decode cX8_set 2 = .ok (.iload_n 2, 1) := by decide +kernel
theorem dX8_set_3 : decode cX8_set 3 = .ok (.iconst 1, 1) := by decide +kernel
theorem dX8_set_4 : decode cX8_set 4 = .ok (.invokevirtual 152, 3) := by decide +kernel
theorem dX8_set_7 : decode cX8_set 7 = .ok (.istore 4, 2) := by decide +kernel
