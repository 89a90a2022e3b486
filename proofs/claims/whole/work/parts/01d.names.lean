set_option maxRecDepth 20000 in
theorem gX7_takeBack_X7_needClass : GoodIn wsX7_takeBack (wsV RX7 75 RX7 yX7_needClass wsX7_needClass) := goodIn_app (goodIn_of _ (by decide +kernel)) ggX7_takeBack_X7_needClass
set_option maxRecDepth 20000 in
theorem ggX7_takeBack_X0_isOf : GoodIn wsX7_takeBack wsX0_isOf := goodIn_r _ [27, 28, 29, 93, 94, 95, 96, 97, 98] (by decide +kernel) (by decide +kernel)
set_option maxRecDepth 20000 in
theorem gX7_takeBack_X0_isOf : GoodIn wsX7_takeBack (wsV RX7 202 RX0 yX0_isOf wsX0_isOf) := goodIn_app (goodIn_of _ (by decide +kernel)) ggX7_takeBack_X0_isOf
set_option maxRecDepth 20000 in
theorem ggX7_takeBack_X7_restore : GoodIn wsX7_takeBack wsX7_restore := goodIn_r _ [33, 34, 35, 5, 36, 37, 38, 39, 40, 41, 42, 43, 44, 45, 46, 47, 48, 49, 50, 51, 52, 53, 54, 55, 56, 57, 58, 99, 100, 101, 102, 103, 104, 93, 94, 95, 96, 97, 98, 75, 76, 77, 78, 79, 80, 81, 82, 83, 84, 85, 90, 91, 92] (by decide +kernel) (by decide +kernel)
set_option maxRecDepth 20000 in
theorem gX7_takeBack_X7_restore : GoodIn wsX7_takeBack (wsV RX7 208 RX7 yX7_restore wsX7_restore) := goodIn_app (goodIn_of _ (by decide +kernel)) ggX7_takeBack_X7_restore
set_option maxRecDepth 20000 in
theorem ggX7_takeBack_X4_copyFrom : GoodIn wsX7_takeBack wsX4_copyFrom := goodIn_r _ [62, 47, 63, 64, 65, 40, 66, 67, 42, 68, 69, 70, 71, 72, 73, 74, 99, 100, 101, 102, 103, 104] (by decide +kernel) (by decide +kernel)
set_option maxRecDepth 20000 in
theorem gX7_takeBack_X4_copyFrom : GoodIn wsX7_takeBack (wsV RX7 215 RX4 yX4_copyFrom wsX4_copyFrom) := goodIn_app (goodIn_of _ (by decide +kernel)) ggX7_takeBack_X4_copyFrom
theorem dX7_takeBack_0 : decode cX7_takeBack 0 = .ok (.aload_n 0, 1) := by decide +kernel
theorem dX7_takeBack_1 : decode cX7_takeBack 1 = .ok (.iload_n 1, 1) := by decide +kernel
theorem dX7_takeBack_2 : decode cX7_takeBack 2 = .ok (.invokevirtual 75, 3) := by decide +kernel
theorem dX7_takeBack_5 : decode cX7_takeBack 5 = .ok (.aload_n 0, 1) := by decide +kernel
theorem dX7_takeBack_6 : decode cX7_takeBack 6 = .ok (.getfield 11, 3) := by decide +kernel
theorem dX7_takeBack_9 : decode cX7_takeBack 9 = .ok (.iload_n 1, 1) := by decide +kernel
theorem dX7_takeBack_10 : decode cX7_takeBack 10 = .ok (.aaload, 1) := by decide +kernel
theorem dX7_takeBack_11 : decode cX7_takeBack 11 = .ok (.astore_n 2, 1) := by decide +kernel
theorem dX7_takeBack_12 : decode cX7_takeBack 12 = .ok (.aload_n 2, 1) := by decide +kernel
theorem dX7_takeBack_13 : decode cX7_takeBack 13 = .ok (.getfield 126, 3) := by decide +kernel
theorem dX7_takeBack_16 : decode cX7_takeBack 16 = .ok (.ifCond .ne 13, 3) := by decide +kernel
theorem dX7_takeBack_19 : decode cX7_takeBack 19 = .ok (.new 68, 3) := by decide +kernel
theorem dX7_takeBack_22 : decode cX7_takeBack 22 = .ok (.dup, 1) := by decide +kernel
theorem dX7_takeBack_23 : decode cX7_takeBack 23 = .ok (.ldc 197, 2) := by decide +kernel
theorem dX7_takeBack_25 : decode cX7_takeBack 25 = .ok (.invokespecial 72, 3) := by decide +kernel
theorem dX7_takeBack_28 : decode cX7_takeBack 28 = .ok (.athrow, 1) := by decide +kernel
theorem dX7_takeBack_29 : decode cX7_takeBack 29 = .ok (.iconst 0, 1) := by decide +kernel
theorem dX7_takeBack_30 : decode cX7_takeBack 30 = .ok (.istore_n 3, 1) := by decide +kernel
theorem dX7_takeBack_31 : decode cX7_takeBack 31 = .ok (.iconst 0, 1) := by decide +kernel
theorem dX7_takeBack_32 : decode cX7_takeBack 32 = .ok (.istore 4, 2) := by decide +kernel
theorem dX7_takeBack_34 : decode cX7_takeBack 34 = .ok (.iload 4, 2) := by decide +kernel
theorem dX7_takeBack_36 : decode cX7_takeBack 36 = .ok (.bipush 24, 2) := by decide +kernel
theorem dX7_takeBack_38 : decode cX7_takeBack 38 = .ok (.if_icmp .ge 66, 3) := by decide +kernel
theorem dX7_takeBack_41 : decode cX7_takeBack 41 = .ok (.aload_n 0, 1) := by decide +kernel
theorem dX7_takeBack_42 : decode cX7_takeBack 42 = .ok (.getfield 19, 3) := by decide +kernel
theorem dX7_takeBack_45 : decode cX7_takeBack 45 = .ok (.getfield 199, 3) := by decide +kernel
theorem dX7_takeBack_48 : decode cX7_takeBack 48 = .ok (.iload 4, 2) := by decide +kernel
theorem dX7_takeBack_50 : decode cX7_takeBack 50 = .ok (.aaload, 1) := by decide +kernel
theorem dX7_takeBack_51 : decode cX7_takeBack 51 = .ok (.astore 5, 2) := by decide +kernel
theorem dX7_takeBack_53 : decode cX7_takeBack 53 = .ok (.aload 5, 2) := by decide +kernel
theorem dX7_takeBack_55 : decode cX7_takeBack 55 = .ok (.iload_n 1, 1) := by decide +kernel
theorem dX7_takeBack_56 : decode cX7_takeBack 56 = .ok (.invokevirtual 202, 3) := by decide +kernel
theorem dX7_takeBack_59 : decode cX7_takeBack 59 = .ok (.ifCond .eq 39, 3) := by decide +kernel
theorem dX7_takeBack_62 : decode cX7_takeBack 62 = .ok (.aload_n 0, 1) := by decide +kernel
theorem dX7_takeBack_63 : decode cX7_takeBack 63 = .ok (.aload 5, 2) := by decide +kernel
theorem dX7_takeBack_65 : decode cX7_takeBack 65 = .ok (.aload_n 2, 1) := by decide +kernel
theorem dX7_takeBack_66 : decode cX7_takeBack 66 = .ok (.getfield 205, 3) := by decide +kernel
theorem dX7_takeBack_69 : decode cX7_takeBack 69 = .ok (.invokevirtual 208, 3) := by decide +kernel
theorem dX7_takeBack_72 : decode cX7_takeBack 72 = .ok (.aload 5, 2) := by decide +kernel
theorem dX7_takeBack_74 : decode cX7_takeBack 74 = .ok (.getfield 212, 3) := by decide +kernel
theorem dX7_takeBack_77 : decode cX7_takeBack 77 = .ok (.aload_n 2, 1) := by decide +kernel
theorem dX7_takeBack_78 : decode cX7_takeBack 78 = .ok (.getfield 183, 3) := by decide +kernel
theorem dX7_takeBack_81 : decode cX7_takeBack 81 = .ok (.if_icmp .ne 17, 3) := by decide +kernel
theorem dX7_takeBack_84 : decode cX7_takeBack 84 = .ok (.aload 5, 2) := by decide +kernel
theorem dX7_takeBack_86 : decode cX7_takeBack 86 = .ok (.dup, 1) := by decide +kernel
theorem dX7_takeBack_87 : decode cX7_takeBack 87 = .ok (.getfield 212, 3) := by decide +kernel
theorem dX7_takeBack_90 : decode cX7_takeBack 90 = .ok (.iconst 1, 1) := by decide +kernel
theorem dX7_takeBack_91 : decode cX7_takeBack 91 = .ok (.isub, 1) := by decide +kernel
theorem dX7_takeBack_92 : decode cX7_takeBack 92 = .ok (.putfield 212, 3) := by decide +kernel
theorem dX7_takeBack_95 : decode cX7_takeBack 95 = .ok (.iinc 3 1, 3) := by decide +kernel
theorem dX7_takeBack_98 : decode cX7_takeBack 98 = .ok (.iinc 4 1, 3) := by decide +kernel
theorem dX7_takeBack_101 : decode cX7_takeBack 101 = .ok (.goto (-67), 3) := by decide +kernel
theorem dX7_takeBack_104 : decode cX7_takeBack 104 = .ok (.aload_n 2, 1) := by decide +kernel
theorem dX7_takeBack_105 : decode cX7_takeBack 105 = .ok (.getfield 115, 3) := by decide +kernel
theorem dX7_takeBack_108 : decode cX7_takeBack 108 = .ok (.aload_n 2, 1) := by decide +kernel
theorem dX7_takeBack_109 : decode cX7_takeBack 109 = .ok (.getfield 205, 3) := by decide +kernel
theorem dX7_takeBack_112 : decode cX7_takeBack 112 = .ok (.invokevirtual 215, 3) := by decide +kernel
theorem dX7_takeBack_115 : decode cX7_takeBack 115 = .ok (.aload_n 2, 1) := by decide +kernel
theorem dX7_takeBack_116 : decode cX7_takeBack 116 = .ok (.dup, 1) := by decide +kernel
theorem dX7_takeBack_117 : decode cX7_takeBack 117 = .ok (.getfield 183, 3) := by decide +kernel
theorem dX7_takeBack_120 : decode cX7_takeBack 120 = .ok (.iconst 1, 1) := by decide +kernel
theorem dX7_takeBack_121 : decode cX7_takeBack 121 = .ok (.isub, 1) := by decide +kernel
theorem dX7_takeBack_122 : decode cX7_takeBack 122 = .ok (.putfield 183, 3) := by decide +kernel
theorem dX7_takeBack_125 : decode cX7_takeBack 125 = .ok (.aload_n 2, 1) := by decide +kernel
theorem dX7_takeBack_126 : decode cX7_takeBack 126 = .ok (.iconst 0, 1) := by decide +kernel
theorem dX7_takeBack_127 : decode cX7_takeBack 127 = .ok (.putfield 126, 3) := by decide +kernel
theorem dX7_takeBack_130 : decode cX7_takeBack 130 = .ok (.iload_n 3, 1) := by decide +kernel
theorem dX7_takeBack_131 : decode cX7_takeBack 131 = .ok (.ireturn, 1) := by decide +kernel
set_option maxRecDepth 20000 in
theorem ggX7_versionOf_X7_needRoot : GoodIn wsX7_versionOf wsX7_needRoot := goodIn_ca (goodIn_r _ [5, 6, 7] (by decide +kernel) (by decide +kernel)) (goodIn_sub (fun _ h => List.mem_cons_of_mem _ (List.mem_append_left _ (List.mem_append_right _ h))) (by decide +kernel))
set_option maxRecDepth 20000 in
theorem gX7_versionOf_X7_needRoot : GoodIn wsX7_versionOf (va_wsS RX7 79 yX7_needRoot wsX7_needRoot) := goodIn_app (goodIn_of _ (by decide +kernel)) ggX7_versionOf_X7_needRoot
set_option maxRecDepth 20000 in
theorem ggX7_versionOf_X7_heldBy : GoodIn wsX7_versionOf wsX7_heldBy := goodIn_ca (goodIn_r _ [11, 12, 13, 14, 15, 16, 17, 18, 19, 20, 21, 22, 23, 24, 25, 26, 33, 34, 35, 36, 37, 38, 39, 40, 41, 42, 43, 44, 45, 46, 27, 28, 29, 30, 31, 32] (by decide +kernel) (by decide +kernel)) (goodIn_sub (fun _ h => List.mem_cons_of_mem _ (List.mem_append_right _ h)) (by decide +kernel))
set_option maxRecDepth 20000 in
theorem gX7_versionOf_X7_heldBy : GoodIn wsX7_versionOf (wsV RX7 97 RX7 yX7_heldBy wsX7_heldBy) := goodIn_app (goodIn_of _ (by decide +kernel)) ggX7_versionOf_X7_heldBy
theorem dX7_versionOf_0 : decode cX7_versionOf 0 = .ok (.iload_n 1, 1) := by decide +kernel
theorem dX7_versionOf_1 : decode cX7_versionOf 1 = .ok (.invokestatic 79, 3) := by decide +kernel
theorem dX7_versionOf_4 : decode cX7_versionOf 4 = .ok (.aload_n 0, 1) := by decide +kernel
theorem dX7_versionOf_5 : decode cX7_versionOf 5 = .ok (.iload_n 1, 1) := by decide +kernel
theorem dX7_versionOf_6 : decode cX7_versionOf 6 = .ok (.invokevirtual 97, 3) := by decide +kernel
theorem dX7_versionOf_9 : decode cX7_versionOf 9 = .ok (.getfield 212, 3) := by decide +kernel
theorem dX7_versionOf_12 : decode cX7_versionOf 12 = .ok (.ireturn, 1) := by decide +kernel
set_option maxRecDepth 20000 in
theorem ggX7_touch_X7_needRoot : GoodIn wsX7_touch wsX7_needRoot := goodIn_ca (goodIn_r _ [4, 5, 6] (by decide +kernel) (by decide +kernel)) (goodIn_sub (fun _ h => List.mem_cons_of_mem _ (List.mem_append_left _ (List.mem_append_right _ h))) (by decide +kernel))
set_option maxRecDepth 20000 in
theorem gX7_touch_X7_needRoot : GoodIn wsX7_touch (va_wsS RX7 79 yX7_needRoot wsX7_needRoot) := goodIn_app (goodIn_of _ (by decide +kernel)) ggX7_touch_X7_needRoot
set_option maxRecDepth 20000 in
theorem ggX7_touch_X7_heldBy : GoodIn wsX7_touch wsX7_heldBy := goodIn_ca (goodIn_r _ [10, 11, 12, 13, 14, 15, 16, 17, 18, 19, 20, 21, 22, 23, 24, 25, 34, 35, 36, 37, 38, 39, 40, 41, 42, 43, 44, 45, 46, 47, 48, 49, 50, 51, 52, 53] (by decide +kernel) (by decide +kernel)) (goodIn_sub (fun _ h => List.mem_cons_of_mem _ (List.mem_append_right _ h)) (by decide +kernel))
set_option maxRecDepth 20000 in
theorem gX7_touch_X7_heldBy : GoodIn wsX7_touch (wsV RX7 97 RX7 yX7_heldBy wsX7_heldBy) := goodIn_app (goodIn_of _ (by decide +kernel)) ggX7_touch_X7_heldBy
set_option maxRecDepth 20000 in
theorem ggX7_touch_X7_bringForward : GoodIn wsX7_touch wsX7_bringForward := goodIn_r _ [29, 30, 31, 32, 33, 34, 35, 36, 37, 38, 39, 40, 41, 42, 43, 44, 48, 49, 50, 51, 52, 53, 54, 55, 56, 57] (by decide +kernel) (by decide +kernel)
set_option maxRecDepth 20000 in
theorem gX7_touch_X7_bringForward : GoodIn wsX7_touch (wsV RX7 105 RX7 yX7_bringForward wsX7_bringForward) := goodIn_app (goodIn_of _ (by decide +kernel)) ggX7_touch_X7_bringForward
theorem dX7_touch_0 : decode cX7_touch 0 = .ok (.iload_n 1, 1) := by decide +kernel
theorem dX7_touch_1 : decode cX7_touch 1 = .ok (.invokestatic 79, 3) := by decide +kernel
theorem dX7_touch_4 : decode cX7_touch 4 = .ok (.aload_n 0, 1) := by decide +kernel
theorem dX7_touch_5 : decode cX7_touch 5 = .ok (.aload_n 0, 1) := by decide +kernel
theorem dX7_touch_6 : decode cX7_touch 6 = .ok (.iload_n 1, 1) := by decide +kernel
theorem dX7_touch_7 : decode cX7_touch 7 = .ok (.invokevirtual 97, 3) := by decide +kernel
theorem dX7_touch_10 : decode cX7_touch 10 = .ok (.invokevirtual 105, 3) := by decide +kernel
theorem dX7_touch_13 : decode cX7_touch 13 = .ok (.ireturn, 1) := by decide +kernel
set_option maxRecDepth 20000 in
theorem ggX7_sweep_X7_needClass : GoodIn wsX7_sweep wsX7_needClass := goodIn_ca (goodIn_r _ [7, 8, 9, 10, 11, 12, 6, 13, 14, 30, 31, 32, 33, 34, 35, 36, 37, 38, 39, 40] (by decide +kernel) (by decide +kernel)) (goodIn_sub (fun _ h => List.mem_cons_of_mem _ (List.mem_append_right _ h)) (by decide +kernel))
set_option maxRecDepth 20000 in
theorem gX7_sweep_X7_needClass : GoodIn wsX7_sweep (wsV RX7 75 RX7 yX7_needClass wsX7_needClass) := goodIn_app (goodIn_of _ (by decide +kernel)) ggX7_sweep_X7_needClass
set_option maxRecDepth 20000 in
theorem ggX7_sweep_X0_isOf : GoodIn wsX7_sweep wsX0_isOf := goodIn_r _ [19, 20, 21, 44, 45, 46, 47, 48, 49] (by decide +kernel) (by decide +kernel)
set_option maxRecDepth 20000 in
theorem gX7_sweep_X0_isOf : GoodIn wsX7_sweep (wsV RX7 202 RX0 yX0_isOf wsX0_isOf) := goodIn_app (goodIn_of _ (by decide +kernel)) ggX7_sweep_X0_isOf
set_option maxRecDepth 20000 in
theorem ggX7_sweep_X7_bringForward : GoodIn wsX7_sweep wsX7_bringForward := goodIn_r _ [25, 26, 27, 28, 29, 30, 31, 32, 33, 34, 35, 36, 37, 38, 39, 40, 44, 45, 46, 47, 48, 49, 50, 51, 52, 53] (by decide +kernel) (by decide +kernel)
set_option maxRecDepth 20000 in
theorem gX7_sweep_X7_bringForward : GoodIn wsX7_sweep (wsV RX7 105 RX7 yX7_bringForward wsX7_bringForward) := goodIn_app (goodIn_of _ (by decide +kernel)) ggX7_sweep_X7_bringForward
theorem dX7_sweep_0 : decode cX7_sweep 0 = .ok (.aload_n 0, 1) := by decide +kernel
theorem dX7_sweep_1 : decode cX7_sweep 1 = .ok (.iload_n 1, 1) := by decide +kernel
theorem dX7_sweep_2 : decode cX7_sweep 2 = .ok (.invokevirtual 75, 3) := by decide +kernel
theorem dX7_sweep_5 : decode cX7_sweep 5 = .ok (.iconst 0, 1) := by decide +kernel
theorem dX7_sweep_6 : decode cX7_sweep 6 = .ok (.istore_n 2, 1) := by decide +kernel
theorem dX7_sweep_7 : decode cX7_sweep 7 = .ok (.iconst 0, 1) := by decide +kernel
theorem dX7_sweep_8 : decode cX7_sweep 8 = .ok (.istore_n 3, 1) := by decide +kernel
theorem dX7_sweep_9 : decode cX7_sweep 9 = .ok (.iload_n 3, 1) := by decide +kernel
theorem dX7_sweep_10 : decode cX7_sweep 10 = .ok (.bipush 24, 2) := by decide +kernel
theorem dX7_sweep_12 : decode cX7_sweep 12 = .ok (.if_icmp .ge 41, 3) := by decide +kernel
theorem dX7_sweep_15 : decode cX7_sweep 15 = .ok (.aload_n 0, 1) := by decide +kernel
theorem dX7_sweep_16 : decode cX7_sweep 16 = .ok (.getfield 19, 3) := by decide +kernel
theorem dX7_sweep_19 : decode cX7_sweep 19 = .ok (.getfield 199, 3) := by decide +kernel
theorem dX7_sweep_22 : decode cX7_sweep 22 = .ok (.iload_n 3, 1) := by decide +kernel
theorem dX7_sweep_23 : decode cX7_sweep 23 = .ok (.aaload, 1) := by decide +kernel
theorem dX7_sweep_24 : decode cX7_sweep 24 = .ok (.astore 4, 2) := by decide +kernel
theorem dX7_sweep_26 : decode cX7_sweep 26 = .ok (.aload 4, 2) := by decide +kernel
theorem dX7_sweep_28 : decode cX7_sweep 28 = .ok (.iload_n 1, 1) := by decide +kernel
theorem dX7_sweep_29 : decode cX7_sweep 29 = .ok (.invokevirtual 202, 3) := by decide +kernel
theorem dX7_sweep_32 : decode cX7_sweep 32 = .ok (.ifCond .eq 15, 3) := by decide +kernel
theorem dX7_sweep_35 : decode cX7_sweep 35 = .ok (.aload_n 0, 1) := by decide +kernel
theorem dX7_sweep_36 : decode cX7_sweep 36 = .ok (.aload 4, 2) := by decide +kernel
theorem dX7_sweep_38 : decode cX7_sweep 38 = .ok (.invokevirtual 105, 3) := by decide +kernel
theorem dX7_sweep_41 : decode cX7_sweep 41 = .ok (.ifCond .le 6, 3) := by decide +kernel
theorem dX7_sweep_44 : decode cX7_sweep 44 = .ok (.iinc 2 1, 3) := by decide +kernel
theorem dX7_sweep_47 : decode cX7_sweep 47 = .ok (.iinc 3 1, 3) := by decide +kernel
theorem dX7_sweep_50 : decode cX7_sweep 50 = .ok (.goto (-41), 3) := by decide +kernel
theorem dX7_sweep_53 : decode cX7_sweep 53 = .ok (.iload_n 2, 1) := by decide +kernel
theorem dX7_sweep_54 : decode cX7_sweep 54 = .ok (.ireturn, 1) := by decide +kernel
set_option maxRecDepth 20000 in
theorem ggX7_collect_X7_reachAll : GoodIn wsX7_collect wsX7_reachAll := goodIn_r _ [9, 1, 2, 4, 10, 11, 12, 13, 14, 8, 15, 16, 17, 18, 19, 20, 21, 22, 23, 24, 25, 26, 27, 28, 29, 30, 31, 32, 33, 34, 35, 36, 37, 38, 39, 40, 41, 42, 43, 44, 45, 46, 52, 53, 54, 55, 56, 57, 58, 59, 60, 61, 62, 63, 64, 65, 66, 67, 68, 69, 70, 71, 72, 73, 74, 75, 76, 77, 78, 79, 80, 81] (by decide +kernel) (by decide +kernel)
set_option maxRecDepth 20000 in
theorem gX7_collect_X7_reachAll : GoodIn wsX7_collect (wsV RX7 218 RX7 yX7_reachAll wsX7_reachAll) := goodIn_app (goodIn_of _ (by decide +kernel)) ggX7_collect_X7_reachAll
set_option maxRecDepth 20000 in
theorem ggX7_collect_X6_remove : GoodIn wsX7_collect wsX6_remove := goodIn_r _ [50, 26, 51, 66, 67, 68, 69, 70, 71, 63, 64, 65] (by decide +kernel) (by decide +kernel)
set_option maxRecDepth 20000 in
theorem gX7_collect_X6_remove : GoodIn wsX7_collect (wsV RX7 227 RX6 yX6_remove wsX6_remove) := goodIn_app (goodIn_of _ (by decide +kernel)) ggX7_collect_X6_remove
theorem dX7_collect_0 : decode cX7_collect 0 = .ok (.aload_n 0, 1) := by decide +kernel
theorem dX7_collect_1 : decode cX7_collect 1 = .ok (.invokevirtual 218, 3) := by decide +kernel
theorem dX7_collect_4 : decode cX7_collect 4 = .ok (.iconst 0, 1) := by decide +kernel
theorem dX7_collect_5 : decode cX7_collect 5 = .ok (.istore_n 1, 1) := by decide +kernel
theorem dX7_collect_6 : decode cX7_collect 6 = .ok (.iconst 0, 1) := by decide +kernel
theorem dX7_collect_7 : decode cX7_collect 7 = .ok (.istore_n 2, 1) := by decide +kernel
theorem dX7_collect_8 : decode cX7_collect 8 = .ok (.iload_n 2, 1) := by decide +kernel
theorem dX7_collect_9 : decode cX7_collect 9 = .ok (.bipush 24, 2) := by decide +kernel
theorem dX7_collect_11 : decode cX7_collect 11 = .ok (.if_icmp .ge 44, 3) := by decide +kernel
theorem dX7_collect_14 : decode cX7_collect 14 = .ok (.aload_n 0, 1) := by decide +kernel
theorem dX7_collect_15 : decode cX7_collect 15 = .ok (.getfield 19, 3) := by decide +kernel
theorem dX7_collect_18 : decode cX7_collect 18 = .ok (.getfield 199, 3) := by decide +kernel
theorem dX7_collect_21 : decode cX7_collect 21 = .ok (.iload_n 2, 1) := by decide +kernel
theorem dX7_collect_22 : decode cX7_collect 22 = .ok (.aaload, 1) := by decide +kernel
theorem dX7_collect_23 : decode cX7_collect 23 = .ok (.astore_n 3, 1) := by decide +kernel
theorem dX7_collect_24 : decode cX7_collect 24 = .ok (.aload_n 3, 1) := by decide +kernel
theorem dX7_collect_25 : decode cX7_collect 25 = .ok (.getfield 221, 3) := by decide +kernel
theorem dX7_collect_28 : decode cX7_collect 28 = .ok (.ifCond .eq 21, 3) := by decide +kernel
theorem dX7_collect_31 : decode cX7_collect 31 = .ok (.aload_n 3, 1) := by decide +kernel
theorem dX7_collect_32 : decode cX7_collect 32 = .ok (.getfield 224, 3) := by decide +kernel
theorem dX7_collect_35 : decode cX7_collect 35 = .ok (.ifCond .ne 14, 3) := by decide +kernel
theorem dX7_collect_38 : decode cX7_collect 38 = .ok (.aload_n 0, 1) := by decide +kernel
theorem dX7_collect_39 : decode cX7_collect 39 = .ok (.getfield 19, 3) := by decide +kernel
theorem dX7_collect_42 : decode cX7_collect 42 = .ok (.aload_n 3, 1) := by decide +kernel
theorem dX7_collect_43 : decode cX7_collect 43 = .ok (.invokevirtual 227, 3) := by decide +kernel
theorem dX7_collect_46 : decode cX7_collect 46 = .ok (.iinc 1 1, 3) := by decide +kernel
theorem dX7_collect_49 : decode cX7_collect 49 = .ok (.iinc 2 1, 3) := by decide +kernel
theorem dX7_collect_52 : decode cX7_collect 52 = .ok (.goto (-44), 3) := by decide +kernel
theorem dX7_collect_55 : decode cX7_collect 55 = .ok (.iload_n 1, 1) := by decide +kernel
theorem dX7_collect_56 : decode cX7_collect 56 = .ok (.ireturn, 1) := by decide +kernel
set_option maxRecDepth 20000 in
theorem ggX7_about_X7_needClass : GoodIn wsX7_about wsX7_needClass := goodIn_ca (goodIn_r _ [12, 1, 2, 13, 14, 15, 11, 16, 17, 36, 37, 38, 39, 40, 41, 42, 43, 44, 45, 46] (by decide +kernel) (by decide +kernel)) (goodIn_sub (fun _ h => List.mem_cons_of_mem _ (List.mem_append_right _ h)) (by decide +kernel))
set_option maxRecDepth 20000 in
theorem gX7_about_X7_needClass : GoodIn wsX7_about (wsV RX7 75 RX7 yX7_needClass wsX7_needClass) := goodIn_app (goodIn_of _ (by decide +kernel)) ggX7_about_X7_needClass
set_option maxRecDepth 20000 in
theorem ggX7_about_X6_countOf : GoodIn wsX7_about wsX6_countOf := goodIn_r _ [22, 23, 24, 25, 26, 27, 28, 29, 30, 57, 58, 59, 60, 61, 62, 63, 64, 65] (by decide +kernel) (by decide +kernel)
set_option maxRecDepth 20000 in
theorem gX7_about_X6_countOf : GoodIn wsX7_about (wsV RX7 231 RX6 yX6_countOf wsX6_countOf) := goodIn_app (goodIn_of _ (by decide +kernel)) ggX7_about_X6_countOf
set_option maxRecDepth 20000 in
theorem ggX7_about_X6_countKeptAs : GoodIn wsX7_about wsX6_countKeptAs := goodIn_r _ [34, 23, 35, 24, 25, 26, 27, 28, 29, 30, 57, 58, 59, 60, 61, 62, 63, 64, 65] (by decide +kernel) (by decide +kernel)
set_option maxRecDepth 20000 in
theorem gX7_about_X6_countKeptAs : GoodIn wsX7_about (wsV RX7 235 RX6 yX6_countKeptAs wsX6_countKeptAs) := goodIn_app (goodIn_of _ (by decide +kernel)) ggX7_about_X6_countKeptAs
theorem dX7_about_0 : decode cX7_about 0 = .ok (.aload_n 0, 1) := by decide +kernel
theorem dX7_about_1 : decode cX7_about 1 = .ok (.iload_n 1, 1) := by decide +kernel
theorem dX7_about_2 : decode cX7_about 2 = .ok (.invokevirtual 75, 3) := by decide +kernel
theorem dX7_about_5 : decode cX7_about 5 = .ok (.iload_n 2, 1) := by decide +kernel
theorem dX7_about_6 : decode cX7_about 6 = .ok (.tableswitch 89 0 3 #[30, 40, 49, 76], 30) := by decide +kernel
theorem dX7_about_36 : decode cX7_about 36 = .ok (.aload_n 0, 1) := by decide +kernel
theorem dX7_about_37 : decode cX7_about 37 = .ok (.getfield 11, 3) := by decide +kernel
theorem dX7_about_40 : decode cX7_about 40 = .ok (.iload_n 1, 1) := by decide +kernel
theorem dX7_about_41 : decode cX7_about 41 = .ok (.aaload, 1) := by decide +kernel
theorem dX7_about_42 : decode cX7_about 42 = .ok (.getfield 183, 3) := by decide +kernel
theorem dX7_about_45 : decode cX7_about 45 = .ok (.ireturn, 1) := by decide +kernel
theorem dX7_about_46 : decode cX7_about 46 = .ok (.aload_n 0, 1) := by decide +kernel
theorem dX7_about_47 : decode cX7_about 47 = .ok (.getfield 19, 3) := by decide +kernel
theorem dX7_about_50 : decode cX7_about 50 = .ok (.iload_n 1, 1) := by decide +kernel
theorem dX7_about_51 : decode cX7_about 51 = .ok (.invokevirtual 231, 3) := by decide +kernel
theorem dX7_about_54 : decode cX7_about 54 = .ok (.ireturn, 1) := by decide +kernel
theorem dX7_about_55 : decode cX7_about 55 = .ok (.aload_n 0, 1) := by decide +kernel
theorem dX7_about_56 : decode cX7_about 56 = .ok (.getfield 19, 3) := by decide +kernel
theorem dX7_about_59 : decode cX7_about 59 = .ok (.iload_n 1, 1) := by decide +kernel
theorem dX7_about_60 : decode cX7_about 60 = .ok (.invokevirtual 231, 3) := by decide +kernel
theorem dX7_about_63 : decode cX7_about 63 = .ok (.aload_n 0, 1) := by decide +kernel
theorem dX7_about_64 : decode cX7_about 64 = .ok (.getfield 19, 3) := by decide +kernel
theorem dX7_about_67 : decode cX7_about 67 = .ok (.iload_n 1, 1) := by decide +kernel
theorem dX7_about_68 : decode cX7_about 68 = .ok (.aload_n 0, 1) := by decide +kernel
theorem dX7_about_69 : decode cX7_about 69 = .ok (.getfield 11, 3) := by decide +kernel
theorem dX7_about_72 : decode cX7_about 72 = .ok (.iload_n 1, 1) := by decide +kernel
theorem dX7_about_73 : decode cX7_about 73 = .ok (.aaload, 1) := by decide +kernel
theorem dX7_about_74 : decode cX7_about 74 = .ok (.getfield 183, 3) := by decide +kernel
theorem dX7_about_77 : decode cX7_about 77 = .ok (.invokevirtual 235, 3) := by decide +kernel
theorem dX7_about_80 : decode cX7_about 80 = .ok (.isub, 1) := by decide +kernel
theorem dX7_about_81 : decode cX7_about 81 = .ok (.ireturn, 1) := by decide +kernel
theorem dX7_about_82 : decode cX7_about 82 = .ok (.aload_n 0, 1) := by decide +kernel
theorem dX7_about_83 : decode cX7_about 83 = .ok (.getfield 11, 3) := by decide +kernel
theorem dX7_about_86 : decode cX7_about 86 = .ok (.iload_n 1, 1) := by decide +kernel
theorem dX7_about_87 : decode cX7_about 87 = .ok (.aaload, 1) := by decide +kernel
theorem dX7_about_88 : decode cX7_about 88 = .ok (.getfield 115, 3) := by decide +kernel
theorem dX7_about_91 : decode cX7_about 91 = .ok (.getfield 238, 3) := by decide +kernel
theorem dX7_about_94 : decode cX7_about 94 = .ok (.ireturn, 1) := by decide +kernel
theorem dX7_about_95 : decode cX7_about 95 = .ok (.new 146, 3) := by decide +kernel
theorem dX7_about_98 : decode cX7_about 98 = .ok (.dup, 1) := by decide +kernel
theorem dX7_about_99 : decode cX7_about 99 = .ok (.ldc 239, 2) := by decide +kernel
theorem dX7_about_101 : decode cX7_about 101 = .ok (.invokespecial 150, 3) := by decide +kernel
theorem dX7_about_104 : decode cX7_about 104 = .ok (.athrow, 1) := by decide +kernel
set_option maxRecDepth 20000 in
theorem ggX7_field_X7_needClass : GoodIn wsX7_field wsX7_needClass := goodIn_ca (goodIn_r _ [16, 1, 2, 17, 18, 19, 15, 20, 21, 22, 23, 24, 25, 26, 27, 28, 29, 30, 31, 32] (by decide +kernel) (by decide +kernel)) (goodIn_sub (fun _ h => List.mem_cons_of_mem _ (List.mem_append_left _ (List.mem_append_right _ h))) (by decide +kernel))
set_option maxRecDepth 20000 in
theorem gX7_field_X7_needClass : GoodIn wsX7_field (wsV RX7 75 RX7 yX7_needClass wsX7_needClass) := goodIn_app (goodIn_of _ (by decide +kernel)) ggX7_field_X7_needClass
theorem dX7_field_0 : decode cX7_field 0 = .ok (.aload_n 0, 1) := by decide +kernel
theorem dX7_field_1 : decode cX7_field 1 = .ok (.iload_n 1, 1) := by decide +kernel
theorem dX7_field_2 : decode cX7_field 2 = .ok (.invokevirtual 75, 3) := by decide +kernel
theorem dX7_field_5 : decode cX7_field 5 = .ok (.iload_n 3, 1) := by decide +kernel
theorem dX7_field_6 : decode cX7_field 6 = .ok (.ifCond .lt 8, 3) := by decide +kernel
theorem dX7_field_9 : decode cX7_field 9 = .ok (.iload_n 3, 1) := by decide +kernel
theorem dX7_field_10 : decode cX7_field 10 = .ok (.iconst 3, 1) := by decide +kernel
theorem dX7_field_11 : decode cX7_field 11 = .ok (.if_icmp .le 13, 3) := by decide +kernel
theorem dX7_field_14 : decode cX7_field 14 = .ok (.new 146, 3) := by decide +kernel
theorem dX7_field_17 : decode cX7_field 17 = .ok (.dup, 1) := by decide +kernel
theorem dX7_field_18 : decode cX7_field 18 = .ok (.ldc 239, 2) := by decide +kernel
theorem dX7_field_20 : decode cX7_field 20 = .ok (.invokespecial 150, 3) := by decide +kernel
theorem dX7_field_23 : decode cX7_field 23 = .ok (.athrow, 1) := by decide +kernel
theorem dX7_field_24 : decode cX7_field 24 = .ok (.aload_n 0, 1) := by decide +kernel
theorem dX7_field_25 : decode cX7_field 25 = .ok (.getfield 11, 3) := by decide +kernel
theorem dX7_field_28 : decode cX7_field 28 = .ok (.iload_n 1, 1) := by decide +kernel
theorem dX7_field_29 : decode cX7_field 29 = .ok (.aaload, 1) := by decide +kernel
theorem dX7_field_30 : decode cX7_field 30 = .ok (.getfield 115, 3) := by decide +kernel
theorem dX7_field_33 : decode cX7_field 33 = .ok (.astore 4, 2) := by decide +kernel
theorem dX7_field_35 : decode cX7_field 35 = .ok (.iload_n 2, 1) := by decide +kernel
theorem dX7_field_36 : decode cX7_field 36 = .ok (.ifCond .lt 12, 3) := by decide +kernel
theorem dX7_field_39 : decode cX7_field 39 = .ok (.iload_n 2, 1) := by decide +kernel
theorem dX7_field_40 : decode cX7_field 40 = .ok (.aload 4, 2) := by decide +kernel
theorem dX7_field_42 : decode cX7_field 42 = .ok (.getfield 238, 3) := by decide +kernel
theorem dX7_field_45 : decode cX7_field 45 = .ok (.if_icmp .lt 13, 3) := by decide +kernel
theorem dX7_field_48 : decode cX7_field 48 = .ok (.new 241, 3) := by decide +kernel
theorem dX7_field_51 : decode cX7_field 51 = .ok (.dup, 1) := by decide +kernel
theorem dX7_field_52 : decode cX7_field 52 = .ok (.ldc 243, 2) := by decide +kernel
theorem dX7_field_54 : decode cX7_field 54 = .ok (.invokespecial 245, 3) := by decide +kernel
theorem dX7_field_57 : decode cX7_field 57 = .ok (.athrow, 1) := by decide +kernel
theorem dX7_field_58 : decode cX7_field 58 = .ok (.iload_n 3, 1) := by decide +kernel
theorem dX7_field_59 : decode cX7_field 59 = .ok (.tableswitch 49 0 2 #[25, 33, 41], 25) := by decide +kernel
theorem dX7_field_84 : decode cX7_field 84 = .ok (.aload 4, 2) := by decide +kernel
theorem dX7_field_86 : decode cX7_field 86 = .ok (.getfield 246, 3) := by decide +kernel
theorem dX7_field_89 : decode cX7_field 89 = .ok (.iload_n 2, 1) := by decide +kernel
theorem dX7_field_90 : decode cX7_field 90 = .ok (.iaload, 1) := by decide +kernel
theorem dX7_field_91 : decode cX7_field 91 = .ok (.ireturn, 1) := by decide +kernel
theorem dX7_field_92 : decode cX7_field 92 = .ok (.aload 4, 2) := by decide +kernel
theorem dX7_field_94 : decode cX7_field 94 = .ok (.getfield 249, 3) := by decide +kernel
theorem dX7_field_97 : decode cX7_field 97 = .ok (.iload_n 2, 1) := by decide +kernel
theorem dX7_field_98 : decode cX7_field 98 = .ok (.iaload, 1) := by decide +kernel
theorem dX7_field_99 : decode cX7_field 99 = .ok (.ireturn, 1) := by decide +kernel
theorem dX7_field_100 : decode cX7_field 100 = .ok (.aload 4, 2) := by decide +kernel
theorem dX7_field_102 : decode cX7_field 102 = .ok (.getfield 118, 3) := by decide +kernel
theorem dX7_field_105 : decode cX7_field 105 = .ok (.iload_n 2, 1) := by decide +kernel
theorem dX7_field_106 : decode cX7_field 106 = .ok (.iaload, 1) := by decide +kernel
theorem dX7_field_107 : decode cX7_field 107 = .ok (.ireturn, 1) := by decide +kernel
theorem dX7_field_108 : decode cX7_field 108 = .ok (.aload 4, 2) := by decide +kernel
theorem dX7_field_110 : decode cX7_field 110 = .ok (.getfield 121, 3) := by decide +kernel
theorem dX7_field_113 : decode cX7_field 113 = .ok (.iload_n 2, 1) := by decide +kernel
theorem dX7_field_114 : decode cX7_field 114 = .ok (.iaload, 1) := by decide +kernel
theorem dX7_field_115 : decode cX7_field 115 = .ok (.ireturn, 1) := by decide +kernel
theorem dX7_fault_0 : decode cX7_fault 0 = .ok (.aload_n 0, 1) := by decide +kernel
theorem dX7_fault_1 : decode cX7_fault 1 = .ok (.getfield 41, 3) := by decide +kernel
theorem dX7_fault_4 : decode cX7_fault 4 = .ok (.ireturn, 1) := by decide +kernel
set_option maxRecDepth 20000 in
theorem ggX7_needClass_X7_isClass : GoodIn wsX7_needClass wsX7_isClass := goodIn_r _ [7, 8, 9, 10, 11, 12, 13, 14, 15, 16, 17, 18, 19] (by decide +kernel) (by decide +kernel)
set_option maxRecDepth 20000 in
theorem gX7_needClass_X7_isClass : GoodIn wsX7_needClass (wsV RX7 252 RX7 yX7_isClass wsX7_isClass) := goodIn_app (goodIn_of _ (by decide +kernel)) ggX7_needClass_X7_isClass
theorem dX7_needClass_0 : decode cX7_needClass 0 = .ok (.aload_n 0, 1) := by decide +kernel
theorem dX7_needClass_1 : decode cX7_needClass 1 = .ok (.iload_n 1, 1) := by decide +kernel
theorem dX7_needClass_2 : decode cX7_needClass 2 = .ok (.invokevirtual 252, 3) := by decide +kernel
theorem dX7_needClass_5 : decode cX7_needClass 5 = .ok (.ifCond .ne 13, 3) := by decide +kernel
theorem dX7_needClass_8 : decode cX7_needClass 8 = .ok (.new 146, 3) := by decide +kernel
theorem dX7_needClass_11 : decode cX7_needClass 11 = .ok (.dup, 1) := by decide +kernel
theorem dX7_needClass_12 : decode cX7_needClass 12 = .ok (.ldc 255, 2) := by decide +kernel
theorem dX7_needClass_14 : decode cX7_needClass 14 = .ok (.invokespecial 150, 3) := by decide +kernel
theorem dX7_needClass_17 : decode cX7_needClass 17 = .ok (.athrow, 1) := by decide +kernel
theorem dX7_needClass_18 : decode cX7_needClass 18 = .ok (.return_, 1) := by decide +kernel
theorem dX7_needRoot_0 : decode cX7_needRoot 0 = .ok (.iload_n 0, 1) := by decide +kernel
theorem dX7_needRoot_1 : decode cX7_needRoot 1 = .ok (.ifCond .lt 9, 3) := by decide +kernel
theorem dX7_needRoot_4 : decode cX7_needRoot 4 = .ok (.iload_n 0, 1) := by decide +kernel
theorem dX7_needRoot_5 : decode cX7_needRoot 5 = .ok (.bipush 8, 2) := by decide +kernel
theorem dX7_needRoot_7 : decode cX7_needRoot 7 = .ok (.if_icmp .lt 14, 3) := by decide +kernel
theorem dX7_needRoot_10 : decode cX7_needRoot 10 = .ok (.new 146, 3) := by decide +kernel
theorem dX7_needRoot_13 : decode cX7_needRoot 13 = .ok (.dup, 1) := by decide +kernel
theorem dX7_needRoot_14 : decode cX7_needRoot 14 = .ok (.ldc_w 257, 3) := by decide +kernel
theorem dX7_needRoot_17 : decode cX7_needRoot 17 = .ok (.invokespecial 150, 3) := by decide +kernel
theorem dX7_needRoot_20 : decode cX7_needRoot 20 = .ok (.athrow, 1) := by decide +kernel
theorem dX7_needRoot_21 : decode cX7_needRoot 21 = .ok (.return_, 1) := by decide +kernel
set_option maxRecDepth 20000 in
theorem ggX7_needName_X7_isName : GoodIn wsX7_needName wsX7_isName := goodIn_r _ [6] (by decide +kernel) (by decide +kernel)
set_option maxRecDepth 20000 in
theorem gX7_needName_X7_isName : GoodIn wsX7_needName (va_wsS RX7 259 yX7_isName wsX7_isName) := goodIn_app (goodIn_of _ (by decide +kernel)) ggX7_needName_X7_isName
theorem dX7_needName_0 : decode cX7_needName 0 = .ok (.iload_n 0, 1) := by decide +kernel
theorem dX7_needName_1 : decode cX7_needName 1 = .ok (.invokestatic 259, 3) := by decide +kernel
theorem dX7_needName_4 : decode cX7_needName 4 = .ok (.ifCond .ne 14, 3) := by decide +kernel
theorem dX7_needName_7 : decode cX7_needName 7 = .ok (.new 146, 3) := by decide +kernel
theorem dX7_needName_10 : decode cX7_needName 10 = .ok (.dup, 1) := by decide +kernel
theorem dX7_needName_11 : decode cX7_needName 11 = .ok (.ldc_w 262, 3) := by decide +kernel
theorem dX7_needName_14 : decode cX7_needName 14 = .ok (.invokespecial 150, 3) := by decide +kernel
theorem dX7_needName_17 : decode cX7_needName 17 = .ok (.athrow, 1) := by decide +kernel
theorem dX7_needName_18 : decode cX7_needName 18 = .ok (.return_, 1) := by decide +kernel
theorem dX7_isClass_0 : decode cX7_isClass 0 = .ok (.iload_n 1, 1) := by decide +kernel
theorem dX7_isClass_1 : decode cX7_isClass 1 = .ok (.ifCond .lt 15, 3) := by decide +kernel
theorem dX7_isClass_4 : decode cX7_isClass 4 = .ok (.iload_n 1, 1) := by decide +kernel
theorem dX7_isClass_5 : decode cX7_isClass 5 = .ok (.aload_n 0, 1) := by decide +kernel
theorem dX7_isClass_6 : decode cX7_isClass 6 = .ok (.getfield 65, 3) := by decide +kernel
theorem dX7_isClass_9 : decode cX7_isClass 9 = .ok (.if_icmp .ge 7, 3) := by decide +kernel
theorem dX7_isClass_12 : decode cX7_isClass 12 = .ok (.iconst 1, 1) := by decide +kernel
theorem dX7_isClass_13 : decode cX7_isClass 13 = .ok (.goto 4, 3) := by decide +kernel
theorem dX7_isClass_16 : decode cX7_isClass 16 = .ok (.iconst 0, 1) := by decide +kernel
theorem dX7_isClass_17 : decode cX7_isClass 17 = .ok (.ireturn, 1) := by decide +kernel
theorem dX7_isName_0 : decode cX7_isName 0 = .ok (.iload_n 0, 1) := by decide +kernel
theorem dX7_isName_1 : decode cX7_isName 1 = .ok (.ifCond .lt 13, 3) := by decide +kernel
theorem dX7_isName_4 : decode cX7_isName 4 = .ok (.iload_n 0, 1) := by decide +kernel
theorem dX7_isName_5 : decode cX7_isName 5 = .ok (.bipush 10, 2) := by decide +kernel
theorem dX7_isName_7 : decode cX7_isName 7 = .ok (.if_icmp .ge 7, 3) := by decide +kernel
theorem dX7_isName_10 : decode cX7_isName 10 = .ok (.iconst 1, 1) := by decide +kernel
theorem dX7_isName_11 : decode cX7_isName 11 = .ok (.goto 4, 3) := by decide +kernel
theorem dX7_isName_14 : decode cX7_isName 14 = .ok (.iconst 0, 1) := by decide +kernel
theorem dX7_isName_15 : decode cX7_isName 15 = .ok (.ireturn, 1) := by decide +kernel
theorem dX7_isRange_0 : decode cX7_isRange 0 = .ok (.iload_n 0, 1) := by decide +kernel
theorem dX7_isRange_1 : decode cX7_isRange 1 = .ok (.ldc_w 264, 3) := by decide +kernel
theorem dX7_isRange_4 : decode cX7_isRange 4 = .ok (.if_icmp .lt 19, 3) := by decide +kernel
theorem dX7_isRange_7 : decode cX7_isRange 7 = .ok (.iload_n 0, 1) := by decide +kernel
theorem dX7_isRange_8 : decode cX7_isRange 8 = .ok (.iload_n 1, 1) := by decide +kernel
theorem dX7_isRange_9 : decode cX7_isRange 9 = .ok (.if_icmp .gt 14, 3) := by decide +kernel
theorem dX7_isRange_12 : decode cX7_isRange 12 = .ok (.iload_n 1, 1) := by decide +kernel
theorem dX7_isRange_13 : decode cX7_isRange 13 = .ok (.ldc_w 265, 3) := by decide +kernel
theorem dX7_isRange_16 : decode cX7_isRange 16 = .ok (.if_icmp .gt 7, 3) := by decide +kernel
theorem dX7_isRange_19 : decode cX7_isRange 19 = .ok (.iconst 1, 1) := by decide +kernel
theorem dX7_isRange_20 : decode cX7_isRange 20 = .ok (.goto 4, 3) := by decide +kernel
theorem dX7_isRange_23 : decode cX7_isRange 23 = .ok (.iconst 0, 1) := by decide +kernel
theorem dX7_isRange_24 : decode cX7_isRange 24 = .ok (.ireturn, 1) := by decide +kernel
theorem dX7_isWord_0 : decode cX7_isWord 0 = .ok (.iload_n 0, 1) := by decide +kernel
theorem dX7_isWord_1 : decode cX7_isWord 1 = .ok (.ifCond .lt 9, 3) := by decide +kernel
theorem dX7_isWord_4 : decode cX7_isWord 4 = .ok (.iload_n 0, 1) := by decide +kernel
theorem dX7_isWord_5 : decode cX7_isWord 5 = .ok (.bipush 16, 2) := by decide +kernel
theorem dX7_isWord_7 : decode cX7_isWord 7 = .ok (.if_icmp .le 16, 3) := by decide +kernel
theorem dX7_isWord_10 : decode cX7_isWord 10 = .ok (.iload_n 0, 1) := by decide +kernel
theorem dX7_isWord_11 : decode cX7_isWord 11 = .ok (.bipush 100, 2) := by decide +kernel
theorem dX7_isWord_13 : decode cX7_isWord 13 = .ok (.if_icmp .lt 14, 3) := by decide +kernel
theorem dX7_isWord_16 : decode cX7_isWord 16 = .ok (.iload_n 0, 1) := by decide +kernel
theorem dX7_isWord_17 : decode cX7_isWord 17 = .ok (.sipush 300, 3) := by decide +kernel
theorem dX7_isWord_20 : decode cX7_isWord 20 = .ok (.if_icmp .gt 7, 3) := by decide +kernel
theorem dX7_isWord_23 : decode cX7_isWord 23 = .ok (.iconst 1, 1) := by decide +kernel
theorem dX7_isWord_24 : decode cX7_isWord 24 = .ok (.goto 4, 3) := by decide +kernel
theorem dX7_isWord_27 : decode cX7_isWord 27 = .ok (.iconst 0, 1) := by decide +kernel
theorem dX7_isWord_28 : decode cX7_isWord 28 = .ok (.ireturn, 1) := by decide +kernel
set_option maxRecDepth 20000 in
theorem ggX7_isStep_X7_isName : GoodIn wsX7_isStep wsX7_isName := goodIn_r _ [5] (by decide +kernel) (by decide +kernel)
set_option maxRecDepth 20000 in
theorem gX7_isStep_X7_isName : GoodIn wsX7_isStep (va_wsS RX7 259 yX7_isName wsX7_isName) := goodIn_app (goodIn_of _ (by decide +kernel)) ggX7_isStep_X7_isName
set_option maxRecDepth 20000 in
theorem ggX7_isStep_X7_isRange : GoodIn wsX7_isStep wsX7_isRange := goodIn_r _ [8, 9, 10] (by decide +kernel) (by decide +kernel)
set_option maxRecDepth 20000 in
theorem gX7_isStep_X7_isRange : GoodIn wsX7_isStep (va_wsS RX7 266 yX7_isRange wsX7_isRange) := goodIn_app (goodIn_of _ (by decide +kernel)) ggX7_isStep_X7_isRange
set_option maxRecDepth 20000 in
theorem ggX7_isStep_X1_isRight : GoodIn wsX7_isStep wsX1_isRight := goodIn_r _ [15, 16, 17, 18, 19, 14, 20, 37, 38] (by decide +kernel) (by decide +kernel)
set_option maxRecDepth 20000 in
theorem gX7_isStep_X1_isRight : GoodIn wsX7_isStep (wsV RX7 269 RX1 yX1_isRight wsX1_isRight) := goodIn_app (goodIn_of _ (by decide +kernel)) ggX7_isStep_X1_isRight
set_option maxRecDepth 20000 in
theorem ggX7_isStep_X7_isClass : GoodIn wsX7_isStep wsX7_isClass := goodIn_r _ [24, 25, 26, 27, 28, 29, 30, 31, 32, 33, 34, 35, 36] (by decide +kernel) (by decide +kernel)
set_option maxRecDepth 20000 in
theorem gX7_isStep_X7_isClass : GoodIn wsX7_isStep (wsV RX7 252 RX7 yX7_isClass wsX7_isClass) := goodIn_app (goodIn_of _ (by decide +kernel)) ggX7_isStep_X7_isClass
theorem dX7_isStep_0 : decode cX7_isStep 0 = .ok (.iload_n 2, 1) := by decide +kernel
theorem dX7_isStep_1 : decode cX7_isStep 1 = .ok (.invokestatic 259, 3) := by decide +kernel
theorem dX7_isStep_4 : decode cX7_isStep 4 = .ok (.ifCond .ne 5, 3) := by decide +kernel
theorem dX7_isStep_7 : decode cX7_isStep 7 = .ok (.iconst 0, 1) := by decide +kernel
theorem dX7_isStep_8 : decode cX7_isStep 8 = .ok (.ireturn, 1) := by decide +kernel
theorem dX7_isStep_9 : decode cX7_isStep 9 = .ok (.iload_n 1, 1) := by decide +kernel
theorem dX7_isStep_10 : decode cX7_isStep 10 = .ok (.tableswitch 134 0 6 #[42, 44, 49, 74, 100, 106, 42], 42) := by decide +kernel
theorem dX7_isStep_52 : decode cX7_isStep 52 = .ok (.iconst 1, 1) := by decide +kernel
theorem dX7_isStep_53 : decode cX7_isStep 53 = .ok (.ireturn, 1) := by decide +kernel
theorem dX7_isStep_54 : decode cX7_isStep 54 = .ok (.iload_n 3, 1) := by decide +kernel
theorem dX7_isStep_55 : decode cX7_isStep 55 = .ok (.invokestatic 259, 3) := by decide +kernel
theorem dX7_isStep_58 : decode cX7_isStep 58 = .ok (.ireturn, 1) := by decide +kernel
theorem dX7_isStep_59 : decode cX7_isStep 59 = .ok (.iload_n 3, 1) := by decide +kernel
theorem dX7_isStep_60 : decode cX7_isStep 60 = .ok (.iload 4, 2) := by decide +kernel
theorem dX7_isStep_62 : decode cX7_isStep 62 = .ok (.invokestatic 266, 3) := by decide +kernel
theorem dX7_isStep_65 : decode cX7_isStep 65 = .ok (.ifCond .eq 17, 3) := by decide +kernel
theorem dX7_isStep_68 : decode cX7_isStep 68 = .ok (.aload_n 0, 1) := by decide +kernel
theorem dX7_isStep_69 : decode cX7_isStep 69 = .ok (.getfield 30, 3) := by decide +kernel
theorem dX7_isStep_72 : decode cX7_isStep 72 = .ok (.invokevirtual 269, 3) := by decide +kernel
theorem dX7_isStep_75 : decode cX7_isStep 75 = .ok (.ifCond .eq 7, 3) := by decide +kernel
theorem dX7_isStep_78 : decode cX7_isStep 78 = .ok (.iconst 1, 1) := by decide +kernel
theorem dX7_isStep_79 : decode cX7_isStep 79 = .ok (.goto 4, 3) := by decide +kernel
theorem dX7_isStep_82 : decode cX7_isStep 82 = .ok (.iconst 0, 1) := by decide +kernel
theorem dX7_isStep_83 : decode cX7_isStep 83 = .ok (.ireturn, 1) := by decide +kernel
theorem dX7_isStep_84 : decode cX7_isStep 84 = .ok (.iload_n 3, 1) := by decide +kernel
theorem dX7_isStep_85 : decode cX7_isStep 85 = .ok (.iload 4, 2) := by decide +kernel
theorem dX7_isStep_87 : decode cX7_isStep 87 = .ok (.invokestatic 266, 3) := by decide +kernel
theorem dX7_isStep_90 : decode cX7_isStep 90 = .ok (.ifCond .eq 18, 3) := by decide +kernel
theorem dX7_isStep_93 : decode cX7_isStep 93 = .ok (.iload 5, 2) := by decide +kernel
theorem dX7_isStep_95 : decode cX7_isStep 95 = .ok (.ifCond .eq 9, 3) := by decide +kernel
theorem dX7_isStep_98 : decode cX7_isStep 98 = .ok (.iload 5, 2) := by decide +kernel
theorem dX7_isStep_100 : decode cX7_isStep 100 = .ok (.iconst 1, 1) := by decide +kernel
theorem dX7_isStep_101 : decode cX7_isStep 101 = .ok (.if_icmp .ne 7, 3) := by decide +kernel
theorem dX7_isStep_104 : decode cX7_isStep 104 = .ok (.iconst 1, 1) := by decide +kernel
theorem dX7_isStep_105 : decode cX7_isStep 105 = .ok (.goto 4, 3) := by decide +kernel
theorem dX7_isStep_108 : decode cX7_isStep 108 = .ok (.iconst 0, 1) := by decide +kernel
theorem dX7_isStep_109 : decode cX7_isStep 109 = .ok (.ireturn, 1) := by decide +kernel
theorem dX7_isStep_110 : decode cX7_isStep 110 = .ok (.aload_n 0, 1) := by decide +kernel
theorem dX7_isStep_111 : decode cX7_isStep 111 = .ok (.iload_n 3, 1) := by decide +kernel
theorem dX7_isStep_112 : decode cX7_isStep 112 = .ok (.invokevirtual 252, 3) := by decide +kernel
theorem dX7_isStep_115 : decode cX7_isStep 115 = .ok (.ireturn, 1) := by decide +kernel
theorem dX7_isStep_116 : decode cX7_isStep 116 = .ok (.aload_n 0, 1) := by decide +kernel
theorem dX7_isStep_117 : decode cX7_isStep 117 = .ok (.iload_n 3, 1) := by decide +kernel
theorem dX7_isStep_118 : decode cX7_isStep 118 = .ok (.invokevirtual 252, 3) := by decide +kernel
theorem dX7_isStep_121 : decode cX7_isStep 121 = .ok (.ifCond .eq 21, 3) := by decide +kernel
theorem dX7_isStep_124 : decode cX7_isStep 124 = .ok (.iload 4, 2) := by decide +kernel
theorem dX7_isStep_126 : decode cX7_isStep 126 = .ok (.iconst 1, 1) := by decide +kernel
theorem dX7_isStep_127 : decode cX7_isStep 127 = .ok (.if_icmp .lt 15, 3) := by decide +kernel
theorem dX7_isStep_130 : decode cX7_isStep 130 = .ok (.iload 4, 2) := by decide +kernel
theorem dX7_isStep_132 : decode cX7_isStep 132 = .ok (.sipush 1023, 3) := by decide +kernel
theorem dX7_isStep_135 : decode cX7_isStep 135 = .ok (.if_icmp .gt 7, 3) := by decide +kernel
theorem dX7_isStep_138 : decode cX7_isStep 138 = .ok (.iconst 1, 1) := by decide +kernel
theorem dX7_isStep_139 : decode cX7_isStep 139 = .ok (.goto 4, 3) := by decide +kernel
theorem dX7_isStep_142 : decode cX7_isStep 142 = .ok (.iconst 0, 1) := by decide +kernel
theorem dX7_isStep_143 : decode cX7_isStep 143 = .ok (.ireturn, 1) := by decide +kernel
theorem dX7_isStep_144 : decode cX7_isStep 144 = .ok (.iconst 0, 1) := by decide +kernel
theorem dX7_isStep_145 : decode cX7_isStep 145 = .ok (.ireturn, 1) := by decide +kernel
set_option maxRecDepth 20000 in
theorem ggX7_heldBy_X6_find : GoodIn wsX7_heldBy wsX6_find := goodIn_r _ [9, 10, 11, 12, 8, 13, 14, 15, 27, 28, 29, 30, 31, 32, 33, 34, 35] (by decide +kernel) (by decide +kernel)
set_option maxRecDepth 20000 in
theorem gX7_heldBy_X6_find : GoodIn wsX7_heldBy (wsV RX7 273 RX6 yX6_find wsX6_find) := goodIn_app (goodIn_of _ (by decide +kernel)) ggX7_heldBy_X6_find
theorem dX7_heldBy_0 : decode cX7_heldBy 0 = .ok (.aload_n 0, 1) := by decide +kernel
theorem dX7_heldBy_1 : decode cX7_heldBy 1 = .ok (.getfield 19, 3) := by decide +kernel
theorem dX7_heldBy_4 : decode cX7_heldBy 4 = .ok (.aload_n 0, 1) := by decide +kernel
theorem dX7_heldBy_5 : decode cX7_heldBy 5 = .ok (.getfield 23, 3) := by decide +kernel
theorem dX7_heldBy_8 : decode cX7_heldBy 8 = .ok (.iload_n 1, 1) := by decide +kernel
theorem dX7_heldBy_9 : decode cX7_heldBy 9 = .ok (.iaload, 1) := by decide +kernel
theorem dX7_heldBy_10 : decode cX7_heldBy 10 = .ok (.invokevirtual 273, 3) := by decide +kernel
theorem dX7_heldBy_13 : decode cX7_heldBy 13 = .ok (.astore_n 2, 1) := by decide +kernel
theorem dX7_heldBy_14 : decode cX7_heldBy 14 = .ok (.aload_n 2, 1) := by decide +kernel
theorem dX7_heldBy_15 : decode cX7_heldBy 15 = .ok (.ifnonnull 14, 3) := by decide +kernel
theorem dX7_heldBy_18 : decode cX7_heldBy 18 = .ok (.new 276, 3) := by decide +kernel
theorem dX7_heldBy_21 : decode cX7_heldBy 21 = .ok (.dup, 1) := by decide +kernel
theorem dX7_heldBy_22 : decode cX7_heldBy 22 = .ok (.ldc_w 278, 3) := by decide +kernel
theorem dX7_heldBy_25 : decode cX7_heldBy 25 = .ok (.invokespecial 280, 3) := by decide +kernel
theorem dX7_heldBy_28 : decode cX7_heldBy 28 = .ok (.athrow, 1) := by decide +kernel
theorem dX7_heldBy_29 : decode cX7_heldBy 29 = .ok (.aload_n 2, 1) := by decide +kernel
theorem dX7_heldBy_30 : decode cX7_heldBy 30 = .ok (.areturn, 1) := by decide +kernel
set_option maxRecDepth 20000 in
theorem ggX7_numberPlace_X4_placeOf : GoodIn wsX7_numberPlace wsX4_placeOf := goodIn_r _ [10, 11, 12, 43, 44, 45, 46, 47, 48] (by decide +kernel) (by decide +kernel)
set_option maxRecDepth 20000 in
theorem gX7_numberPlace_X4_placeOf : GoodIn wsX7_numberPlace (wsV RX7 281 RX4 yX4_placeOf wsX4_placeOf) := goodIn_app (goodIn_of _ (by decide +kernel)) ggX7_numberPlace_X4_placeOf
set_option maxRecDepth 20000 in
theorem ggX7_numberPlace_X4_isNumber : GoodIn wsX7_numberPlace wsX4_isNumber := goodIn_r _ [16, 17, 18, 19, 20, 9, 21, 11, 43, 44, 45, 46, 47, 48] (by decide +kernel) (by decide +kernel)
set_option maxRecDepth 20000 in
theorem gX7_numberPlace_X4_isNumber : GoodIn wsX7_numberPlace (wsV RX7 284 RX4 yX4_isNumber wsX4_isNumber) := goodIn_app (goodIn_of _ (by decide +kernel)) ggX7_numberPlace_X4_isNumber
theorem dX7_numberPlace_0 : decode cX7_numberPlace 0 = .ok (.aload_n 0, 1) := by decide +kernel
theorem dX7_numberPlace_1 : decode cX7_numberPlace 1 = .ok (.getfield 11, 3) := by decide +kernel
theorem dX7_numberPlace_4 : decode cX7_numberPlace 4 = .ok (.aload_n 1, 1) := by decide +kernel
theorem dX7_numberPlace_5 : decode cX7_numberPlace 5 = .ok (.getfield 112, 3) := by decide +kernel
theorem dX7_numberPlace_8 : decode cX7_numberPlace 8 = .ok (.aaload, 1) := by decide +kernel
theorem dX7_numberPlace_9 : decode cX7_numberPlace 9 = .ok (.getfield 115, 3) := by decide +kernel
theorem dX7_numberPlace_12 : decode cX7_numberPlace 12 = .ok (.astore_n 3, 1) := by decide +kernel
theorem dX7_numberPlace_13 : decode cX7_numberPlace 13 = .ok (.aload_n 3, 1) := by decide +kernel
theorem dX7_numberPlace_14 : decode cX7_numberPlace 14 = .ok (.iload_n 2, 1) := by decide +kernel
theorem dX7_numberPlace_15 : decode cX7_numberPlace 15 = .ok (.invokevirtual 281, 3) := by decide +kernel
theorem dX7_numberPlace_18 : decode cX7_numberPlace 18 = .ok (.istore 4, 2) := by decide +kernel
theorem dX7_numberPlace_20 : decode cX7_numberPlace 20 = .ok (.aload_n 3, 1) := by decide +kernel
theorem dX7_numberPlace_21 : decode cX7_numberPlace 21 = .ok (.iload 4, 2) := by decide +kernel
theorem dX7_numberPlace_23 : decode cX7_numberPlace 23 = .ok (.invokevirtual 284, 3) := by decide +kernel
theorem dX7_numberPlace_26 : decode cX7_numberPlace 26 = .ok (.ifCond .ne 14, 3) := by decide +kernel
theorem dX7_numberPlace_29 : decode cX7_numberPlace 29 = .ok (.new 276, 3) := by decide +kernel
theorem dX7_numberPlace_32 : decode cX7_numberPlace 32 = .ok (.dup, 1) := by decide +kernel
theorem dX7_numberPlace_33 : decode cX7_numberPlace 33 = .ok (.ldc_w 287, 3) := by decide +kernel
theorem dX7_numberPlace_36 : decode cX7_numberPlace 36 = .ok (.invokespecial 280, 3) := by decide +kernel
theorem dX7_numberPlace_39 : decode cX7_numberPlace 39 = .ok (.athrow, 1) := by decide +kernel
theorem dX7_numberPlace_40 : decode cX7_numberPlace 40 = .ok (.iload 4, 2) := by decide +kernel
theorem dX7_numberPlace_42 : decode cX7_numberPlace 42 = .ok (.ireturn, 1) := by decide +kernel
set_option maxRecDepth 20000 in
theorem ggX7_referencePlace_X4_placeOf : GoodIn wsX7_referencePlace wsX4_placeOf := goodIn_r _ [10, 11, 12, 43, 44, 45, 46, 47, 48] (by decide +kernel) (by decide +kernel)
set_option maxRecDepth 20000 in
theorem gX7_referencePlace_X4_placeOf : GoodIn wsX7_referencePlace (wsV RX7 281 RX4 yX4_placeOf wsX4_placeOf) := goodIn_app (goodIn_of _ (by decide +kernel)) ggX7_referencePlace_X4_placeOf
set_option maxRecDepth 20000 in
theorem ggX7_referencePlace_X4_isReference : GoodIn wsX7_referencePlace wsX4_isReference := goodIn_r _ [16, 17, 18, 19, 20, 9, 21, 11, 43, 44, 45, 46, 47, 48] (by decide +kernel) (by decide +kernel)
set_option maxRecDepth 20000 in
theorem gX7_referencePlace_X4_isReference : GoodIn wsX7_referencePlace (wsV RX7 289 RX4 yX4_isReference wsX4_isReference) := goodIn_app (goodIn_of _ (by decide +kernel)) ggX7_referencePlace_X4_isReference
theorem dX7_referencePlace_0 : decode cX7_referencePlace 0 = .ok (.aload_n 0, 1) := by decide +kernel
theorem dX7_referencePlace_1 : decode cX7_referencePlace 1 = .ok (.getfield 11, 3) := by decide +kernel
theorem dX7_referencePlace_4 : decode cX7_referencePlace 4 = .ok (.aload_n 1, 1) := by decide +kernel
theorem dX7_referencePlace_5 : decode cX7_referencePlace 5 = .ok (.getfield 112, 3) := by decide +kernel
theorem dX7_referencePlace_8 : decode cX7_referencePlace 8 = .ok (.aaload, 1) := by decide +kernel
theorem dX7_referencePlace_9 : decode cX7_referencePlace 9 = .ok (.getfield 115, 3) := by decide +kernel
theorem dX7_referencePlace_12 : decode cX7_referencePlace 12 = .ok (.astore_n 3, 1) := by decide +kernel
theorem dX7_referencePlace_13 : decode cX7_referencePlace 13 = .ok (.aload_n 3, 1) := by decide +kernel
theorem dX7_referencePlace_14 : decode cX7_referencePlace 14 = .ok (.iload_n 2, 1) := by decide +kernel
theorem dX7_referencePlace_15 : decode cX7_referencePlace 15 = .ok (.invokevirtual 281, 3) := by decide +kernel
theorem dX7_referencePlace_18 : decode cX7_referencePlace 18 = .ok (.istore 4, 2) := by decide +kernel
theorem dX7_referencePlace_20 : decode cX7_referencePlace 20 = .ok (.aload_n 3, 1) := by decide +kernel
theorem dX7_referencePlace_21 : decode cX7_referencePlace 21 = .ok (.iload 4, 2) := by decide +kernel
theorem dX7_referencePlace_23 : decode cX7_referencePlace 23 = .ok (.invokevirtual 289, 3) := by decide +kernel
theorem dX7_referencePlace_26 : decode cX7_referencePlace 26 = .ok (.ifCond .ne 14, 3) := by decide +kernel
theorem dX7_referencePlace_29 : decode cX7_referencePlace 29 = .ok (.new 276, 3) := by decide +kernel
theorem dX7_referencePlace_32 : decode cX7_referencePlace 32 = .ok (.dup, 1) := by decide +kernel
theorem dX7_referencePlace_33 : decode cX7_referencePlace 33 = .ok (.ldc_w 292, 3) := by decide +kernel
theorem dX7_referencePlace_36 : decode cX7_referencePlace 36 = .ok (.invokespecial 280, 3) := by decide +kernel
theorem dX7_referencePlace_39 : decode cX7_referencePlace 39 = .ok (.athrow, 1) := by decide +kernel
theorem dX7_referencePlace_40 : decode cX7_referencePlace 40 = .ok (.iload 4, 2) := by decide +kernel
theorem dX7_referencePlace_42 : decode cX7_referencePlace 42 = .ok (.ireturn, 1) := by decide +kernel
theorem dX7_bringForward_0 : decode cX7_bringForward 0 = .ok (.aload_n 0, 1) := by decide +kernel
theorem dX7_bringForward_1 : decode cX7_bringForward 1 = .ok (.getfield 11, 3) := by decide +kernel
theorem dX7_bringForward_4 : decode cX7_bringForward 4 = .ok (.aload_n 1, 1) := by decide +kernel
theorem dX7_bringForward_5 : decode cX7_bringForward 5 = .ok (.getfield 112, 3) := by decide +kernel
theorem dX7_bringForward_8 : decode cX7_bringForward 8 = .ok (.aaload, 1) := by decide +kernel
theorem dX7_bringForward_9 : decode cX7_bringForward 9 = .ok (.getfield 183, 3) := by decide +kernel
theorem dX7_bringForward_12 : decode cX7_bringForward 12 = .ok (.istore_n 2, 1) := by decide +kernel
theorem dX7_bringForward_13 : decode cX7_bringForward 13 = .ok (.iload_n 2, 1) := by decide +kernel
theorem dX7_bringForward_14 : decode cX7_bringForward 14 = .ok (.aload_n 1, 1) := by decide +kernel
theorem dX7_bringForward_15 : decode cX7_bringForward 15 = .ok (.getfield 212, 3) := by decide +kernel
theorem dX7_bringForward_18 : decode cX7_bringForward 18 = .ok (.isub, 1) := by decide +kernel
theorem dX7_bringForward_19 : decode cX7_bringForward 19 = .ok (.istore_n 3, 1) := by decide +kernel
theorem dX7_bringForward_20 : decode cX7_bringForward 20 = .ok (.aload_n 1, 1) := by decide +kernel
theorem dX7_bringForward_21 : decode cX7_bringForward 21 = .ok (.iload_n 2, 1) := by decide +kernel
theorem dX7_bringForward_22 : decode cX7_bringForward 22 = .ok (.putfield 212, 3) := by decide +kernel
theorem dX7_bringForward_25 : decode cX7_bringForward 25 = .ok (.iload_n 3, 1) := by decide +kernel
theorem dX7_bringForward_26 : decode cX7_bringForward 26 = .ok (.ireturn, 1) := by decide +kernel
set_option maxRecDepth 20000 in
theorem ggX7_mayBeReferredTo_X6_find : GoodIn wsX7_mayBeReferredTo wsX6_find := goodIn_r _ [7, 8, 9, 10, 6, 11, 12, 13, 57, 58, 59, 51, 52, 53, 54, 55, 56] (by decide +kernel) (by decide +kernel)
set_option maxRecDepth 20000 in
theorem gX7_mayBeReferredTo_X6_find : GoodIn wsX7_mayBeReferredTo (wsV RX7 273 RX6 yX6_find wsX6_find) := goodIn_app (goodIn_of _ (by decide +kernel)) ggX7_mayBeReferredTo_X6_find
set_option maxRecDepth 20000 in
theorem ggX7_mayBeReferredTo_X7_isOwned : GoodIn wsX7_mayBeReferredTo wsX7_isOwned := goodIn_r _ [18, 1, 19, 20, 21, 22, 23, 17, 24, 25, 2, 26, 27, 28, 29, 30, 31, 32, 33, 34, 35, 36, 37, 38, 39, 40, 41, 42, 43, 44, 45, 46, 47, 48, 49, 50, 57, 58, 59, 51, 52, 53, 54, 55, 56, 60, 61, 62, 63, 64, 65, 66, 67, 68, 69] (by decide +kernel) (by decide +kernel)
set_option maxRecDepth 20000 in
theorem gX7_mayBeReferredTo_X7_isOwned : GoodIn wsX7_mayBeReferredTo (wsV RX7 294 RX7 yX7_isOwned wsX7_isOwned) := goodIn_app (goodIn_of _ (by decide +kernel)) ggX7_mayBeReferredTo_X7_isOwned
theorem dX7_mayBeReferredTo_0 : decode cX7_mayBeReferredTo 0 = .ok (.aload_n 0, 1) := by decide +kernel
theorem dX7_mayBeReferredTo_1 : decode cX7_mayBeReferredTo 1 = .ok (.getfield 19, 3) := by decide +kernel
theorem dX7_mayBeReferredTo_4 : decode cX7_mayBeReferredTo 4 = .ok (.iload_n 1, 1) := by decide +kernel
theorem dX7_mayBeReferredTo_5 : decode cX7_mayBeReferredTo 5 = .ok (.invokevirtual 273, 3) := by decide +kernel
theorem dX7_mayBeReferredTo_8 : decode cX7_mayBeReferredTo 8 = .ok (.astore_n 3, 1) := by decide +kernel
theorem dX7_mayBeReferredTo_9 : decode cX7_mayBeReferredTo 9 = .ok (.aload_n 3, 1) := by decide +kernel
theorem dX7_mayBeReferredTo_10 : decode cX7_mayBeReferredTo 10 = .ok (.ifnull 19, 3) := by decide +kernel
theorem dX7_mayBeReferredTo_13 : decode cX7_mayBeReferredTo 13 = .ok (.aload_n 3, 1) := by decide +kernel
theorem dX7_mayBeReferredTo_14 : decode cX7_mayBeReferredTo 14 = .ok (.getfield 112, 3) := by decide +kernel
theorem dX7_mayBeReferredTo_17 : decode cX7_mayBeReferredTo 17 = .ok (.iload_n 2, 1) := by decide +kernel
theorem dX7_mayBeReferredTo_18 : decode cX7_mayBeReferredTo 18 = .ok (.if_icmp .ne 15, 3) := by decide +kernel
theorem dX7_mayBeReferredTo_21 : decode cX7_mayBeReferredTo 21 = .ok (.aload_n 0, 1) := by decide +kernel
theorem dX7_mayBeReferredTo_22 : decode cX7_mayBeReferredTo 22 = .ok (.iload_n 1, 1) := by decide +kernel
theorem dX7_mayBeReferredTo_23 : decode cX7_mayBeReferredTo 23 = .ok (.invokevirtual 294, 3) := by decide +kernel
theorem dX7_mayBeReferredTo_26 : decode cX7_mayBeReferredTo 26 = .ok (.ifCond .ne 7, 3) := by decide +kernel
theorem dX7_mayBeReferredTo_29 : decode cX7_mayBeReferredTo 29 = .ok (.iconst 1, 1) := by decide +kernel
theorem dX7_mayBeReferredTo_30 : decode cX7_mayBeReferredTo 30 = .ok (.goto 4, 3) := by decide +kernel
theorem dX7_mayBeReferredTo_33 : decode cX7_mayBeReferredTo 33 = .ok (.iconst 0, 1) := by decide +kernel
theorem dX7_mayBeReferredTo_34 : decode cX7_mayBeReferredTo 34 = .ok (.ireturn, 1) := by decide +kernel
set_option maxRecDepth 20000 in
theorem ggX7_isOwned_X7_owns : GoodIn wsX7_isOwned wsX7_owns := goodIn_r _ [8, 9, 10, 11, 12, 13, 14, 15, 16, 17, 18, 19, 20, 21, 22, 23, 24, 25, 26, 27, 28, 29, 30, 31, 32, 33, 34, 35, 39, 40, 41, 42, 43, 44, 45, 46, 47, 48, 49, 50, 51, 52, 53, 54] (by decide +kernel) (by decide +kernel)
set_option maxRecDepth 20000 in
theorem gX7_isOwned_X7_owns : GoodIn wsX7_isOwned (wsV RX7 297 RX7 yX7_owns wsX7_owns) := goodIn_app (goodIn_of _ (by decide +kernel)) ggX7_isOwned_X7_owns
theorem dX7_isOwned_0 : decode cX7_isOwned 0 = .ok (.iconst 0, 1) := by decide +kernel
theorem dX7_isOwned_1 : decode cX7_isOwned 1 = .ok (.istore_n 2, 1) := by decide +kernel
theorem dX7_isOwned_2 : decode cX7_isOwned 2 = .ok (.iload_n 2, 1) := by decide +kernel
theorem dX7_isOwned_3 : decode cX7_isOwned 3 = .ok (.bipush 24, 2) := by decide +kernel
theorem dX7_isOwned_5 : decode cX7_isOwned 5 = .ok (.if_icmp .ge 37, 3) := by decide +kernel
theorem dX7_isOwned_8 : decode cX7_isOwned 8 = .ok (.aload_n 0, 1) := by decide +kernel
theorem dX7_isOwned_9 : decode cX7_isOwned 9 = .ok (.getfield 19, 3) := by decide +kernel
theorem dX7_isOwned_12 : decode cX7_isOwned 12 = .ok (.getfield 199, 3) := by decide +kernel
theorem dX7_isOwned_15 : decode cX7_isOwned 15 = .ok (.iload_n 2, 1) := by decide +kernel
theorem dX7_isOwned_16 : decode cX7_isOwned 16 = .ok (.aaload, 1) := by decide +kernel
theorem dX7_isOwned_17 : decode cX7_isOwned 17 = .ok (.astore_n 3, 1) := by decide +kernel
theorem dX7_isOwned_18 : decode cX7_isOwned 18 = .ok (.aload_n 3, 1) := by decide +kernel
theorem dX7_isOwned_19 : decode cX7_isOwned 19 = .ok (.getfield 221, 3) := by decide +kernel
theorem dX7_isOwned_22 : decode cX7_isOwned 22 = .ok (.ifCond .eq 14, 3) := by decide +kernel
theorem dX7_isOwned_25 : decode cX7_isOwned 25 = .ok (.aload_n 0, 1) := by decide +kernel
theorem dX7_isOwned_26 : decode cX7_isOwned 26 = .ok (.aload_n 3, 1) := by decide +kernel
theorem dX7_isOwned_27 : decode cX7_isOwned 27 = .ok (.iload_n 1, 1) := by decide +kernel
theorem dX7_isOwned_28 : decode cX7_isOwned 28 = .ok (.invokevirtual 297, 3) := by decide +kernel
theorem dX7_isOwned_31 : decode cX7_isOwned 31 = .ok (.ifCond .eq 5, 3) := by decide +kernel
theorem dX7_isOwned_34 : decode cX7_isOwned 34 = .ok (.iconst 1, 1) := by decide +kernel
theorem dX7_isOwned_35 : decode cX7_isOwned 35 = .ok (.ireturn, 1) := by decide +kernel
theorem dX7_isOwned_36 : decode cX7_isOwned 36 = .ok (.iinc 2 1, 3) := by decide +kernel
theorem dX7_isOwned_39 : decode cX7_isOwned 39 = .ok (.goto (-37), 3) := by decide +kernel
theorem dX7_isOwned_42 : decode cX7_isOwned 42 = .ok (.iconst 0, 1) := by decide +kernel
theorem dX7_isOwned_43 : decode cX7_isOwned 43 = .ok (.ireturn, 1) := by decide +kernel
set_option maxRecDepth 20000 in
theorem ggX7_owns_X4_isOwning : GoodIn wsX7_owns wsX4_isOwning := goodIn_r _ [10, 11, 12, 13, 14, 9, 15, 16, 38, 39, 40, 41, 42, 43] (by decide +kernel) (by decide +kernel)
set_option maxRecDepth 20000 in
theorem gX7_owns_X4_isOwning : GoodIn wsX7_owns (wsV RX7 133 RX4 yX4_isOwning wsX4_isOwning) := goodIn_app (goodIn_of _ (by decide +kernel)) ggX7_owns_X4_isOwning
theorem dX7_owns_0 : decode cX7_owns 0 = .ok (.aload_n 0, 1) := by decide +kernel
theorem dX7_owns_1 : decode cX7_owns 1 = .ok (.getfield 11, 3) := by decide +kernel
theorem dX7_owns_4 : decode cX7_owns 4 = .ok (.aload_n 1, 1) := by decide +kernel
theorem dX7_owns_5 : decode cX7_owns 5 = .ok (.getfield 112, 3) := by decide +kernel
theorem dX7_owns_8 : decode cX7_owns 8 = .ok (.aaload, 1) := by decide +kernel
theorem dX7_owns_9 : decode cX7_owns 9 = .ok (.getfield 115, 3) := by decide +kernel
theorem dX7_owns_12 : decode cX7_owns 12 = .ok (.astore_n 3, 1) := by decide +kernel
theorem dX7_owns_13 : decode cX7_owns 13 = .ok (.iconst 0, 1) := by decide +kernel
theorem dX7_owns_14 : decode cX7_owns 14 = .ok (.istore 4, 2) := by decide +kernel
theorem dX7_owns_16 : decode cX7_owns 16 = .ok (.iload 4, 2) := by decide +kernel
theorem dX7_owns_18 : decode cX7_owns 18 = .ok (.aload_n 3, 1) := by decide +kernel
theorem dX7_owns_19 : decode cX7_owns 19 = .ok (.getfield 238, 3) := by decide +kernel
theorem dX7_owns_22 : decode cX7_owns 22 = .ok (.if_icmp .ge 31, 3) := by decide +kernel
theorem dX7_owns_25 : decode cX7_owns 25 = .ok (.aload_n 3, 1) := by decide +kernel
theorem dX7_owns_26 : decode cX7_owns 26 = .ok (.iload 4, 2) := by decide +kernel
theorem dX7_owns_28 : decode cX7_owns 28 = .ok (.invokevirtual 133, 3) := by decide +kernel
theorem dX7_owns_31 : decode cX7_owns 31 = .ok (.ifCond .eq 16, 3) := by decide +kernel
theorem dX7_owns_34 : decode cX7_owns 34 = .ok (.aload_n 1, 1) := by decide +kernel
theorem dX7_owns_35 : decode cX7_owns 35 = .ok (.getfield 109, 3) := by decide +kernel
theorem dX7_owns_38 : decode cX7_owns 38 = .ok (.iload 4, 2) := by decide +kernel
theorem dX7_owns_40 : decode cX7_owns 40 = .ok (.iaload, 1) := by decide +kernel
theorem dX7_owns_41 : decode cX7_owns 41 = .ok (.iload_n 2, 1) := by decide +kernel
theorem dX7_owns_42 : decode cX7_owns 42 = .ok (.if_icmp .ne 5, 3) := by decide +kernel
theorem dX7_owns_45 : decode cX7_owns 45 = .ok (.iconst 1, 1) := by decide +kernel
theorem dX7_owns_46 : decode cX7_owns 46 = .ok (.ireturn, 1) := by decide +kernel
theorem dX7_owns_47 : decode cX7_owns 47 = .ok (.iinc 4 1, 3) := by decide +kernel
theorem dX7_owns_50 : decode cX7_owns 50 = .ok (.goto (-34), 3) := by decide +kernel
theorem dX7_owns_53 : decode cX7_owns 53 = .ok (.iconst 0, 1) := by decide +kernel
theorem dX7_owns_54 : decode cX7_owns 54 = .ok (.ireturn, 1) := by decide +kernel
set_option maxRecDepth 20000 in
theorem ggX7_familySize_X4_isOwning : GoodIn wsX7_familySize wsX4_isOwning := goodIn_r _ [9, 10, 11, 12, 13, 8, 14, 15, 35, 36, 37, 38, 39, 40] (by decide +kernel) (by decide +kernel)
set_option maxRecDepth 20000 in
theorem gX7_familySize_X4_isOwning : GoodIn wsX7_familySize (wsV RX7 133 RX4 yX4_isOwning wsX4_isOwning) := goodIn_app (goodIn_of _ (by decide +kernel)) ggX7_familySize_X4_isOwning
set_option maxRecDepth 20000 in
theorem ggX7_familySize_X7_familySize : GoodIn wsX7_familySize wsX7_familySize := goodIn_r _ [0, 1, 2, 3, 4, 5, 6, 7, 8, 9, 10, 11, 12, 13, 14, 15, 16, 17, 18, 19, 20, 21, 22, 23, 24, 25, 26, 27, 28, 29, 30, 31, 32, 33, 34, 35, 36, 37, 38, 39, 40] (by decide +kernel) (by decide +kernel)
set_option maxRecDepth 20000 in
theorem gX7_familySize_X7_familySize : GoodIn wsX7_familySize (wsV RX7 85 RX7 yX7_familySize wsX7_familySize) := goodIn_app (goodIn_of _ (by decide +kernel)) ggX7_familySize_X7_familySize
theorem dX7_familySize_0 : decode cX7_familySize 0 = .ok (.iload_n 2, 1) := by decide +kernel
theorem dX7_familySize_1 : decode cX7_familySize 1 = .ok (.iconst 4, 1) := by decide +kernel
theorem dX7_familySize_2 : decode cX7_familySize 2 = .ok (.if_icmp .lt 5, 3) := by decide +kernel
theorem dX7_familySize_5 : decode cX7_familySize 5 = .ok (.iconst 0, 1) := by decide +kernel
theorem dX7_familySize_6 : decode cX7_familySize 6 = .ok (.ireturn, 1) := by decide +kernel
theorem dX7_familySize_7 : decode cX7_familySize 7 = .ok (.aload_n 0, 1) := by decide +kernel
theorem dX7_familySize_8 : decode cX7_familySize 8 = .ok (.getfield 11, 3) := by decide +kernel
theorem dX7_familySize_11 : decode cX7_familySize 11 = .ok (.iload_n 1, 1) := by decide +kernel
theorem dX7_familySize_12 : decode cX7_familySize 12 = .ok (.aaload, 1) := by decide +kernel
theorem dX7_familySize_13 : decode cX7_familySize 13 = .ok (.getfield 115, 3) := by decide +kernel
theorem dX7_familySize_16 : decode cX7_familySize 16 = .ok (.astore_n 3, 1) := by decide +kernel
theorem dX7_familySize_17 : decode cX7_familySize 17 = .ok (.iconst 1, 1) := by decide +kernel
theorem dX7_familySize_18 : decode cX7_familySize 18 = .ok (.istore 4, 2) := by decide +kernel
theorem dX7_familySize_20 : decode cX7_familySize 20 = .ok (.iconst 0, 1) := by decide +kernel
theorem dX7_familySize_21 : decode cX7_familySize 21 = .ok (.istore 5, 2) := by decide +kernel
theorem dX7_familySize_23 : decode cX7_familySize 23 = .ok (.iload 5, 2) := by decide +kernel
theorem dX7_familySize_25 : decode cX7_familySize 25 = .ok (.aload_n 3, 1) := by decide +kernel
theorem dX7_familySize_26 : decode cX7_familySize 26 = .ok (.getfield 238, 3) := by decide +kernel
theorem dX7_familySize_29 : decode cX7_familySize 29 = .ok (.if_icmp .ge 37, 3) := by decide +kernel
theorem dX7_familySize_32 : decode cX7_familySize 32 = .ok (.aload_n 3, 1) := by decide +kernel
theorem dX7_familySize_33 : decode cX7_familySize 33 = .ok (.iload 5, 2) := by decide +kernel
theorem dX7_familySize_35 : decode cX7_familySize 35 = .ok (.invokevirtual 133, 3) := by decide +kernel
theorem dX7_familySize_38 : decode cX7_familySize 38 = .ok (.ifCond .eq 22, 3) := by decide +kernel
theorem dX7_familySize_41 : decode cX7_familySize 41 = .ok (.iload 4, 2) := by decide +kernel
theorem dX7_familySize_43 : decode cX7_familySize 43 = .ok (.aload_n 0, 1) := by decide +kernel
theorem dX7_familySize_44 : decode cX7_familySize 44 = .ok (.aload_n 3, 1) := by decide +kernel
theorem dX7_familySize_45 : decode cX7_familySize 45 = .ok (.getfield 118, 3) := by decide +kernel
theorem dX7_familySize_48 : decode cX7_familySize 48 = .ok (.iload 5, 2) := by decide +kernel
theorem dX7_familySize_50 : decode cX7_familySize 50 = .ok (.iaload, 1) := by decide +kernel
theorem dX7_familySize_51 : decode cX7_familySize 51 = .ok (.iload_n 2, 1) := by decide +kernel
theorem dX7_familySize_52 : decode cX7_familySize 52 = .ok (.iconst 1, 1) := by decide +kernel
theorem dX7_familySize_53 : decode cX7_familySize 53 = .ok (.iadd, 1) := by decide +kernel
theorem dX7_familySize_54 : decode cX7_familySize 54 = .ok (.invokevirtual 85, 3) := by decide +kernel
theorem dX7_familySize_57 : decode cX7_familySize 57 = .ok (.iadd, 1) := by decide +kernel
theorem dX7_familySize_58 : decode cX7_familySize 58 = .ok (.istore 4, 2) := by decide +kernel
theorem dX7_familySize_60 : decode cX7_familySize 60 = .ok (.iinc 5 1, 3) := by decide +kernel
theorem dX7_familySize_63 : decode cX7_familySize 63 = .ok (.goto (-40), 3) := by decide +kernel
theorem dX7_familySize_66 : decode cX7_familySize 66 = .ok (.iload 4, 2) := by decide +kernel
theorem dX7_familySize_68 : decode cX7_familySize 68 = .ok (.ireturn, 1) := by decide +kernel
set_option maxRecDepth 20000 in
theorem ggX7_newFamily_X7_newRecord : GoodIn wsX7_newFamily wsX7_newRecord := goodIn_r _ [12, 1, 13, 14, 15, 16, 17, 18, 19, 20, 21, 22, 23, 24, 25, 26, 27, 28, 29, 30, 59, 60, 61, 62, 63, 64, 65, 66, 67, 68, 69, 70, 71, 72, 73, 86, 87, 88, 80, 81, 82, 83, 84, 85] (by decide +kernel) (by decide +kernel)
set_option maxRecDepth 20000 in
theorem gX7_newFamily_X7_newRecord : GoodIn wsX7_newFamily (wsV RX7 301 RX7 yX7_newRecord wsX7_newRecord) := goodIn_app (goodIn_of _ (by decide +kernel)) ggX7_newFamily_X7_newRecord
set_option maxRecDepth 20000 in
theorem ggX7_newFamily_X4_isNumber : GoodIn wsX7_newFamily wsX4_isNumber := goodIn_r _ [35, 36, 37, 38, 39, 34, 40, 41, 74, 75, 76, 77, 78, 79] (by decide +kernel) (by decide +kernel)
set_option maxRecDepth 20000 in
theorem gX7_newFamily_X4_isNumber : GoodIn wsX7_newFamily (wsV RX7 284 RX4 yX4_isNumber wsX4_isNumber) := goodIn_app (goodIn_of _ (by decide +kernel)) ggX7_newFamily_X4_isNumber
set_option maxRecDepth 20000 in
theorem ggX7_newFamily_X7_nearest : GoodIn wsX7_newFamily wsX7_nearest := goodIn_r _ [44, 45, 46, 47, 48, 49, 50, 51] (by decide +kernel) (by decide +kernel)
set_option maxRecDepth 20000 in
theorem gX7_newFamily_X7_nearest : GoodIn wsX7_newFamily (va_wsS RX7 304 yX7_nearest wsX7_nearest) := goodIn_app (goodIn_of _ (by decide +kernel)) ggX7_newFamily_X7_nearest
set_option maxRecDepth 20000 in
theorem ggX7_newFamily_X4_isOwning : GoodIn wsX7_newFamily wsX4_isOwning := goodIn_r _ [55, 36, 37, 38, 39, 34, 40, 41, 74, 75, 76, 77, 78, 79] (by decide +kernel) (by decide +kernel)
set_option maxRecDepth 20000 in
theorem gX7_newFamily_X4_isOwning : GoodIn wsX7_newFamily (wsV RX7 133 RX4 yX4_isOwning wsX4_isOwning) := goodIn_app (goodIn_of _ (by decide +kernel)) ggX7_newFamily_X4_isOwning
set_option maxRecDepth 20000 in
theorem ggX7_newFamily_X7_newFamily : GoodIn wsX7_newFamily wsX7_newFamily := goodIn_r _ [0, 1, 2, 3, 4, 5, 6, 7, 8, 9, 10, 11, 12, 13, 14, 15, 16, 17, 18, 19, 20, 21, 22, 23, 24, 25, 26, 27, 28, 29, 30, 31, 32, 33, 34, 35, 36, 37, 38, 39, 40, 41, 42, 43, 44, 45, 46, 47, 48, 49, 50, 51, 52, 53, 54, 55, 56, 57, 58, 59, 60, 61, 62, 63, 64, 65, 66, 67, 68, 69, 70, 71, 72, 73, 74, 75, 76, 77, 78, 79, 80, 81, 82, 83, 84, 85, 86, 87, 88] (by decide +kernel) (by decide +kernel)
set_option maxRecDepth 20000 in
theorem gX7_newFamily_X7_newFamily : GoodIn wsX7_newFamily (wsV RX7 91 RX7 yX7_newFamily wsX7_newFamily) := goodIn_app (goodIn_of _ (by decide +kernel)) ggX7_newFamily_X7_newFamily
theorem dX7_newFamily_0 : decode cX7_newFamily 0 = .ok (.iload_n 2, 1) := by decide +kernel
theorem dX7_newFamily_1 : decode cX7_newFamily 1 = .ok (.iconst 4, 1) := by decide +kernel
theorem dX7_newFamily_2 : decode cX7_newFamily 2 = .ok (.if_icmp .lt 5, 3) := by decide +kernel
theorem dX7_newFamily_5 : decode cX7_newFamily 5 = .ok (.iconst 0, 1) := by decide +kernel
theorem dX7_newFamily_6 : decode cX7_newFamily 6 = .ok (.ireturn, 1) := by decide +kernel
theorem dX7_newFamily_7 : decode cX7_newFamily 7 = .ok (.aload_n 0, 1) := by decide +kernel
theorem dX7_newFamily_8 : decode cX7_newFamily 8 = .ok (.iload_n 1, 1) := by decide +kernel
theorem dX7_newFamily_9 : decode cX7_newFamily 9 = .ok (.invokevirtual 301, 3) := by decide +kernel
theorem dX7_newFamily_12 : decode cX7_newFamily 12 = .ok (.astore_n 3, 1) := by decide +kernel
theorem dX7_newFamily_13 : decode cX7_newFamily 13 = .ok (.aload_n 3, 1) := by decide +kernel
theorem dX7_newFamily_14 : decode cX7_newFamily 14 = .ok (.ifnonnull 5, 3) := by decide +kernel
theorem dX7_newFamily_17 : decode cX7_newFamily 17 = .ok (.iconst 0, 1) := by decide +kernel
theorem dX7_newFamily_18 : decode cX7_newFamily 18 = .ok (.ireturn, 1) := by decide +kernel
theorem dX7_newFamily_19 : decode cX7_newFamily 19 = .ok (.aload_n 0, 1) := by decide +kernel
theorem dX7_newFamily_20 : decode cX7_newFamily 20 = .ok (.getfield 11, 3) := by decide +kernel
theorem dX7_newFamily_23 : decode cX7_newFamily 23 = .ok (.iload_n 1, 1) := by decide +kernel
theorem dX7_newFamily_24 : decode cX7_newFamily 24 = .ok (.aaload, 1) := by decide +kernel
theorem dX7_newFamily_25 : decode cX7_newFamily 25 = .ok (.getfield 115, 3) := by decide +kernel
theorem dX7_newFamily_28 : decode cX7_newFamily 28 = .ok (.astore 4, 2) := by decide +kernel
theorem dX7_newFamily_30 : decode cX7_newFamily 30 = .ok (.iconst 0, 1) := by decide +kernel
theorem dX7_newFamily_31 : decode cX7_newFamily 31 = .ok (.istore 5, 2) := by decide +kernel
theorem dX7_newFamily_33 : decode cX7_newFamily 33 = .ok (.iload 5, 2) := by decide +kernel
theorem dX7_newFamily_35 : decode cX7_newFamily 35 = .ok (.aload 4, 2) := by decide +kernel
theorem dX7_newFamily_37 : decode cX7_newFamily 37 = .ok (.getfield 238, 3) := by decide +kernel
theorem dX7_newFamily_40 : decode cX7_newFamily 40 = .ok (.if_icmp .ge 92, 3) := by decide +kernel
theorem dX7_newFamily_43 : decode cX7_newFamily 43 = .ok (.aload 4, 2) := by decide +kernel
theorem dX7_newFamily_45 : decode cX7_newFamily 45 = .ok (.iload 5, 2) := by decide +kernel
theorem dX7_newFamily_47 : decode cX7_newFamily 47 = .ok (.invokevirtual 284, 3) := by decide +kernel
theorem dX7_newFamily_50 : decode cX7_newFamily 50 = .ok (.ifCond .eq 33, 3) := by decide +kernel
theorem dX7_newFamily_53 : decode cX7_newFamily 53 = .ok (.aload_n 3, 1) := by decide +kernel
theorem dX7_newFamily_54 : decode cX7_newFamily 54 = .ok (.getfield 109, 3) := by decide +kernel
theorem dX7_newFamily_57 : decode cX7_newFamily 57 = .ok (.iload 5, 2) := by decide +kernel
theorem dX7_newFamily_59 : decode cX7_newFamily 59 = .ok (.iconst 0, 1) := by decide +kernel
theorem dX7_newFamily_60 : decode cX7_newFamily 60 = .ok (.aload 4, 2) := by decide +kernel
theorem dX7_newFamily_62 : decode cX7_newFamily 62 = .ok (.getfield 118, 3) := by decide +kernel
theorem dX7_newFamily_65 : decode cX7_newFamily 65 = .ok (.iload 5, 2) := by decide +kernel
theorem dX7_newFamily_67 : decode cX7_newFamily 67 = .ok (.iaload, 1) := by decide +kernel
theorem dX7_newFamily_68 : decode cX7_newFamily 68 = .ok (.aload 4, 2) := by decide +kernel
theorem dX7_newFamily_70 : decode cX7_newFamily 70 = .ok (.getfield 121, 3) := by decide +kernel
theorem dX7_newFamily_73 : decode cX7_newFamily 73 = .ok (.iload 5, 2) := by decide +kernel
theorem dX7_newFamily_75 : decode cX7_newFamily 75 = .ok (.iaload, 1) := by decide +kernel
theorem dX7_newFamily_76 : decode cX7_newFamily 76 = .ok (.invokestatic 304, 3) := by decide +kernel
theorem dX7_newFamily_79 : decode cX7_newFamily 79 = .ok (.iastore, 1) := by decide +kernel
theorem dX7_newFamily_80 : decode cX7_newFamily 80 = .ok (.goto 46, 3) := by decide +kernel
theorem dX7_newFamily_83 : decode cX7_newFamily 83 = .ok (.aload 4, 2) := by decide +kernel
theorem dX7_newFamily_85 : decode cX7_newFamily 85 = .ok (.iload 5, 2) := by decide +kernel
theorem dX7_newFamily_87 : decode cX7_newFamily 87 = .ok (.invokevirtual 133, 3) := by decide +kernel
theorem dX7_newFamily_90 : decode cX7_newFamily 90 = .ok (.ifCond .eq 28, 3) := by decide +kernel
theorem dX7_newFamily_93 : decode cX7_newFamily 93 = .ok (.aload_n 3, 1) := by decide +kernel
theorem dX7_newFamily_94 : decode cX7_newFamily 94 = .ok (.getfield 109, 3) := by decide +kernel
theorem dX7_newFamily_97 : decode cX7_newFamily 97 = .ok (.iload 5, 2) := by decide +kernel
theorem dX7_newFamily_99 : decode cX7_newFamily 99 = .ok (.aload_n 0, 1) := by decide +kernel
theorem dX7_newFamily_100 : decode cX7_newFamily 100 = .ok (.aload 4, 2) := by decide +kernel
theorem dX7_newFamily_102 : decode cX7_newFamily 102 = .ok (.getfield 118, 3) := by decide +kernel
theorem dX7_newFamily_105 : decode cX7_newFamily 105 = .ok (.iload 5, 2) := by decide +kernel
theorem dX7_newFamily_107 : decode cX7_newFamily 107 = .ok (.iaload, 1) := by decide +kernel
theorem dX7_newFamily_108 : decode cX7_newFamily 108 = .ok (.iload_n 2, 1) := by decide +kernel
theorem dX7_newFamily_109 : decode cX7_newFamily 109 = .ok (.iconst 1, 1) := by decide +kernel
theorem dX7_newFamily_110 : decode cX7_newFamily 110 = .ok (.iadd, 1) := by decide +kernel
theorem dX7_newFamily_111 : decode cX7_newFamily 111 = .ok (.invokevirtual 91, 3) := by decide +kernel
theorem dX7_newFamily_114 : decode cX7_newFamily 114 = .ok (.iastore, 1) := by decide +kernel
theorem dX7_newFamily_115 : decode cX7_newFamily 115 = .ok (.goto 11, 3) := by decide +kernel
theorem dX7_newFamily_118 : decode cX7_newFamily 118 = .ok (.aload_n 3, 1) := by decide +kernel
theorem dX7_newFamily_119 : decode cX7_newFamily 119 = .ok (.getfield 109, 3) := by decide +kernel
theorem dX7_newFamily_122 : decode cX7_newFamily 122 = .ok (.iload 5, 2) := by decide +kernel
theorem dX7_newFamily_124 : decode cX7_newFamily 124 = .ok (.iconst 0, 1) := by decide +kernel
theorem dX7_newFamily_125 : decode cX7_newFamily 125 = .ok (.iastore, 1) := by decide +kernel
theorem dX7_newFamily_126 : decode cX7_newFamily 126 = .ok (.iinc 5 1, 3) := by decide +kernel
theorem dX7_newFamily_129 : decode cX7_newFamily 129 = .ok (.goto (-96), 3) := by decide +kernel
theorem dX7_newFamily_132 : decode cX7_newFamily 132 = .ok (.aload_n 3, 1) := by decide +kernel
theorem dX7_newFamily_133 : decode cX7_newFamily 133 = .ok (.getfield 221, 3) := by decide +kernel
theorem dX7_newFamily_136 : decode cX7_newFamily 136 = .ok (.ireturn, 1) := by decide +kernel
set_option maxRecDepth 20000 in
theorem ggX7_newRecord_X6_add : GoodIn wsX7_newRecord wsX6_add := goodIn_r _ [9, 10, 11, 12, 13, 14, 15, 16, 17, 8, 18, 19, 35, 36, 37, 38, 39, 40, 41, 42, 43] (by decide +kernel) (by decide +kernel)
set_option maxRecDepth 20000 in
theorem gX7_newRecord_X6_add : GoodIn wsX7_newRecord (wsV RX7 308 RX6 yX6_add wsX6_add) := goodIn_app (goodIn_of _ (by decide +kernel)) ggX7_newRecord_X6_add
theorem dX7_newRecord_0 : decode cX7_newRecord 0 = .ok (.aload_n 0, 1) := by decide +kernel
theorem dX7_newRecord_1 : decode cX7_newRecord 1 = .ok (.getfield 11, 3) := by decide +kernel
theorem dX7_newRecord_4 : decode cX7_newRecord 4 = .ok (.iload_n 1, 1) := by decide +kernel
theorem dX7_newRecord_5 : decode cX7_newRecord 5 = .ok (.aaload, 1) := by decide +kernel
theorem dX7_newRecord_6 : decode cX7_newRecord 6 = .ok (.astore_n 2, 1) := by decide +kernel
theorem dX7_newRecord_7 : decode cX7_newRecord 7 = .ok (.aload_n 2, 1) := by decide +kernel
theorem dX7_newRecord_8 : decode cX7_newRecord 8 = .ok (.iconst 0, 1) := by decide +kernel
theorem dX7_newRecord_9 : decode cX7_newRecord 9 = .ok (.putfield 126, 3) := by decide +kernel
theorem dX7_newRecord_12 : decode cX7_newRecord 12 = .ok (.aload_n 0, 1) := by decide +kernel
theorem dX7_newRecord_13 : decode cX7_newRecord 13 = .ok (.getfield 19, 3) := by decide +kernel
theorem dX7_newRecord_16 : decode cX7_newRecord 16 = .ok (.iload_n 1, 1) := by decide +kernel
theorem dX7_newRecord_17 : decode cX7_newRecord 17 = .ok (.aload_n 2, 1) := by decide +kernel
theorem dX7_newRecord_18 : decode cX7_newRecord 18 = .ok (.getfield 183, 3) := by decide +kernel
theorem dX7_newRecord_21 : decode cX7_newRecord 21 = .ok (.invokevirtual 308, 3) := by decide +kernel
theorem dX7_newRecord_24 : decode cX7_newRecord 24 = .ok (.areturn, 1) := by decide +kernel
theorem dX7_nearest_0 : decode cX7_nearest 0 = .ok (.iload_n 1, 1) := by decide +kernel
theorem dX7_nearest_1 : decode cX7_nearest 1 = .ok (.iload_n 2, 1) := by decide +kernel
theorem dX7_nearest_2 : decode cX7_nearest 2 = .ok (.iload_n 0, 1) := by decide +kernel
theorem dX7_nearest_3 : decode cX7_nearest 3 = .ok (.invokestatic 312, 3) := by decide +kernel
theorem dX7_nearest_6 : decode cX7_nearest 6 = .ok (.invokestatic 317, 3) := by decide +kernel
theorem dX7_nearest_9 : decode cX7_nearest 9 = .ok (.ireturn, 1) := by decide +kernel
set_option maxRecDepth 20000 in
theorem ggX7_restore_X4_isReference : GoodIn wsX7_restore wsX4_isReference := goodIn_r _ [9, 10, 11, 12, 13, 8, 14, 15, 27, 28, 29, 30, 31, 32] (by decide +kernel) (by decide +kernel)
set_option maxRecDepth 20000 in
theorem gX7_restore_X4_isReference : GoodIn wsX7_restore (wsV RX7 289 RX4 yX4_isReference wsX4_isReference) := goodIn_app (goodIn_of _ (by decide +kernel)) ggX7_restore_X4_isReference
set_option maxRecDepth 20000 in
theorem ggX7_restore_X6_find : GoodIn wsX7_restore wsX6_find := goodIn_r _ [20, 21, 22, 23, 19, 24, 25, 26, 50, 51, 52, 33, 34, 35, 36, 37, 38] (by decide +kernel) (by decide +kernel)
set_option maxRecDepth 20000 in
theorem gX7_restore_X6_find : GoodIn wsX7_restore (wsV RX7 273 RX6 yX6_find wsX6_find) := goodIn_app (goodIn_of _ (by decide +kernel)) ggX7_restore_X6_find
theorem dX7_restore_0 : decode cX7_restore 0 = .ok (.iconst 0, 1) := by decide +kernel
theorem dX7_restore_1 : decode cX7_restore 1 = .ok (.istore_n 3, 1) := by decide +kernel
theorem dX7_restore_2 : decode cX7_restore 2 = .ok (.iload_n 3, 1) := by decide +kernel
theorem dX7_restore_3 : decode cX7_restore 3 = .ok (.aload_n 2, 1) := by decide +kernel
theorem dX7_restore_4 : decode cX7_restore 4 = .ok (.getfield 238, 3) := by decide +kernel
theorem dX7_restore_7 : decode cX7_restore 7 = .ok (.if_icmp .ge 61, 3) := by decide +kernel
theorem dX7_restore_10 : decode cX7_restore 10 = .ok (.aload_n 1, 1) := by decide +kernel
theorem dX7_restore_11 : decode cX7_restore 11 = .ok (.getfield 320, 3) := by decide +kernel
theorem dX7_restore_14 : decode cX7_restore 14 = .ok (.iload_n 3, 1) := by decide +kernel
theorem dX7_restore_15 : decode cX7_restore 15 = .ok (.iaload, 1) := by decide +kernel
theorem dX7_restore_16 : decode cX7_restore 16 = .ok (.istore 4, 2) := by decide +kernel
theorem dX7_restore_18 : decode cX7_restore 18 = .ok (.aload_n 2, 1) := by decide +kernel
theorem dX7_restore_19 : decode cX7_restore 19 = .ok (.iload_n 3, 1) := by decide +kernel
theorem dX7_restore_20 : decode cX7_restore 20 = .ok (.invokevirtual 289, 3) := by decide +kernel
theorem dX7_restore_23 : decode cX7_restore 23 = .ok (.ifCond .eq 19, 3) := by decide +kernel
theorem dX7_restore_26 : decode cX7_restore 26 = .ok (.aload_n 0, 1) := by decide +kernel
theorem dX7_restore_27 : decode cX7_restore 27 = .ok (.getfield 19, 3) := by decide +kernel
theorem dX7_restore_30 : decode cX7_restore 30 = .ok (.iload 4, 2) := by decide +kernel
theorem dX7_restore_32 : decode cX7_restore 32 = .ok (.invokevirtual 273, 3) := by decide +kernel
theorem dX7_restore_35 : decode cX7_restore 35 = .ok (.ifnonnull 7, 3) := by decide +kernel
theorem dX7_restore_38 : decode cX7_restore 38 = .ok (.iconst 1, 1) := by decide +kernel
theorem dX7_restore_39 : decode cX7_restore 39 = .ok (.goto 4, 3) := by decide +kernel
theorem dX7_restore_42 : decode cX7_restore 42 = .ok (.iconst 0, 1) := by decide +kernel
theorem dX7_restore_43 : decode cX7_restore 43 = .ok (.istore 5, 2) := by decide +kernel
theorem dX7_restore_45 : decode cX7_restore 45 = .ok (.aload_n 1, 1) := by decide +kernel
theorem dX7_restore_46 : decode cX7_restore 46 = .ok (.getfield 109, 3) := by decide +kernel
theorem dX7_restore_49 : decode cX7_restore 49 = .ok (.iload_n 3, 1) := by decide +kernel
theorem dX7_restore_50 : decode cX7_restore 50 = .ok (.iload 5, 2) := by decide +kernel
theorem dX7_restore_52 : decode cX7_restore 52 = .ok (.ifCond .eq 7, 3) := by decide +kernel
theorem dX7_restore_55 : decode cX7_restore 55 = .ok (.iconst 0, 1) := by decide +kernel
theorem dX7_restore_56 : decode cX7_restore 56 = .ok (.goto 5, 3) := by decide +kernel
theorem dX7_restore_59 : decode cX7_restore 59 = .ok (.iload 4, 2) := by decide +kernel
theorem dX7_restore_61 : decode cX7_restore 61 = .ok (.iastore, 1) := by decide +kernel
theorem dX7_restore_62 : decode cX7_restore 62 = .ok (.iinc 3 1, 3) := by decide +kernel
theorem dX7_restore_65 : decode cX7_restore 65 = .ok (.goto (-63), 3) := by decide +kernel
theorem dX7_restore_68 : decode cX7_restore 68 = .ok (.return_, 1) := by decide +kernel
set_option maxRecDepth 20000 in
theorem ggX7_reachAll_X7_reach : GoodIn wsX7_reachAll wsX7_reach := goodIn_r _ [10, 1, 3, 5, 11, 12, 13, 14, 15, 16, 17, 18, 19, 20, 21, 42, 43, 44, 45, 46, 47, 48, 49, 50, 51, 52, 56, 57, 58, 59, 60, 61, 53, 54, 55] (by decide +kernel) (by decide +kernel)
set_option maxRecDepth 20000 in
theorem gX7_reachAll_X7_reach : GoodIn wsX7_reachAll (wsV RX7 323 RX7 yX7_reach wsX7_reach) := goodIn_app (goodIn_of _ (by decide +kernel)) ggX7_reachAll_X7_reach
set_option maxRecDepth 20000 in
theorem ggX7_reachAll_X7_reachFrom : GoodIn wsX7_reachAll wsX7_reachFrom := goodIn_r _ [25, 26, 27, 28, 29, 30, 31, 32, 33, 34, 35, 36, 37, 38, 39, 40, 41, 6, 7, 8, 9, 10, 1, 3, 5, 11, 12, 13, 14, 15, 16, 17, 18, 19, 20, 21, 42, 43, 44, 45, 46, 47, 48, 49, 50, 51, 52, 56, 57, 58, 59, 60, 61, 62, 63, 64, 65, 66, 67, 68, 69, 70, 71, 53, 54, 55] (by decide +kernel) (by decide +kernel)
set_option maxRecDepth 20000 in
theorem gX7_reachAll_X7_reachFrom : GoodIn wsX7_reachAll (wsV RX7 326 RX7 yX7_reachFrom wsX7_reachFrom) := goodIn_app (goodIn_of _ (by decide +kernel)) ggX7_reachAll_X7_reachFrom
theorem dX7_reachAll_0 : decode cX7_reachAll 0 = .ok (.iconst 0, 1) := by decide +kernel
theorem dX7_reachAll_1 : decode cX7_reachAll 1 = .ok (.istore_n 1, 1) := by decide +kernel
theorem dX7_reachAll_2 : decode cX7_reachAll 2 = .ok (.iload_n 1, 1) := by decide +kernel
theorem dX7_reachAll_3 : decode cX7_reachAll 3 = .ok (.bipush 24, 2) := by decide +kernel
theorem dX7_reachAll_5 : decode cX7_reachAll 5 = .ok (.if_icmp .ge 22, 3) := by decide +kernel
theorem dX7_reachAll_8 : decode cX7_reachAll 8 = .ok (.aload_n 0, 1) := by decide +kernel
theorem dX7_reachAll_9 : decode cX7_reachAll 9 = .ok (.getfield 19, 3) := by decide +kernel
theorem dX7_reachAll_12 : decode cX7_reachAll 12 = .ok (.getfield 199, 3) := by decide +kernel
theorem dX7_reachAll_15 : decode cX7_reachAll 15 = .ok (.iload_n 1, 1) := by decide +kernel
theorem dX7_reachAll_16 : decode cX7_reachAll 16 = .ok (.aaload, 1) := by decide +kernel
theorem dX7_reachAll_17 : decode cX7_reachAll 17 = .ok (.iconst 0, 1) := by decide +kernel
theorem dX7_reachAll_18 : decode cX7_reachAll 18 = .ok (.putfield 224, 3) := by decide +kernel
theorem dX7_reachAll_21 : decode cX7_reachAll 21 = .ok (.iinc 1 1, 3) := by decide +kernel
theorem dX7_reachAll_24 : decode cX7_reachAll 24 = .ok (.goto (-22), 3) := by decide +kernel
theorem dX7_reachAll_27 : decode cX7_reachAll 27 = .ok (.iconst 0, 1) := by decide +kernel
theorem dX7_reachAll_28 : decode cX7_reachAll 28 = .ok (.istore_n 1, 1) := by decide +kernel
theorem dX7_reachAll_29 : decode cX7_reachAll 29 = .ok (.iconst 0, 1) := by decide +kernel
theorem dX7_reachAll_30 : decode cX7_reachAll 30 = .ok (.istore_n 2, 1) := by decide +kernel
theorem dX7_reachAll_31 : decode cX7_reachAll 31 = .ok (.iload_n 2, 1) := by decide +kernel
theorem dX7_reachAll_32 : decode cX7_reachAll 32 = .ok (.bipush 8, 2) := by decide +kernel
theorem dX7_reachAll_34 : decode cX7_reachAll 34 = .ok (.if_icmp .ge 21, 3) := by decide +kernel
theorem dX7_reachAll_37 : decode cX7_reachAll 37 = .ok (.aload_n 0, 1) := by decide +kernel
theorem dX7_reachAll_38 : decode cX7_reachAll 38 = .ok (.aload_n 0, 1) := by decide +kernel
theorem dX7_reachAll_39 : decode cX7_reachAll 39 = .ok (.getfield 23, 3) := by decide +kernel
theorem dX7_reachAll_42 : decode cX7_reachAll 42 = .ok (.iload_n 2, 1) := by decide +kernel
theorem dX7_reachAll_43 : decode cX7_reachAll 43 = .ok (.iaload, 1) := by decide +kernel
theorem dX7_reachAll_44 : decode cX7_reachAll 44 = .ok (.iload_n 1, 1) := by decide +kernel
theorem dX7_reachAll_45 : decode cX7_reachAll 45 = .ok (.invokevirtual 323, 3) := by decide +kernel
theorem dX7_reachAll_48 : decode cX7_reachAll 48 = .ok (.istore_n 1, 1) := by decide +kernel
theorem dX7_reachAll_49 : decode cX7_reachAll 49 = .ok (.iinc 2 1, 3) := by decide +kernel
theorem dX7_reachAll_52 : decode cX7_reachAll 52 = .ok (.goto (-21), 3) := by decide +kernel
theorem dX7_reachAll_55 : decode cX7_reachAll 55 = .ok (.iconst 0, 1) := by decide +kernel
theorem dX7_reachAll_56 : decode cX7_reachAll 56 = .ok (.istore_n 2, 1) := by decide +kernel
theorem dX7_reachAll_57 : decode cX7_reachAll 57 = .ok (.iload_n 2, 1) := by decide +kernel
theorem dX7_reachAll_58 : decode cX7_reachAll 58 = .ok (.iload_n 1, 1) := by decide +kernel
theorem dX7_reachAll_59 : decode cX7_reachAll 59 = .ok (.if_icmp .ge 27, 3) := by decide +kernel
theorem dX7_reachAll_62 : decode cX7_reachAll 62 = .ok (.iload_n 2, 1) := by decide +kernel
theorem dX7_reachAll_63 : decode cX7_reachAll 63 = .ok (.bipush 24, 2) := by decide +kernel
theorem dX7_reachAll_65 : decode cX7_reachAll 65 = .ok (.if_icmp .ge 21, 3) := by decide +kernel
theorem dX7_reachAll_68 : decode cX7_reachAll 68 = .ok (.aload_n 0, 1) := by decide +kernel
theorem dX7_reachAll_69 : decode cX7_reachAll 69 = .ok (.aload_n 0, 1) := by decide +kernel
theorem dX7_reachAll_70 : decode cX7_reachAll 70 = .ok (.getfield 61, 3) := by decide +kernel
theorem dX7_reachAll_73 : decode cX7_reachAll 73 = .ok (.iload_n 2, 1) := by decide +kernel
theorem dX7_reachAll_74 : decode cX7_reachAll 74 = .ok (.aaload, 1) := by decide +kernel
theorem dX7_reachAll_75 : decode cX7_reachAll 75 = .ok (.iload_n 1, 1) := by decide +kernel
theorem dX7_reachAll_76 : decode cX7_reachAll 76 = .ok (.invokevirtual 326, 3) := by decide +kernel
theorem dX7_reachAll_79 : decode cX7_reachAll 79 = .ok (.istore_n 1, 1) := by decide +kernel
theorem dX7_reachAll_80 : decode cX7_reachAll 80 = .ok (.iinc 2 1, 3) := by decide +kernel
theorem dX7_reachAll_83 : decode cX7_reachAll 83 = .ok (.goto (-26), 3) := by decide +kernel
theorem dX7_reachAll_86 : decode cX7_reachAll 86 = .ok (.return_, 1) := by decide +kernel
set_option maxRecDepth 20000 in
theorem ggX7_reachFrom_X4_isReference : GoodIn wsX7_reachFrom wsX4_isReference := goodIn_r _ [10, 11, 12, 13, 14, 9, 15, 16, 57, 58, 59, 60, 61, 62] (by decide +kernel) (by decide +kernel)
set_option maxRecDepth 20000 in
theorem gX7_reachFrom_X4_isReference : GoodIn wsX7_reachFrom (wsV RX7 289 RX4 yX4_isReference wsX4_isReference) := goodIn_app (goodIn_of _ (by decide +kernel)) ggX7_reachFrom_X4_isReference
set_option maxRecDepth 20000 in
theorem ggX7_reachFrom_X7_reach : GoodIn wsX7_reachFrom wsX7_reach := goodIn_r _ [21, 22, 23, 24, 25, 26, 27, 28, 29, 30, 31, 32, 33, 34, 35, 36, 37, 38, 39, 40, 41, 42, 43, 44, 45, 46, 47, 48, 49, 50, 51, 52, 63, 64, 65] (by decide +kernel) (by decide +kernel)
set_option maxRecDepth 20000 in
theorem gX7_reachFrom_X7_reach : GoodIn wsX7_reachFrom (wsV RX7 323 RX7 yX7_reach wsX7_reach) := goodIn_app (goodIn_of _ (by decide +kernel)) ggX7_reachFrom_X7_reach
theorem dX7_reachFrom_0 : decode cX7_reachFrom 0 = .ok (.aload_n 1, 1) := by decide +kernel
theorem dX7_reachFrom_1 : decode cX7_reachFrom 1 = .ok (.ifnonnull 5, 3) := by decide +kernel
theorem dX7_reachFrom_4 : decode cX7_reachFrom 4 = .ok (.iload_n 2, 1) := by decide +kernel
theorem dX7_reachFrom_5 : decode cX7_reachFrom 5 = .ok (.ireturn, 1) := by decide +kernel
theorem dX7_reachFrom_6 : decode cX7_reachFrom 6 = .ok (.iload_n 2, 1) := by decide +kernel
theorem dX7_reachFrom_7 : decode cX7_reachFrom 7 = .ok (.istore_n 3, 1) := by decide +kernel
theorem dX7_reachFrom_8 : decode cX7_reachFrom 8 = .ok (.aload_n 0, 1) := by decide +kernel
theorem dX7_reachFrom_9 : decode cX7_reachFrom 9 = .ok (.getfield 11, 3) := by decide +kernel
theorem dX7_reachFrom_12 : decode cX7_reachFrom 12 = .ok (.aload_n 1, 1) := by decide +kernel
theorem dX7_reachFrom_13 : decode cX7_reachFrom 13 = .ok (.getfield 112, 3) := by decide +kernel
theorem dX7_reachFrom_16 : decode cX7_reachFrom 16 = .ok (.aaload, 1) := by decide +kernel
theorem dX7_reachFrom_17 : decode cX7_reachFrom 17 = .ok (.getfield 115, 3) := by decide +kernel
theorem dX7_reachFrom_20 : decode cX7_reachFrom 20 = .ok (.astore 4, 2) := by decide +kernel
theorem dX7_reachFrom_22 : decode cX7_reachFrom 22 = .ok (.iconst 0, 1) := by decide +kernel
theorem dX7_reachFrom_23 : decode cX7_reachFrom 23 = .ok (.istore 5, 2) := by decide +kernel
theorem dX7_reachFrom_25 : decode cX7_reachFrom 25 = .ok (.iload 5, 2) := by decide +kernel
theorem dX7_reachFrom_27 : decode cX7_reachFrom 27 = .ok (.aload 4, 2) := by decide +kernel
theorem dX7_reachFrom_29 : decode cX7_reachFrom 29 = .ok (.getfield 238, 3) := by decide +kernel
theorem dX7_reachFrom_32 : decode cX7_reachFrom 32 = .ok (.if_icmp .ge 32, 3) := by decide +kernel
theorem dX7_reachFrom_35 : decode cX7_reachFrom 35 = .ok (.aload 4, 2) := by decide +kernel
theorem dX7_reachFrom_37 : decode cX7_reachFrom 37 = .ok (.iload 5, 2) := by decide +kernel
theorem dX7_reachFrom_39 : decode cX7_reachFrom 39 = .ok (.invokevirtual 289, 3) := by decide +kernel
theorem dX7_reachFrom_42 : decode cX7_reachFrom 42 = .ok (.ifCond .eq 16, 3) := by decide +kernel
theorem dX7_reachFrom_45 : decode cX7_reachFrom 45 = .ok (.aload_n 0, 1) := by decide +kernel
theorem dX7_reachFrom_46 : decode cX7_reachFrom 46 = .ok (.aload_n 1, 1) := by decide +kernel
theorem dX7_reachFrom_47 : decode cX7_reachFrom 47 = .ok (.getfield 109, 3) := by decide +kernel
theorem dX7_reachFrom_50 : decode cX7_reachFrom 50 = .ok (.iload 5, 2) := by decide +kernel
theorem dX7_reachFrom_52 : decode cX7_reachFrom 52 = .ok (.iaload, 1) := by decide +kernel
theorem dX7_reachFrom_53 : decode cX7_reachFrom 53 = .ok (.iload_n 3, 1) := by decide +kernel
theorem dX7_reachFrom_54 : decode cX7_reachFrom 54 = .ok (.invokevirtual 323, 3) := by decide +kernel
theorem dX7_reachFrom_57 : decode cX7_reachFrom 57 = .ok (.istore_n 3, 1) := by decide +kernel
theorem dX7_reachFrom_58 : decode cX7_reachFrom 58 = .ok (.iinc 5 1, 3) := by decide +kernel
theorem dX7_reachFrom_61 : decode cX7_reachFrom 61 = .ok (.goto (-36), 3) := by decide +kernel
theorem dX7_reachFrom_64 : decode cX7_reachFrom 64 = .ok (.iload_n 3, 1) := by decide +kernel
theorem dX7_reachFrom_65 : decode cX7_reachFrom 65 = .ok (.ireturn, 1) := by decide +kernel
set_option maxRecDepth 20000 in
theorem ggX7_reach_X6_find : GoodIn wsX7_reach wsX6_find := goodIn_r _ [8, 9, 10, 11, 7, 12, 13, 14, 32, 33, 34, 26, 27, 28, 29, 30, 31] (by decide +kernel) (by decide +kernel)
set_option maxRecDepth 20000 in
theorem gX7_reach_X6_find : GoodIn wsX7_reach (wsV RX7 273 RX6 yX6_find wsX6_find) := goodIn_app (goodIn_of _ (by decide +kernel)) ggX7_reach_X6_find
theorem dX7_reach_0 : decode cX7_reach 0 = .ok (.aload_n 0, 1) := by decide +kernel
theorem dX7_reach_1 : decode cX7_reach 1 = .ok (.getfield 19, 3) := by decide +kernel
theorem dX7_reach_4 : decode cX7_reach 4 = .ok (.iload_n 1, 1) := by decide +kernel
theorem dX7_reach_5 : decode cX7_reach 5 = .ok (.invokevirtual 273, 3) := by decide +kernel
theorem dX7_reach_8 : decode cX7_reach 8 = .ok (.astore_n 3, 1) := by decide +kernel
theorem dX7_reach_9 : decode cX7_reach 9 = .ok (.aload_n 3, 1) := by decide +kernel
theorem dX7_reach_10 : decode cX7_reach 10 = .ok (.ifnull 16, 3) := by decide +kernel
theorem dX7_reach_13 : decode cX7_reach 13 = .ok (.aload_n 3, 1) := by decide +kernel
theorem dX7_reach_14 : decode cX7_reach 14 = .ok (.getfield 224, 3) := by decide +kernel
theorem dX7_reach_17 : decode cX7_reach 17 = .ok (.ifCond .ne 9, 3) := by decide +kernel
theorem dX7_reach_20 : decode cX7_reach 20 = .ok (.iload_n 2, 1) := by decide +kernel
theorem dX7_reach_21 : decode cX7_reach 21 = .ok (.bipush 24, 2) := by decide +kernel
theorem dX7_reach_23 : decode cX7_reach 23 = .ok (.if_icmp .lt 5, 3) := by decide +kernel
theorem dX7_reach_26 : decode cX7_reach 26 = .ok (.iload_n 2, 1) := by decide +kernel
theorem dX7_reach_27 : decode cX7_reach 27 = .ok (.ireturn, 1) := by decide +kernel
theorem dX7_reach_28 : decode cX7_reach 28 = .ok (.aload_n 3, 1) := by decide +kernel
theorem dX7_reach_29 : decode cX7_reach 29 = .ok (.iconst 1, 1) := by decide +kernel
theorem dX7_reach_30 : decode cX7_reach 30 = .ok (.putfield 224, 3) := by decide +kernel
theorem dX7_reach_33 : decode cX7_reach 33 = .ok (.aload_n 0, 1) := by decide +kernel
theorem dX7_reach_34 : decode cX7_reach 34 = .ok (.getfield 61, 3) := by decide +kernel
theorem dX7_reach_37 : decode cX7_reach 37 = .ok (.iload_n 2, 1) := by decide +kernel
theorem dX7_reach_38 : decode cX7_reach 38 = .ok (.aload_n 3, 1) := by decide +kernel
theorem dX7_reach_39 : decode cX7_reach 39 = .ok (.aastore, 1) := by decide +kernel
theorem dX7_reach_40 : decode cX7_reach 40 = .ok (.iload_n 2, 1) := by decide +kernel
theorem dX7_reach_41 : decode cX7_reach 41 = .ok (.iconst 1, 1) := by decide +kernel
theorem dX7_reach_42 : decode cX7_reach 42 = .ok (.iadd, 1) := by decide +kernel
theorem dX7_reach_43 : decode cX7_reach 43 = .ok (.ireturn, 1) := by decide +kernel
set_option maxRecDepth 20000 in
theorem ggX7_firstRefused_X4_startFrom : GoodIn wsX7_firstRefused wsX4_startFrom := goodIn_r _ [11, 12, 13, 14, 15, 16, 10, 17, 18, 19, 20, 21, 22, 23, 24, 25, 26, 27, 28, 29, 209, 210, 211, 212, 213, 214] (by decide +kernel) (by decide +kernel)
set_option maxRecDepth 20000 in
theorem gX7_firstRefused_X4_startFrom : GoodIn wsX7_firstRefused (wsV RX7 329 RX4 yX4_startFrom wsX4_startFrom) := goodIn_app (goodIn_of _ (by decide +kernel)) ggX7_firstRefused_X4_startFrom
set_option maxRecDepth 20000 in
theorem ggX7_firstRefused_X7_canDo : GoodIn wsX7_firstRefused wsX7_canDo := goodIn_r _ [34, 1, 35, 36, 37, 38, 2, 3, 39, 40, 4, 41, 42, 43, 44, 45, 10, 46, 12, 22, 47, 48, 49, 50, 23, 51, 52, 53, 54, 55, 56, 57, 33, 58, 59, 60, 61, 62, 63, 64, 65, 66, 67, 68, 69, 70, 71, 72, 73, 74, 75, 76, 77, 78, 79, 80, 81, 82, 83, 84, 85, 86, 87, 88, 89, 90, 91, 92, 93, 94, 95, 96, 97, 98, 99, 100, 101, 102, 103, 104, 105, 106, 107, 108, 109, 110, 111, 112, 113, 114, 115, 116, 117, 118, 24, 25, 119, 120, 121, 122, 123, 124, 125, 126, 127, 128, 129, 130, 131, 132, 133, 134, 135, 136, 137, 138, 139, 140, 141, 142, 143, 144, 145, 146, 147, 148, 149, 150, 151, 152, 153, 154, 155, 156, 157, 158, 159, 160, 161, 162, 163, 164, 191, 192, 193, 194, 195, 196, 197, 198, 199, 200, 201, 215, 216, 217, 218, 219, 220, 209, 210, 211, 212, 213, 214, 202, 203, 204, 205, 221, 222, 223, 224, 225, 206, 207, 208, 226, 227, 228, 229, 230, 231] (by decide +kernel) (by decide +kernel)
set_option maxRecDepth 20000 in
theorem gX7_firstRefused_X7_canDo : GoodIn wsX7_firstRefused (wsV RX7 332 RX7 yX7_canDo wsX7_canDo) := goodIn_app (goodIn_of _ (by decide +kernel)) ggX7_firstRefused_X7_canDo
set_option maxRecDepth 20000 in
theorem ggX7_firstRefused_X7_recordsMade : GoodIn wsX7_firstRefused wsX7_recordsMade := goodIn_r _ [168, 36, 4, 136, 137, 138, 139, 140, 141, 142, 143, 144, 145, 146, 147, 148, 215, 216, 217, 218, 219, 220, 191, 192, 193, 194, 195, 196, 197, 198, 199, 200, 201, 206, 207, 208, 226, 227, 228, 229, 230, 231] (by decide +kernel) (by decide +kernel)
set_option maxRecDepth 20000 in
theorem gX7_firstRefused_X7_recordsMade : GoodIn wsX7_firstRefused (wsV RX7 336 RX7 yX7_recordsMade wsX7_recordsMade) := goodIn_app (goodIn_of _ (by decide +kernel)) ggX7_firstRefused_X7_recordsMade
set_option maxRecDepth 20000 in
theorem ggX7_firstRefused_X7_reshape : GoodIn wsX7_firstRefused wsX7_reshape := goodIn_r _ [172, 1, 35, 36, 37, 40, 2, 42, 3, 43, 44, 45, 10, 46, 12, 22, 173, 174, 175, 176, 23, 24, 25, 13, 177, 178, 179, 180, 134, 33, 135, 181, 182, 183, 184, 51, 52, 53, 54, 185, 27, 28, 29, 186, 187, 188, 189, 47, 48, 49, 50, 190, 19, 20, 21, 26, 191, 192, 193, 194, 195, 196, 197, 198, 199, 200, 201, 215, 216, 217, 218, 219, 220, 209, 210, 211, 212, 213, 214, 202, 203, 204, 205] (by decide +kernel) (by decide +kernel)
set_option maxRecDepth 20000 in
theorem gX7_firstRefused_X7_reshape : GoodIn wsX7_firstRefused (wsV RX7 340 RX7 yX7_reshape wsX7_reshape) := goodIn_app (goodIn_of _ (by decide +kernel)) ggX7_firstRefused_X7_reshape
theorem dX7_firstRefused_0 : decode cX7_firstRefused 0 = .ok (.aload_n 0, 1) := by decide +kernel
theorem dX7_firstRefused_1 : decode cX7_firstRefused 1 = .ok (.getfield 48, 3) := by decide +kernel
theorem dX7_firstRefused_4 : decode cX7_firstRefused 4 = .ok (.aload_n 0, 1) := by decide +kernel
theorem dX7_firstRefused_5 : decode cX7_firstRefused 5 = .ok (.getfield 11, 3) := by decide +kernel
theorem dX7_firstRefused_8 : decode cX7_firstRefused 8 = .ok (.iload_n 1, 1) := by decide +kernel
theorem dX7_firstRefused_9 : decode cX7_firstRefused 9 = .ok (.aaload, 1) := by decide +kernel
theorem dX7_firstRefused_10 : decode cX7_firstRefused 10 = .ok (.getfield 115, 3) := by decide +kernel
theorem dX7_firstRefused_13 : decode cX7_firstRefused 13 = .ok (.invokevirtual 329, 3) := by decide +kernel
theorem dX7_firstRefused_16 : decode cX7_firstRefused 16 = .ok (.aload_n 0, 1) := by decide +kernel
theorem dX7_firstRefused_17 : decode cX7_firstRefused 17 = .ok (.getfield 19, 3) := by decide +kernel
theorem dX7_firstRefused_20 : decode cX7_firstRefused 20 = .ok (.getfield 82, 3) := by decide +kernel
theorem dX7_firstRefused_23 : decode cX7_firstRefused 23 = .ok (.istore_n 3, 1) := by decide +kernel
theorem dX7_firstRefused_24 : decode cX7_firstRefused 24 = .ok (.iconst 0, 1) := by decide +kernel
theorem dX7_firstRefused_25 : decode cX7_firstRefused 25 = .ok (.istore 4, 2) := by decide +kernel
theorem dX7_firstRefused_27 : decode cX7_firstRefused 27 = .ok (.iload 4, 2) := by decide +kernel
theorem dX7_firstRefused_29 : decode cX7_firstRefused 29 = .ok (.iload_n 2, 1) := by decide +kernel
theorem dX7_firstRefused_30 : decode cX7_firstRefused 30 = .ok (.if_icmp .ge 55, 3) := by decide +kernel
theorem dX7_firstRefused_33 : decode cX7_firstRefused 33 = .ok (.iload 4, 2) := by decide +kernel
theorem dX7_firstRefused_35 : decode cX7_firstRefused 35 = .ok (.bipush 6, 2) := by decide +kernel
theorem dX7_firstRefused_37 : decode cX7_firstRefused 37 = .ok (.if_icmp .ge 48, 3) := by decide +kernel
theorem dX7_firstRefused_40 : decode cX7_firstRefused 40 = .ok (.aload_n 0, 1) := by decide +kernel
theorem dX7_firstRefused_41 : decode cX7_firstRefused 41 = .ok (.getfield 36, 3) := by decide +kernel
theorem dX7_firstRefused_44 : decode cX7_firstRefused 44 = .ok (.iload 4, 2) := by decide +kernel
theorem dX7_firstRefused_46 : decode cX7_firstRefused 46 = .ok (.aaload, 1) := by decide +kernel
theorem dX7_firstRefused_47 : decode cX7_firstRefused 47 = .ok (.astore 5, 2) := by decide +kernel
theorem dX7_firstRefused_49 : decode cX7_firstRefused 49 = .ok (.aload_n 0, 1) := by decide +kernel
theorem dX7_firstRefused_50 : decode cX7_firstRefused 50 = .ok (.aload 5, 2) := by decide +kernel
theorem dX7_firstRefused_52 : decode cX7_firstRefused 52 = .ok (.iload_n 1, 1) := by decide +kernel
theorem dX7_firstRefused_53 : decode cX7_firstRefused 53 = .ok (.iload_n 3, 1) := by decide +kernel
theorem dX7_firstRefused_54 : decode cX7_firstRefused 54 = .ok (.invokevirtual 332, 3) := by decide +kernel
theorem dX7_firstRefused_57 : decode cX7_firstRefused 57 = .ok (.ifCond .ne 6, 3) := by decide +kernel
theorem dX7_firstRefused_60 : decode cX7_firstRefused 60 = .ok (.iload 4, 2) := by decide +kernel
theorem dX7_firstRefused_62 : decode cX7_firstRefused 62 = .ok (.ireturn, 1) := by decide +kernel
theorem dX7_firstRefused_63 : decode cX7_firstRefused 63 = .ok (.iload_n 3, 1) := by decide +kernel
theorem dX7_firstRefused_64 : decode cX7_firstRefused 64 = .ok (.aload_n 0, 1) := by decide +kernel
theorem dX7_firstRefused_65 : decode cX7_firstRefused 65 = .ok (.aload 5, 2) := by decide +kernel
theorem dX7_firstRefused_67 : decode cX7_firstRefused 67 = .ok (.iload_n 1, 1) := by decide +kernel
theorem dX7_firstRefused_68 : decode cX7_firstRefused 68 = .ok (.invokevirtual 336, 3) := by decide +kernel
theorem dX7_firstRefused_71 : decode cX7_firstRefused 71 = .ok (.iadd, 1) := by decide +kernel
theorem dX7_firstRefused_72 : decode cX7_firstRefused 72 = .ok (.istore_n 3, 1) := by decide +kernel
theorem dX7_firstRefused_73 : decode cX7_firstRefused 73 = .ok (.aload_n 0, 1) := by decide +kernel
theorem dX7_firstRefused_74 : decode cX7_firstRefused 74 = .ok (.aload 5, 2) := by decide +kernel
theorem dX7_firstRefused_76 : decode cX7_firstRefused 76 = .ok (.invokevirtual 340, 3) := by decide +kernel
theorem dX7_firstRefused_79 : decode cX7_firstRefused 79 = .ok (.iinc 4 1, 3) := by decide +kernel
theorem dX7_firstRefused_82 : decode cX7_firstRefused 82 = .ok (.goto (-55), 3) := by decide +kernel
theorem dX7_firstRefused_85 : decode cX7_firstRefused 85 = .ok (.iconst (-1), 1) := by decide +kernel
theorem dX7_firstRefused_86 : decode cX7_firstRefused 86 = .ok (.ireturn, 1) := by decide +kernel
set_option maxRecDepth 20000 in
theorem ggX7_recordsMade_X6_countOf : GoodIn wsX7_recordsMade wsX6_countOf := goodIn_r _ [7, 8, 9, 10, 11, 12, 13, 14, 15, 33, 34, 35, 36, 37, 38, 39, 40, 41] (by decide +kernel) (by decide +kernel)
set_option maxRecDepth 20000 in
theorem gX7_recordsMade_X6_countOf : GoodIn wsX7_recordsMade (wsV RX7 231 RX6 yX6_countOf wsX6_countOf) := goodIn_app (goodIn_of _ (by decide +kernel)) ggX7_recordsMade_X6_countOf
theorem dX7_recordsMade_0 : decode cX7_recordsMade 0 = .ok (.aload_n 1, 1) := by decide +kernel
theorem dX7_recordsMade_1 : decode cX7_recordsMade 1 = .ok (.getfield 344, 3) := by decide +kernel
theorem dX7_recordsMade_4 : decode cX7_recordsMade 4 = .ok (.iconst 5, 1) := by decide +kernel
theorem dX7_recordsMade_5 : decode cX7_recordsMade 5 = .ok (.if_icmp .ne 12, 3) := by decide +kernel
theorem dX7_recordsMade_8 : decode cX7_recordsMade 8 = .ok (.aload_n 0, 1) := by decide +kernel
theorem dX7_recordsMade_9 : decode cX7_recordsMade 9 = .ok (.getfield 19, 3) := by decide +kernel
theorem dX7_recordsMade_12 : decode cX7_recordsMade 12 = .ok (.iload_n 2, 1) := by decide +kernel
theorem dX7_recordsMade_13 : decode cX7_recordsMade 13 = .ok (.invokevirtual 231, 3) := by decide +kernel
theorem dX7_recordsMade_16 : decode cX7_recordsMade 16 = .ok (.ireturn, 1) := by decide +kernel
theorem dX7_recordsMade_17 : decode cX7_recordsMade 17 = .ok (.aload_n 1, 1) := by decide +kernel
theorem dX7_recordsMade_18 : decode cX7_recordsMade 18 = .ok (.getfield 344, 3) := by decide +kernel
theorem dX7_recordsMade_21 : decode cX7_recordsMade 21 = .ok (.bipush 6, 2) := by decide +kernel
theorem dX7_recordsMade_23 : decode cX7_recordsMade 23 = .ok (.if_icmp .ne 15, 3) := by decide +kernel
theorem dX7_recordsMade_26 : decode cX7_recordsMade 26 = .ok (.aload_n 0, 1) := by decide +kernel
theorem dX7_recordsMade_27 : decode cX7_recordsMade 27 = .ok (.getfield 19, 3) := by decide +kernel
theorem dX7_recordsMade_30 : decode cX7_recordsMade 30 = .ok (.iload_n 2, 1) := by decide +kernel
theorem dX7_recordsMade_31 : decode cX7_recordsMade 31 = .ok (.invokevirtual 231, 3) := by decide +kernel
theorem dX7_recordsMade_34 : decode cX7_recordsMade 34 = .ok (.ineg, 1) := by decide +kernel
theorem dX7_recordsMade_35 : decode cX7_recordsMade 35 = .ok (.goto 4, 3) := by decide +kernel
theorem dX7_recordsMade_38 : decode cX7_recordsMade 38 = .ok (.iconst 0, 1) := by decide +kernel
theorem dX7_recordsMade_39 : decode cX7_recordsMade 39 = .ok (.ireturn, 1) := by decide +kernel
set_option maxRecDepth 20000 in
theorem ggX7_canDo_X4_placeOf : GoodIn wsX7_canDo wsX4_placeOf := goodIn_r _ [17, 18, 19, 159, 160, 161, 162, 163, 164] (by decide +kernel) (by decide +kernel)
set_option maxRecDepth 20000 in
theorem gX7_canDo_X4_placeOf : GoodIn wsX7_canDo (wsV RX7 281 RX4 yX4_placeOf wsX4_placeOf) := goodIn_app (goodIn_of _ (by decide +kernel)) ggX7_canDo_X4_placeOf
set_option maxRecDepth 20000 in
theorem ggX7_canDo_X4_isOwning : GoodIn wsX7_canDo wsX4_isOwning := goodIn_r _ [23, 24, 25, 26, 27, 16, 28, 18, 159, 160, 161, 162, 163, 164] (by decide +kernel) (by decide +kernel)
set_option maxRecDepth 20000 in
theorem gX7_canDo_X4_isOwning : GoodIn wsX7_canDo (wsV RX7 133 RX4 yX4_isOwning wsX4_isOwning) := goodIn_app (goodIn_of _ (by decide +kernel)) ggX7_canDo_X4_isOwning
set_option maxRecDepth 20000 in
theorem ggX7_canDo_X7_formulaFits : GoodIn wsX7_canDo wsX7_formulaFits := goodIn_r _ [33, 34, 35, 36, 4, 37, 9, 38, 39, 40, 41, 42, 43, 44, 45, 46, 14, 15, 16, 17, 18, 19, 47, 48, 49, 50, 51, 52, 53, 54, 55, 56, 24, 25, 26, 27, 28, 57, 58, 59, 60, 61, 62, 63, 64, 65, 66, 67, 68, 69, 70, 71, 72, 73, 74, 75, 76, 77, 78, 79, 80, 81, 82, 83, 84, 85, 86, 87, 88, 142, 143, 144, 145, 146, 147, 148, 149, 150, 151, 152, 153, 154, 155, 156, 157, 158, 169, 170, 171, 172, 173, 159, 160, 161, 162, 163, 164] (by decide +kernel) (by decide +kernel)
set_option maxRecDepth 20000 in
theorem gX7_canDo_X7_formulaFits : GoodIn wsX7_canDo (wsV RX7 351 RX7 yX7_formulaFits wsX7_formulaFits) := goodIn_app (goodIn_of _ (by decide +kernel)) ggX7_canDo_X7_formulaFits
set_option maxRecDepth 20000 in
theorem ggX7_canDo_X4_isNumber : GoodIn wsX7_canDo wsX4_isNumber := goodIn_r _ [56, 24, 25, 26, 27, 16, 28, 18, 159, 160, 161, 162, 163, 164] (by decide +kernel) (by decide +kernel)
set_option maxRecDepth 20000 in
theorem gX7_canDo_X4_isNumber : GoodIn wsX7_canDo (wsV RX7 284 RX4 yX4_isNumber wsX4_isNumber) := goodIn_app (goodIn_of _ (by decide +kernel)) ggX7_canDo_X4_isNumber
set_option maxRecDepth 20000 in
theorem ggX7_canDo_X4_rangeIsWithin : GoodIn wsX7_canDo wsX4_rangeIsWithin := goodIn_r _ [93, 94, 95, 25, 26, 27, 16, 28, 18, 159, 160, 161, 162, 163, 164] (by decide +kernel) (by decide +kernel)
set_option maxRecDepth 20000 in
theorem gX7_canDo_X4_rangeIsWithin : GoodIn wsX7_canDo (wsV RX7 361 RX4 yX4_rangeIsWithin wsX4_rangeIsWithin) := goodIn_app (goodIn_of _ (by decide +kernel)) ggX7_canDo_X4_rangeIsWithin
set_option maxRecDepth 20000 in
theorem ggX7_canDo_X7_canSplit : GoodIn wsX7_canDo wsX7_canSplit := goodIn_r _ [99, 9, 5, 1, 100, 12, 101, 2, 102, 103, 104, 16, 105, 18, 24, 106, 107, 108, 109, 19, 13, 14, 15, 17, 89, 54, 55, 56, 25, 26, 27, 28, 90, 91, 92, 93, 94, 95, 110, 111, 32, 112, 153, 154, 155, 156, 157, 158, 159, 160, 161, 162, 163, 164, 142, 143, 144, 145, 146, 147, 148, 149, 150, 151, 152] (by decide +kernel) (by decide +kernel)
set_option maxRecDepth 20000 in
theorem gX7_canDo_X7_canSplit : GoodIn wsX7_canDo (wsV RX7 365 RX7 yX7_canSplit wsX7_canSplit) := goodIn_app (goodIn_of _ (by decide +kernel)) ggX7_canDo_X7_canSplit
set_option maxRecDepth 20000 in
theorem ggX7_canDo_X6_countOf : GoodIn wsX7_canDo wsX6_countOf := goodIn_r _ [117, 118, 119, 120, 121, 122, 123, 124, 125, 174, 175, 176, 177, 178, 179, 180, 181, 182] (by decide +kernel) (by decide +kernel)
set_option maxRecDepth 20000 in
theorem gX7_canDo_X6_countOf : GoodIn wsX7_canDo (wsV RX7 231 RX6 yX6_countOf wsX6_countOf) := goodIn_app (goodIn_of _ (by decide +kernel)) ggX7_canDo_X6_countOf
set_option maxRecDepth 20000 in
theorem ggX7_canDo_X7_canJoin : GoodIn wsX7_canDo wsX7_canJoin := goodIn_r _ [129, 1, 5, 100, 102, 103, 104, 16, 105, 18, 24, 13, 14, 15, 17, 19, 142, 143, 144, 145, 146, 147, 148, 149, 150, 151, 152, 159, 160, 161, 162, 163, 164] (by decide +kernel) (by decide +kernel)
set_option maxRecDepth 20000 in
theorem gX7_canDo_X7_canJoin : GoodIn wsX7_canDo (wsV RX7 371 RX7 yX7_canJoin wsX7_canJoin) := goodIn_app (goodIn_of _ (by decide +kernel)) ggX7_canDo_X7_canJoin
set_option maxRecDepth 20000 in
theorem ggX7_canDo_X7_someRootHolds : GoodIn wsX7_canDo wsX7_someRootHolds := goodIn_r _ [133, 10, 134, 135, 136, 120, 121, 122, 123, 124, 125, 137, 138, 139, 32, 140, 141, 142, 143, 144, 145, 146, 147, 148, 149, 150, 151, 152, 174, 175, 176, 177, 178, 179, 180, 181, 182] (by decide +kernel) (by decide +kernel)
set_option maxRecDepth 20000 in
theorem gX7_canDo_X7_someRootHolds : GoodIn wsX7_canDo (wsV RX7 375 RX7 yX7_someRootHolds wsX7_someRootHolds) := goodIn_app (goodIn_of _ (by decide +kernel)) ggX7_canDo_X7_someRootHolds
theorem dX7_canDo_0 : decode cX7_canDo 0 = .ok (.aload_n 0, 1) := by decide +kernel
theorem dX7_canDo_1 : decode cX7_canDo 1 = .ok (.getfield 48, 3) := by decide +kernel
theorem dX7_canDo_4 : decode cX7_canDo 4 = .ok (.aload_n 1, 1) := by decide +kernel
theorem dX7_canDo_5 : decode cX7_canDo 5 = .ok (.getfield 345, 3) := by decide +kernel
theorem dX7_canDo_8 : decode cX7_canDo 8 = .ok (.invokevirtual 281, 3) := by decide +kernel
theorem dX7_canDo_11 : decode cX7_canDo 11 = .ok (.istore 4, 2) := by decide +kernel
theorem dX7_canDo_13 : decode cX7_canDo 13 = .ok (.aload_n 1, 1) := by decide +kernel
theorem dX7_canDo_14 : decode cX7_canDo 14 = .ok (.getfield 344, 3) := by decide +kernel
theorem dX7_canDo_17 : decode cX7_canDo 17 = .ok (.tableswitch 331 0 6 #[43, 67, 94, 135, 181, 205, 254], 43) := by decide +kernel
theorem dX7_canDo_60 : decode cX7_canDo 60 = .ok (.iload 4, 2) := by decide +kernel
theorem dX7_canDo_62 : decode cX7_canDo 62 = .ok (.iconst (-1), 1) := by decide +kernel
theorem dX7_canDo_63 : decode cX7_canDo 63 = .ok (.if_icmp .eq 19, 3) := by decide +kernel
theorem dX7_canDo_66 : decode cX7_canDo 66 = .ok (.aload_n 0, 1) := by decide +kernel
theorem dX7_canDo_67 : decode cX7_canDo 67 = .ok (.getfield 48, 3) := by decide +kernel
theorem dX7_canDo_70 : decode cX7_canDo 70 = .ok (.iload 4, 2) := by decide +kernel
theorem dX7_canDo_72 : decode cX7_canDo 72 = .ok (.invokevirtual 133, 3) := by decide +kernel
theorem dX7_canDo_75 : decode cX7_canDo 75 = .ok (.ifCond .ne 7, 3) := by decide +kernel
theorem dX7_canDo_78 : decode cX7_canDo 78 = .ok (.iconst 1, 1) := by decide +kernel
theorem dX7_canDo_79 : decode cX7_canDo 79 = .ok (.goto 4, 3) := by decide +kernel
theorem dX7_canDo_82 : decode cX7_canDo 82 = .ok (.iconst 0, 1) := by decide +kernel
theorem dX7_canDo_83 : decode cX7_canDo 83 = .ok (.ireturn, 1) := by decide +kernel
theorem dX7_canDo_84 : decode cX7_canDo 84 = .ok (.iload 4, 2) := by decide +kernel
theorem dX7_canDo_86 : decode cX7_canDo 86 = .ok (.iconst (-1), 1) := by decide +kernel
theorem dX7_canDo_87 : decode cX7_canDo 87 = .ok (.if_icmp .eq 22, 3) := by decide +kernel
theorem dX7_canDo_90 : decode cX7_canDo 90 = .ok (.aload_n 0, 1) := by decide +kernel
theorem dX7_canDo_91 : decode cX7_canDo 91 = .ok (.getfield 48, 3) := by decide +kernel
theorem dX7_canDo_94 : decode cX7_canDo 94 = .ok (.aload_n 1, 1) := by decide +kernel
theorem dX7_canDo_95 : decode cX7_canDo 95 = .ok (.getfield 348, 3) := by decide +kernel
theorem dX7_canDo_98 : decode cX7_canDo 98 = .ok (.invokevirtual 281, 3) := by decide +kernel
theorem dX7_canDo_101 : decode cX7_canDo 101 = .ok (.iconst (-1), 1) := by decide +kernel
theorem dX7_canDo_102 : decode cX7_canDo 102 = .ok (.if_icmp .ne 7, 3) := by decide +kernel
theorem dX7_canDo_105 : decode cX7_canDo 105 = .ok (.iconst 1, 1) := by decide +kernel
theorem dX7_canDo_106 : decode cX7_canDo 106 = .ok (.goto 4, 3) := by decide +kernel
theorem dX7_canDo_109 : decode cX7_canDo 109 = .ok (.iconst 0, 1) := by decide +kernel
theorem dX7_canDo_110 : decode cX7_canDo 110 = .ok (.ireturn, 1) := by decide +kernel
theorem dX7_canDo_111 : decode cX7_canDo 111 = .ok (.iload 4, 2) := by decide +kernel
theorem dX7_canDo_113 : decode cX7_canDo 113 = .ok (.iconst (-1), 1) := by decide +kernel
theorem dX7_canDo_114 : decode cX7_canDo 114 = .ok (.if_icmp .ne 36, 3) := by decide +kernel
theorem dX7_canDo_117 : decode cX7_canDo 117 = .ok (.aload_n 0, 1) := by decide +kernel
theorem dX7_canDo_118 : decode cX7_canDo 118 = .ok (.getfield 48, 3) := by decide +kernel
theorem dX7_canDo_121 : decode cX7_canDo 121 = .ok (.getfield 238, 3) := by decide +kernel
theorem dX7_canDo_124 : decode cX7_canDo 124 = .ok (.bipush 6, 2) := by decide +kernel
theorem dX7_canDo_126 : decode cX7_canDo 126 = .ok (.if_icmp .ge 24, 3) := by decide +kernel
theorem dX7_canDo_129 : decode cX7_canDo 129 = .ok (.aload_n 0, 1) := by decide +kernel
theorem dX7_canDo_130 : decode cX7_canDo 130 = .ok (.aload_n 1, 1) := by decide +kernel
theorem dX7_canDo_131 : decode cX7_canDo 131 = .ok (.aload_n 0, 1) := by decide +kernel
theorem dX7_canDo_132 : decode cX7_canDo 132 = .ok (.getfield 11, 3) := by decide +kernel
theorem dX7_canDo_135 : decode cX7_canDo 135 = .ok (.iload_n 2, 1) := by decide +kernel
theorem dX7_canDo_136 : decode cX7_canDo 136 = .ok (.aaload, 1) := by decide +kernel
theorem dX7_canDo_137 : decode cX7_canDo 137 = .ok (.getfield 115, 3) := by decide +kernel
theorem dX7_canDo_140 : decode cX7_canDo 140 = .ok (.invokevirtual 351, 3) := by decide +kernel
theorem dX7_canDo_143 : decode cX7_canDo 143 = .ok (.ifCond .eq 7, 3) := by decide +kernel
theorem dX7_canDo_146 : decode cX7_canDo 146 = .ok (.iconst 1, 1) := by decide +kernel
theorem dX7_canDo_147 : decode cX7_canDo 147 = .ok (.goto 4, 3) := by decide +kernel
theorem dX7_canDo_150 : decode cX7_canDo 150 = .ok (.iconst 0, 1) := by decide +kernel
theorem dX7_canDo_151 : decode cX7_canDo 151 = .ok (.ireturn, 1) := by decide +kernel
theorem dX7_canDo_152 : decode cX7_canDo 152 = .ok (.aload_n 0, 1) := by decide +kernel
theorem dX7_canDo_153 : decode cX7_canDo 153 = .ok (.getfield 48, 3) := by decide +kernel
theorem dX7_canDo_156 : decode cX7_canDo 156 = .ok (.iload 4, 2) := by decide +kernel
theorem dX7_canDo_158 : decode cX7_canDo 158 = .ok (.invokevirtual 284, 3) := by decide +kernel
theorem dX7_canDo_161 : decode cX7_canDo 161 = .ok (.ifCond .eq 35, 3) := by decide +kernel
theorem dX7_canDo_164 : decode cX7_canDo 164 = .ok (.aload_n 1, 1) := by decide +kernel
theorem dX7_canDo_165 : decode cX7_canDo 165 = .ok (.getfield 355, 3) := by decide +kernel
theorem dX7_canDo_168 : decode cX7_canDo 168 = .ok (.iconst 1, 1) := by decide +kernel
theorem dX7_canDo_169 : decode cX7_canDo 169 = .ok (.if_icmp .eq 23, 3) := by decide +kernel
theorem dX7_canDo_172 : decode cX7_canDo 172 = .ok (.aload_n 0, 1) := by decide +kernel
theorem dX7_canDo_173 : decode cX7_canDo 173 = .ok (.getfield 48, 3) := by decide +kernel
theorem dX7_canDo_176 : decode cX7_canDo 176 = .ok (.iload 4, 2) := by decide +kernel
theorem dX7_canDo_178 : decode cX7_canDo 178 = .ok (.aload_n 1, 1) := by decide +kernel
theorem dX7_canDo_179 : decode cX7_canDo 179 = .ok (.getfield 348, 3) := by decide +kernel
theorem dX7_canDo_182 : decode cX7_canDo 182 = .ok (.aload_n 1, 1) := by decide +kernel
theorem dX7_canDo_183 : decode cX7_canDo 183 = .ok (.getfield 358, 3) := by decide +kernel
theorem dX7_canDo_186 : decode cX7_canDo 186 = .ok (.invokevirtual 361, 3) := by decide +kernel
theorem dX7_canDo_189 : decode cX7_canDo 189 = .ok (.ifCond .eq 7, 3) := by decide +kernel
theorem dX7_canDo_192 : decode cX7_canDo 192 = .ok (.iconst 1, 1) := by decide +kernel
theorem dX7_canDo_193 : decode cX7_canDo 193 = .ok (.goto 4, 3) := by decide +kernel
theorem dX7_canDo_196 : decode cX7_canDo 196 = .ok (.iconst 0, 1) := by decide +kernel
theorem dX7_canDo_197 : decode cX7_canDo 197 = .ok (.ireturn, 1) := by decide +kernel
theorem dX7_canDo_198 : decode cX7_canDo 198 = .ok (.iload 4, 2) := by decide +kernel
theorem dX7_canDo_200 : decode cX7_canDo 200 = .ok (.iconst (-1), 1) := by decide +kernel
theorem dX7_canDo_201 : decode cX7_canDo 201 = .ok (.if_icmp .ne 19, 3) := by decide +kernel
theorem dX7_canDo_204 : decode cX7_canDo 204 = .ok (.aload_n 0, 1) := by decide +kernel
theorem dX7_canDo_205 : decode cX7_canDo 205 = .ok (.getfield 48, 3) := by decide +kernel
theorem dX7_canDo_208 : decode cX7_canDo 208 = .ok (.getfield 238, 3) := by decide +kernel
theorem dX7_canDo_211 : decode cX7_canDo 211 = .ok (.bipush 6, 2) := by decide +kernel
theorem dX7_canDo_213 : decode cX7_canDo 213 = .ok (.if_icmp .ge 7, 3) := by decide +kernel
theorem dX7_canDo_216 : decode cX7_canDo 216 = .ok (.iconst 1, 1) := by decide +kernel
theorem dX7_canDo_217 : decode cX7_canDo 217 = .ok (.goto 4, 3) := by decide +kernel
theorem dX7_canDo_220 : decode cX7_canDo 220 = .ok (.iconst 0, 1) := by decide +kernel
theorem dX7_canDo_221 : decode cX7_canDo 221 = .ok (.ireturn, 1) := by decide +kernel
theorem dX7_canDo_222 : decode cX7_canDo 222 = .ok (.aload_n 1, 1) := by decide +kernel
theorem dX7_canDo_223 : decode cX7_canDo 223 = .ok (.getfield 348, 3) := by decide +kernel
theorem dX7_canDo_226 : decode cX7_canDo 226 = .ok (.iload_n 2, 1) := by decide +kernel
theorem dX7_canDo_227 : decode cX7_canDo 227 = .ok (.if_icmp .eq 42, 3) := by decide +kernel
theorem dX7_canDo_230 : decode cX7_canDo 230 = .ok (.aload_n 0, 1) := by decide +kernel
theorem dX7_canDo_231 : decode cX7_canDo 231 = .ok (.aload_n 1, 1) := by decide +kernel
theorem dX7_canDo_232 : decode cX7_canDo 232 = .ok (.aload_n 0, 1) := by decide +kernel
theorem dX7_canDo_233 : decode cX7_canDo 233 = .ok (.getfield 11, 3) := by decide +kernel
theorem dX7_canDo_236 : decode cX7_canDo 236 = .ok (.aload_n 1, 1) := by decide +kernel
theorem dX7_canDo_237 : decode cX7_canDo 237 = .ok (.getfield 348, 3) := by decide +kernel
theorem dX7_canDo_240 : decode cX7_canDo 240 = .ok (.aaload, 1) := by decide +kernel
theorem dX7_canDo_241 : decode cX7_canDo 241 = .ok (.getfield 115, 3) := by decide +kernel
theorem dX7_canDo_244 : decode cX7_canDo 244 = .ok (.invokevirtual 365, 3) := by decide +kernel
theorem dX7_canDo_247 : decode cX7_canDo 247 = .ok (.ifCond .eq 22, 3) := by decide +kernel
theorem dX7_canDo_250 : decode cX7_canDo 250 = .ok (.iload_n 3, 1) := by decide +kernel
theorem dX7_canDo_251 : decode cX7_canDo 251 = .ok (.aload_n 0, 1) := by decide +kernel
theorem dX7_canDo_252 : decode cX7_canDo 252 = .ok (.getfield 19, 3) := by decide +kernel
theorem dX7_canDo_255 : decode cX7_canDo 255 = .ok (.iload_n 2, 1) := by decide +kernel
theorem dX7_canDo_256 : decode cX7_canDo 256 = .ok (.invokevirtual 231, 3) := by decide +kernel
theorem dX7_canDo_259 : decode cX7_canDo 259 = .ok (.iadd, 1) := by decide +kernel
theorem dX7_canDo_260 : decode cX7_canDo 260 = .ok (.bipush 24, 2) := by decide +kernel
theorem dX7_canDo_262 : decode cX7_canDo 262 = .ok (.if_icmp .gt 7, 3) := by decide +kernel
theorem dX7_canDo_265 : decode cX7_canDo 265 = .ok (.iconst 1, 1) := by decide +kernel
theorem dX7_canDo_266 : decode cX7_canDo 266 = .ok (.goto 4, 3) := by decide +kernel
theorem dX7_canDo_269 : decode cX7_canDo 269 = .ok (.iconst 0, 1) := by decide +kernel
theorem dX7_canDo_270 : decode cX7_canDo 270 = .ok (.ireturn, 1) := by decide +kernel
theorem dX7_canDo_271 : decode cX7_canDo 271 = .ok (.aload_n 0, 1) := by decide +kernel
theorem dX7_canDo_272 : decode cX7_canDo 272 = .ok (.getfield 48, 3) := by decide +kernel
theorem dX7_canDo_275 : decode cX7_canDo 275 = .ok (.iload 4, 2) := by decide +kernel
theorem dX7_canDo_277 : decode cX7_canDo 277 = .ok (.invokevirtual 133, 3) := by decide +kernel
theorem dX7_canDo_280 : decode cX7_canDo 280 = .ok (.ifCond .eq 66, 3) := by decide +kernel
theorem dX7_canDo_283 : decode cX7_canDo 283 = .ok (.aload_n 0, 1) := by decide +kernel
theorem dX7_canDo_284 : decode cX7_canDo 284 = .ok (.getfield 48, 3) := by decide +kernel
theorem dX7_canDo_287 : decode cX7_canDo 287 = .ok (.getfield 368, 3) := by decide +kernel
theorem dX7_canDo_290 : decode cX7_canDo 290 = .ok (.iload 4, 2) := by decide +kernel
theorem dX7_canDo_292 : decode cX7_canDo 292 = .ok (.iaload, 1) := by decide +kernel
theorem dX7_canDo_293 : decode cX7_canDo 293 = .ok (.iconst (-1), 1) := by decide +kernel
theorem dX7_canDo_294 : decode cX7_canDo 294 = .ok (.if_icmp .eq 52, 3) := by decide +kernel
theorem dX7_canDo_297 : decode cX7_canDo 297 = .ok (.aload_n 0, 1) := by decide +kernel
theorem dX7_canDo_298 : decode cX7_canDo 298 = .ok (.iload 4, 2) := by decide +kernel
theorem dX7_canDo_300 : decode cX7_canDo 300 = .ok (.aload_n 0, 1) := by decide +kernel
theorem dX7_canDo_301 : decode cX7_canDo 301 = .ok (.getfield 11, 3) := by decide +kernel
theorem dX7_canDo_304 : decode cX7_canDo 304 = .ok (.aload_n 0, 1) := by decide +kernel
theorem dX7_canDo_305 : decode cX7_canDo 305 = .ok (.getfield 48, 3) := by decide +kernel
theorem dX7_canDo_308 : decode cX7_canDo 308 = .ok (.getfield 118, 3) := by decide +kernel
theorem dX7_canDo_311 : decode cX7_canDo 311 = .ok (.iload 4, 2) := by decide +kernel
theorem dX7_canDo_313 : decode cX7_canDo 313 = .ok (.iaload, 1) := by decide +kernel
theorem dX7_canDo_314 : decode cX7_canDo 314 = .ok (.aaload, 1) := by decide +kernel
theorem dX7_canDo_315 : decode cX7_canDo 315 = .ok (.getfield 115, 3) := by decide +kernel
theorem dX7_canDo_318 : decode cX7_canDo 318 = .ok (.invokevirtual 371, 3) := by decide +kernel
theorem dX7_canDo_321 : decode cX7_canDo 321 = .ok (.ifCond .eq 25, 3) := by decide +kernel
theorem dX7_canDo_324 : decode cX7_canDo 324 = .ok (.aload_n 0, 1) := by decide +kernel
theorem dX7_canDo_325 : decode cX7_canDo 325 = .ok (.iload_n 2, 1) := by decide +kernel
theorem dX7_canDo_326 : decode cX7_canDo 326 = .ok (.aload_n 0, 1) := by decide +kernel
theorem dX7_canDo_327 : decode cX7_canDo 327 = .ok (.getfield 48, 3) := by decide +kernel
theorem dX7_canDo_330 : decode cX7_canDo 330 = .ok (.getfield 368, 3) := by decide +kernel
theorem dX7_canDo_333 : decode cX7_canDo 333 = .ok (.iload 4, 2) := by decide +kernel
theorem dX7_canDo_335 : decode cX7_canDo 335 = .ok (.iaload, 1) := by decide +kernel
theorem dX7_canDo_336 : decode cX7_canDo 336 = .ok (.invokevirtual 375, 3) := by decide +kernel
theorem dX7_canDo_339 : decode cX7_canDo 339 = .ok (.ifCond .ne 7, 3) := by decide +kernel
theorem dX7_canDo_342 : decode cX7_canDo 342 = .ok (.iconst 1, 1) := by decide +kernel
theorem dX7_canDo_343 : decode cX7_canDo 343 = .ok (.goto 4, 3) := by decide +kernel
theorem dX7_canDo_346 : decode cX7_canDo 346 = .ok (.iconst 0, 1) := by decide +kernel
theorem dX7_canDo_347 : decode cX7_canDo 347 = .ok (.ireturn, 1) := by decide +kernel
theorem dX7_canDo_348 : decode cX7_canDo 348 = .ok (.iconst 0, 1) := by decide +kernel
theorem dX7_canDo_349 : decode cX7_canDo 349 = .ok (.ireturn, 1) := by decide +kernel
set_option maxRecDepth 20000 in
theorem ggX7_formulaFits_X3_reckon : GoodIn wsX7_formulaFits wsX3_reckon := goodIn_r _ [11, 12, 13, 14, 15, 16, 17, 18, 19, 20, 21, 22, 23, 24, 10, 25, 26, 27, 28, 29, 30, 31, 32, 33, 34, 35, 36, 37, 38, 39, 40, 41, 42, 43, 44, 45, 46, 47, 48, 49, 50, 51, 52, 53, 54, 55, 56, 57, 58, 59, 60, 61, 62, 63, 64, 65, 66, 67, 68, 86, 87, 88, 89, 90, 91, 92, 93, 94, 95, 96] (by decide +kernel) (by decide +kernel)
set_option maxRecDepth 20000 in
theorem gX7_formulaFits_X3_reckon : GoodIn wsX7_formulaFits (wsV RX7 378 RX3 yX3_reckon wsX3_reckon) := goodIn_app (goodIn_of _ (by decide +kernel)) ggX7_formulaFits_X3_reckon
theorem dX7_formulaFits_0 : decode cX7_formulaFits 0 = .ok (.aload_n 0, 1) := by decide +kernel
theorem dX7_formulaFits_1 : decode cX7_formulaFits 1 = .ok (.getfield 55, 3) := by decide +kernel
theorem dX7_formulaFits_4 : decode cX7_formulaFits 4 = .ok (.aload_n 1, 1) := by decide +kernel
theorem dX7_formulaFits_5 : decode cX7_formulaFits 5 = .ok (.getfield 174, 3) := by decide +kernel
theorem dX7_formulaFits_8 : decode cX7_formulaFits 8 = .ok (.aload_n 2, 1) := by decide +kernel
theorem dX7_formulaFits_9 : decode cX7_formulaFits 9 = .ok (.aconst_null, 1) := by decide +kernel
theorem dX7_formulaFits_10 : decode cX7_formulaFits 10 = .ok (.invokevirtual 378, 3) := by decide +kernel
theorem dX7_formulaFits_13 : decode cX7_formulaFits 13 = .ok (.ifCond .eq 43, 3) := by decide +kernel
theorem dX7_formulaFits_16 : decode cX7_formulaFits 16 = .ok (.aload_n 0, 1) := by decide +kernel
theorem dX7_formulaFits_17 : decode cX7_formulaFits 17 = .ok (.getfield 55, 3) := by decide +kernel
theorem dX7_formulaFits_20 : decode cX7_formulaFits 20 = .ok (.getfield 382, 3) := by decide +kernel
theorem dX7_formulaFits_23 : decode cX7_formulaFits 23 = .ok (.iconst 0, 1) := by decide +kernel
theorem dX7_formulaFits_24 : decode cX7_formulaFits 24 = .ok (.laload, 1) := by decide +kernel
theorem dX7_formulaFits_25 : decode cX7_formulaFits 25 = .ok (.aload_n 1, 1) := by decide +kernel
theorem dX7_formulaFits_26 : decode cX7_formulaFits 26 = .ok (.getfield 348, 3) := by decide +kernel
theorem dX7_formulaFits_29 : decode cX7_formulaFits 29 = .ok (.i2l, 1) := by decide +kernel
theorem dX7_formulaFits_30 : decode cX7_formulaFits 30 = .ok (.lcmp, 1) := by decide +kernel
theorem dX7_formulaFits_31 : decode cX7_formulaFits 31 = .ok (.ifCond .lt 25, 3) := by decide +kernel
theorem dX7_formulaFits_34 : decode cX7_formulaFits 34 = .ok (.aload_n 0, 1) := by decide +kernel
theorem dX7_formulaFits_35 : decode cX7_formulaFits 35 = .ok (.getfield 55, 3) := by decide +kernel
theorem dX7_formulaFits_38 : decode cX7_formulaFits 38 = .ok (.getfield 385, 3) := by decide +kernel
theorem dX7_formulaFits_41 : decode cX7_formulaFits 41 = .ok (.iconst 0, 1) := by decide +kernel
theorem dX7_formulaFits_42 : decode cX7_formulaFits 42 = .ok (.laload, 1) := by decide +kernel
theorem dX7_formulaFits_43 : decode cX7_formulaFits 43 = .ok (.aload_n 1, 1) := by decide +kernel
theorem dX7_formulaFits_44 : decode cX7_formulaFits 44 = .ok (.getfield 358, 3) := by decide +kernel
theorem dX7_formulaFits_47 : decode cX7_formulaFits 47 = .ok (.i2l, 1) := by decide +kernel
theorem dX7_formulaFits_48 : decode cX7_formulaFits 48 = .ok (.lcmp, 1) := by decide +kernel
theorem dX7_formulaFits_49 : decode cX7_formulaFits 49 = .ok (.ifCond .gt 7, 3) := by decide +kernel
theorem dX7_formulaFits_52 : decode cX7_formulaFits 52 = .ok (.iconst 1, 1) := by decide +kernel
theorem dX7_formulaFits_53 : decode cX7_formulaFits 53 = .ok (.goto 4, 3) := by decide +kernel
theorem dX7_formulaFits_56 : decode cX7_formulaFits 56 = .ok (.iconst 0, 1) := by decide +kernel
theorem dX7_formulaFits_57 : decode cX7_formulaFits 57 = .ok (.ireturn, 1) := by decide +kernel
set_option maxRecDepth 20000 in
theorem ggX7_canSplit_X4_hasReferences : GoodIn wsX7_canSplit wsX4_hasReferences := goodIn_r _ [12, 13, 14, 48, 49, 50, 51, 52, 53] (by decide +kernel) (by decide +kernel)
set_option maxRecDepth 20000 in
theorem gX7_canSplit_X4_hasReferences : GoodIn wsX7_canSplit (wsV RX7 387 RX4 yX4_hasReferences wsX4_hasReferences) := goodIn_app (goodIn_of _ (by decide +kernel)) ggX7_canSplit_X4_hasReferences
set_option maxRecDepth 20000 in
theorem ggX7_canSplit_X4_nameSet : GoodIn wsX7_canSplit wsX4_nameSet := goodIn_r _ [18, 13, 19, 48, 49, 50, 51, 52, 53] (by decide +kernel) (by decide +kernel)
set_option maxRecDepth 20000 in
theorem gX7_canSplit_X4_nameSet : GoodIn wsX7_canSplit (wsV RX7 390 RX4 yX4_nameSet wsX4_nameSet) := goodIn_app (goodIn_of _ (by decide +kernel)) ggX7_canSplit_X4_nameSet
set_option maxRecDepth 20000 in
theorem ggX7_canSplit_X4_placeOf : GoodIn wsX7_canSplit wsX4_placeOf := goodIn_r _ [23, 13, 19, 48, 49, 50, 51, 52, 53] (by decide +kernel) (by decide +kernel)
set_option maxRecDepth 20000 in
theorem gX7_canSplit_X4_placeOf : GoodIn wsX7_canSplit (wsV RX7 281 RX4 yX4_placeOf wsX4_placeOf) := goodIn_app (goodIn_of _ (by decide +kernel)) ggX7_canSplit_X4_placeOf
set_option maxRecDepth 20000 in
theorem ggX7_canSplit_X4_isNumber : GoodIn wsX7_canSplit wsX4_isNumber := goodIn_r _ [27, 14, 28, 29, 30, 11, 31, 13, 48, 49, 50, 51, 52, 53] (by decide +kernel) (by decide +kernel)
set_option maxRecDepth 20000 in
theorem gX7_canSplit_X4_isNumber : GoodIn wsX7_canSplit (wsV RX7 284 RX4 yX4_isNumber wsX4_isNumber) := goodIn_app (goodIn_of _ (by decide +kernel)) ggX7_canSplit_X4_isNumber
set_option maxRecDepth 20000 in
theorem ggX7_canSplit_X4_rangeIsWithin : GoodIn wsX7_canSplit wsX4_rangeIsWithin := goodIn_r _ [35, 36, 37, 28, 29, 30, 11, 31, 13, 48, 49, 50, 51, 52, 53] (by decide +kernel) (by decide +kernel)
set_option maxRecDepth 20000 in
theorem gX7_canSplit_X4_rangeIsWithin : GoodIn wsX7_canSplit (wsV RX7 361 RX4 yX4_rangeIsWithin wsX4_rangeIsWithin) := goodIn_app (goodIn_of _ (by decide +kernel)) ggX7_canSplit_X4_rangeIsWithin
set_option maxRecDepth 20000 in
theorem ggX7_canSplit_X7_isIn : GoodIn wsX7_canSplit wsX7_isIn := goodIn_r _ [41] (by decide +kernel) (by decide +kernel)
set_option maxRecDepth 20000 in
theorem gX7_canSplit_X7_isIn : GoodIn wsX7_canSplit (va_wsS RX7 394 yX7_isIn wsX7_isIn) := goodIn_app (goodIn_of _ (by decide +kernel)) ggX7_canSplit_X7_isIn
theorem dX7_canSplit_0 : decode cX7_canSplit 0 = .ok (.aload_n 2, 1) := by decide +kernel
theorem dX7_canSplit_1 : decode cX7_canSplit 1 = .ok (.invokevirtual 387, 3) := by decide +kernel
theorem dX7_canSplit_4 : decode cX7_canSplit 4 = .ok (.ifCond .ne 14, 3) := by decide +kernel
theorem dX7_canSplit_7 : decode cX7_canSplit 7 = .ok (.aload_n 2, 1) := by decide +kernel
theorem dX7_canSplit_8 : decode cX7_canSplit 8 = .ok (.invokevirtual 390, 3) := by decide +kernel
theorem dX7_canSplit_11 : decode cX7_canSplit 11 = .ok (.aload_n 1, 1) := by decide +kernel
theorem dX7_canSplit_12 : decode cX7_canSplit 12 = .ok (.getfield 358, 3) := by decide +kernel
theorem dX7_canSplit_15 : decode cX7_canSplit 15 = .ok (.if_icmp .eq 5, 3) := by decide +kernel
theorem dX7_canSplit_18 : decode cX7_canSplit 18 = .ok (.iconst 0, 1) := by decide +kernel
theorem dX7_canSplit_19 : decode cX7_canSplit 19 = .ok (.ireturn, 1) := by decide +kernel
theorem dX7_canSplit_20 : decode cX7_canSplit 20 = .ok (.iconst 0, 1) := by decide +kernel
theorem dX7_canSplit_21 : decode cX7_canSplit 21 = .ok (.istore_n 3, 1) := by decide +kernel
theorem dX7_canSplit_22 : decode cX7_canSplit 22 = .ok (.iload_n 3, 1) := by decide +kernel
theorem dX7_canSplit_23 : decode cX7_canSplit 23 = .ok (.aload_n 2, 1) := by decide +kernel
theorem dX7_canSplit_24 : decode cX7_canSplit 24 = .ok (.getfield 238, 3) := by decide +kernel
theorem dX7_canSplit_27 : decode cX7_canSplit 27 = .ok (.if_icmp .ge 62, 3) := by decide +kernel
theorem dX7_canSplit_30 : decode cX7_canSplit 30 = .ok (.aload_n 0, 1) := by decide +kernel
theorem dX7_canSplit_31 : decode cX7_canSplit 31 = .ok (.getfield 48, 3) := by decide +kernel
theorem dX7_canSplit_34 : decode cX7_canSplit 34 = .ok (.aload_n 2, 1) := by decide +kernel
theorem dX7_canSplit_35 : decode cX7_canSplit 35 = .ok (.getfield 246, 3) := by decide +kernel
theorem dX7_canSplit_38 : decode cX7_canSplit 38 = .ok (.iload_n 3, 1) := by decide +kernel
theorem dX7_canSplit_39 : decode cX7_canSplit 39 = .ok (.iaload, 1) := by decide +kernel
theorem dX7_canSplit_40 : decode cX7_canSplit 40 = .ok (.invokevirtual 281, 3) := by decide +kernel
theorem dX7_canSplit_43 : decode cX7_canSplit 43 = .ok (.istore 4, 2) := by decide +kernel
theorem dX7_canSplit_45 : decode cX7_canSplit 45 = .ok (.aload_n 0, 1) := by decide +kernel
theorem dX7_canSplit_46 : decode cX7_canSplit 46 = .ok (.getfield 48, 3) := by decide +kernel
theorem dX7_canSplit_49 : decode cX7_canSplit 49 = .ok (.iload 4, 2) := by decide +kernel
theorem dX7_canSplit_51 : decode cX7_canSplit 51 = .ok (.invokevirtual 284, 3) := by decide +kernel
theorem dX7_canSplit_54 : decode cX7_canSplit 54 = .ok (.ifCond .eq 27, 3) := by decide +kernel
theorem dX7_canSplit_57 : decode cX7_canSplit 57 = .ok (.aload_n 0, 1) := by decide +kernel
theorem dX7_canSplit_58 : decode cX7_canSplit 58 = .ok (.getfield 48, 3) := by decide +kernel
theorem dX7_canSplit_61 : decode cX7_canSplit 61 = .ok (.iload 4, 2) := by decide +kernel
theorem dX7_canSplit_63 : decode cX7_canSplit 63 = .ok (.aload_n 2, 1) := by decide +kernel
theorem dX7_canSplit_64 : decode cX7_canSplit 64 = .ok (.getfield 118, 3) := by decide +kernel
theorem dX7_canSplit_67 : decode cX7_canSplit 67 = .ok (.iload_n 3, 1) := by decide +kernel
theorem dX7_canSplit_68 : decode cX7_canSplit 68 = .ok (.iaload, 1) := by decide +kernel
theorem dX7_canSplit_69 : decode cX7_canSplit 69 = .ok (.aload_n 2, 1) := by decide +kernel
theorem dX7_canSplit_70 : decode cX7_canSplit 70 = .ok (.getfield 121, 3) := by decide +kernel
theorem dX7_canSplit_73 : decode cX7_canSplit 73 = .ok (.iload_n 3, 1) := by decide +kernel
theorem dX7_canSplit_74 : decode cX7_canSplit 74 = .ok (.iaload, 1) := by decide +kernel
theorem dX7_canSplit_75 : decode cX7_canSplit 75 = .ok (.invokevirtual 361, 3) := by decide +kernel
theorem dX7_canSplit_78 : decode cX7_canSplit 78 = .ok (.ifCond .ne 5, 3) := by decide +kernel
theorem dX7_canSplit_81 : decode cX7_canSplit 81 = .ok (.iconst 0, 1) := by decide +kernel
theorem dX7_canSplit_82 : decode cX7_canSplit 82 = .ok (.ireturn, 1) := by decide +kernel
theorem dX7_canSplit_83 : decode cX7_canSplit 83 = .ok (.iinc 3 1, 3) := by decide +kernel
theorem dX7_canSplit_86 : decode cX7_canSplit 86 = .ok (.goto (-64), 3) := by decide +kernel
theorem dX7_canSplit_89 : decode cX7_canSplit 89 = .ok (.aload_n 0, 1) := by decide +kernel
theorem dX7_canSplit_90 : decode cX7_canSplit 90 = .ok (.getfield 48, 3) := by decide +kernel
theorem dX7_canSplit_93 : decode cX7_canSplit 93 = .ok (.aload_n 1, 1) := by decide +kernel
theorem dX7_canSplit_94 : decode cX7_canSplit 94 = .ok (.getfield 345, 3) := by decide +kernel
theorem dX7_canSplit_97 : decode cX7_canSplit 97 = .ok (.invokevirtual 281, 3) := by decide +kernel
theorem dX7_canSplit_100 : decode cX7_canSplit 100 = .ok (.iconst (-1), 1) := by decide +kernel
theorem dX7_canSplit_101 : decode cX7_canSplit 101 = .ok (.if_icmp .eq 21, 3) := by decide +kernel
theorem dX7_canSplit_104 : decode cX7_canSplit 104 = .ok (.aload_n 1, 1) := by decide +kernel
theorem dX7_canSplit_105 : decode cX7_canSplit 105 = .ok (.getfield 345, 3) := by decide +kernel
theorem dX7_canSplit_108 : decode cX7_canSplit 108 = .ok (.aload_n 1, 1) := by decide +kernel
theorem dX7_canSplit_109 : decode cX7_canSplit 109 = .ok (.getfield 358, 3) := by decide +kernel
theorem dX7_canSplit_112 : decode cX7_canSplit 112 = .ok (.invokestatic 394, 3) := by decide +kernel
theorem dX7_canSplit_115 : decode cX7_canSplit 115 = .ok (.ifCond .ne 7, 3) := by decide +kernel
theorem dX7_canSplit_118 : decode cX7_canSplit 118 = .ok (.iconst 1, 1) := by decide +kernel
theorem dX7_canSplit_119 : decode cX7_canSplit 119 = .ok (.goto 4, 3) := by decide +kernel
theorem dX7_canSplit_122 : decode cX7_canSplit 122 = .ok (.iconst 0, 1) := by decide +kernel
theorem dX7_canSplit_123 : decode cX7_canSplit 123 = .ok (.istore_n 3, 1) := by decide +kernel
theorem dX7_canSplit_124 : decode cX7_canSplit 124 = .ok (.iload_n 3, 1) := by decide +kernel
theorem dX7_canSplit_125 : decode cX7_canSplit 125 = .ok (.ifCond .ne 24, 3) := by decide +kernel
