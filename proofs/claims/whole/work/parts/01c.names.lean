theorem dX3_negate_21 : decode cX3_negate 21 = .ok (.aload_n 0, 1) := by decide +kernel
theorem dX3_negate_22 : decode cX3_negate 22 = .ok (.getfield 15, 3) := by decide +kernel
theorem dX3_negate_25 : decode cX3_negate 25 = .ok (.aload_n 0, 1) := by decide +kernel
theorem dX3_negate_26 : decode cX3_negate 26 = .ok (.getfield 18, 3) := by decide +kernel
theorem dX3_negate_29 : decode cX3_negate 29 = .ok (.laload, 1) := by decide +kernel
theorem dX3_negate_30 : decode cX3_negate 30 = .ok (.lneg, 1) := by decide +kernel
theorem dX3_negate_31 : decode cX3_negate 31 = .ok (.aload_n 0, 1) := by decide +kernel
theorem dX3_negate_32 : decode cX3_negate 32 = .ok (.getfield 9, 3) := by decide +kernel
theorem dX3_negate_35 : decode cX3_negate 35 = .ok (.aload_n 0, 1) := by decide +kernel
theorem dX3_negate_36 : decode cX3_negate 36 = .ok (.getfield 18, 3) := by decide +kernel
theorem dX3_negate_39 : decode cX3_negate 39 = .ok (.laload, 1) := by decide +kernel
theorem dX3_negate_40 : decode cX3_negate 40 = .ok (.lneg, 1) := by decide +kernel
theorem dX3_negate_41 : decode cX3_negate 41 = .ok (.invokevirtual 39, 3) := by decide +kernel
theorem dX3_negate_44 : decode cX3_negate 44 = .ok (.ireturn, 1) := by decide +kernel
set_option maxRecDepth 20000 in
theorem ggX3_combine_X3_isTooFar : GoodIn wsX3_combine wsX3_isTooFar := goodIn_r _ [14, 15, 16, 6, 17, 18] (by decide +kernel) (by decide +kernel)
set_option maxRecDepth 20000 in
theorem gX3_combine_X3_isTooFar : GoodIn wsX3_combine (va_wsS RX3 62 yX3_isTooFar wsX3_isTooFar) := goodIn_app (goodIn_of _ (by decide +kernel)) ggX3_combine_X3_isTooFar
set_option maxRecDepth 20000 in
theorem ggX3_combine_X3_apply : GoodIn wsX3_combine wsX3_apply := goodIn_r _ [21, 4, 5, 6, 7, 8, 9, 10] (by decide +kernel) (by decide +kernel)
set_option maxRecDepth 20000 in
theorem gX3_combine_X3_apply : GoodIn wsX3_combine (va_wsS RX3 65 yX3_apply wsX3_apply) := goodIn_app (goodIn_of _ (by decide +kernel)) ggX3_combine_X3_apply
set_option maxRecDepth 20000 in
theorem ggX3_combine_X3_lay : GoodIn wsX3_combine wsX3_lay := goodIn_r _ [25, 1, 26, 18, 2, 3, 27, 28, 29] (by decide +kernel) (by decide +kernel)
set_option maxRecDepth 20000 in
theorem gX3_combine_X3_lay : GoodIn wsX3_combine (wsV RX3 39 RX3 yX3_lay wsX3_lay) := goodIn_app (goodIn_of _ (by decide +kernel)) ggX3_combine_X3_lay
theorem dX3_combine_0 : decode cX3_combine 0 = .ok (.aload_n 0, 1) := by decide +kernel
theorem dX3_combine_1 : decode cX3_combine 1 = .ok (.getfield 18, 3) := by decide +kernel
theorem dX3_combine_4 : decode cX3_combine 4 = .ok (.iconst 2, 1) := by decide +kernel
theorem dX3_combine_5 : decode cX3_combine 5 = .ok (.if_icmp .ge 5, 3) := by decide +kernel
theorem dX3_combine_8 : decode cX3_combine 8 = .ok (.iconst 0, 1) := by decide +kernel
theorem dX3_combine_9 : decode cX3_combine 9 = .ok (.ireturn, 1) := by decide +kernel
theorem dX3_combine_10 : decode cX3_combine 10 = .ok (.aload_n 0, 1) := by decide +kernel
theorem dX3_combine_11 : decode cX3_combine 11 = .ok (.dup, 1) := by decide +kernel
theorem dX3_combine_12 : decode cX3_combine 12 = .ok (.getfield 18, 3) := by decide +kernel
theorem dX3_combine_15 : decode cX3_combine 15 = .ok (.iconst 2, 1) := by decide +kernel
theorem dX3_combine_16 : decode cX3_combine 16 = .ok (.isub, 1) := by decide +kernel
theorem dX3_combine_17 : decode cX3_combine 17 = .ok (.putfield 18, 3) := by decide +kernel
theorem dX3_combine_20 : decode cX3_combine 20 = .ok (.aload_n 0, 1) := by decide +kernel
theorem dX3_combine_21 : decode cX3_combine 21 = .ok (.getfield 18, 3) := by decide +kernel
theorem dX3_combine_24 : decode cX3_combine 24 = .ok (.istore_n 2, 1) := by decide +kernel
theorem dX3_combine_25 : decode cX3_combine 25 = .ok (.aload_n 0, 1) := by decide +kernel
theorem dX3_combine_26 : decode cX3_combine 26 = .ok (.getfield 18, 3) := by decide +kernel
theorem dX3_combine_29 : decode cX3_combine 29 = .ok (.iconst 1, 1) := by decide +kernel
theorem dX3_combine_30 : decode cX3_combine 30 = .ok (.iadd, 1) := by decide +kernel
theorem dX3_combine_31 : decode cX3_combine 31 = .ok (.istore_n 3, 1) := by decide +kernel
theorem dX3_combine_32 : decode cX3_combine 32 = .ok (.iload_n 1, 1) := by decide +kernel
theorem dX3_combine_33 : decode cX3_combine 33 = .ok (.bipush 13, 2) := by decide +kernel
theorem dX3_combine_35 : decode cX3_combine 35 = .ok (.if_icmp .ne 27, 3) := by decide +kernel
theorem dX3_combine_38 : decode cX3_combine 38 = .ok (.aload_n 0, 1) := by decide +kernel
theorem dX3_combine_39 : decode cX3_combine 39 = .ok (.getfield 9, 3) := by decide +kernel
theorem dX3_combine_42 : decode cX3_combine 42 = .ok (.iload_n 3, 1) := by decide +kernel
theorem dX3_combine_43 : decode cX3_combine 43 = .ok (.laload, 1) := by decide +kernel
theorem dX3_combine_44 : decode cX3_combine 44 = .ok (.lconst 0, 1) := by decide +kernel
theorem dX3_combine_45 : decode cX3_combine 45 = .ok (.lcmp, 1) := by decide +kernel
theorem dX3_combine_46 : decode cX3_combine 46 = .ok (.ifCond .gt 16, 3) := by decide +kernel
theorem dX3_combine_49 : decode cX3_combine 49 = .ok (.aload_n 0, 1) := by decide +kernel
theorem dX3_combine_50 : decode cX3_combine 50 = .ok (.getfield 15, 3) := by decide +kernel
theorem dX3_combine_53 : decode cX3_combine 53 = .ok (.iload_n 3, 1) := by decide +kernel
theorem dX3_combine_54 : decode cX3_combine 54 = .ok (.laload, 1) := by decide +kernel
theorem dX3_combine_55 : decode cX3_combine 55 = .ok (.lconst 0, 1) := by decide +kernel
theorem dX3_combine_56 : decode cX3_combine 56 = .ok (.lcmp, 1) := by decide +kernel
theorem dX3_combine_57 : decode cX3_combine 57 = .ok (.ifCond .lt 5, 3) := by decide +kernel
theorem dX3_combine_60 : decode cX3_combine 60 = .ok (.iconst 0, 1) := by decide +kernel
theorem dX3_combine_61 : decode cX3_combine 61 = .ok (.ireturn, 1) := by decide +kernel
theorem dX3_combine_62 : decode cX3_combine 62 = .ok (.lconst 0, 1) := by decide +kernel
theorem dX3_combine_63 : decode cX3_combine 63 = .ok (.lstore 4, 2) := by decide +kernel
theorem dX3_combine_65 : decode cX3_combine 65 = .ok (.lconst 0, 1) := by decide +kernel
theorem dX3_combine_66 : decode cX3_combine 66 = .ok (.lstore 6, 2) := by decide +kernel
theorem dX3_combine_68 : decode cX3_combine 68 = .ok (.iconst 0, 1) := by decide +kernel
theorem dX3_combine_69 : decode cX3_combine 69 = .ok (.istore 8, 2) := by decide +kernel
theorem dX3_combine_71 : decode cX3_combine 71 = .ok (.iload 8, 2) := by decide +kernel
theorem dX3_combine_73 : decode cX3_combine 73 = .ok (.iconst 4, 1) := by decide +kernel
theorem dX3_combine_74 : decode cX3_combine 74 = .ok (.if_icmp .ge 123, 3) := by decide +kernel
theorem dX3_combine_77 : decode cX3_combine 77 = .ok (.iload 8, 2) := by decide +kernel
theorem dX3_combine_79 : decode cX3_combine 79 = .ok (.iconst 1, 1) := by decide +kernel
theorem dX3_combine_80 : decode cX3_combine 80 = .ok (.iand, 1) := by decide +kernel
theorem dX3_combine_81 : decode cX3_combine 81 = .ok (.ifCond .ne 12, 3) := by decide +kernel
theorem dX3_combine_84 : decode cX3_combine 84 = .ok (.aload_n 0, 1) := by decide +kernel
theorem dX3_combine_85 : decode cX3_combine 85 = .ok (.getfield 9, 3) := by decide +kernel
theorem dX3_combine_88 : decode cX3_combine 88 = .ok (.iload_n 2, 1) := by decide +kernel
theorem dX3_combine_89 : decode cX3_combine 89 = .ok (.laload, 1) := by decide +kernel
theorem dX3_combine_90 : decode cX3_combine 90 = .ok (.goto 9, 3) := by decide +kernel
theorem dX3_combine_93 : decode cX3_combine 93 = .ok (.aload_n 0, 1) := by decide +kernel
theorem dX3_combine_94 : decode cX3_combine 94 = .ok (.getfield 15, 3) := by decide +kernel
theorem dX3_combine_97 : decode cX3_combine 97 = .ok (.iload_n 2, 1) := by decide +kernel
theorem dX3_combine_98 : decode cX3_combine 98 = .ok (.laload, 1) := by decide +kernel
theorem dX3_combine_99 : decode cX3_combine 99 = .ok (.lstore 9, 2) := by decide +kernel
theorem dX3_combine_101 : decode cX3_combine 101 = .ok (.iload 8, 2) := by decide +kernel
theorem dX3_combine_103 : decode cX3_combine 103 = .ok (.iconst 2, 1) := by decide +kernel
theorem dX3_combine_104 : decode cX3_combine 104 = .ok (.iand, 1) := by decide +kernel
theorem dX3_combine_105 : decode cX3_combine 105 = .ok (.ifCond .ne 12, 3) := by decide +kernel
theorem dX3_combine_108 : decode cX3_combine 108 = .ok (.aload_n 0, 1) := by decide +kernel
theorem dX3_combine_109 : decode cX3_combine 109 = .ok (.getfield 9, 3) := by decide +kernel
theorem dX3_combine_112 : decode cX3_combine 112 = .ok (.iload_n 3, 1) := by decide +kernel
theorem dX3_combine_113 : decode cX3_combine 113 = .ok (.laload, 1) := by decide +kernel
theorem dX3_combine_114 : decode cX3_combine 114 = .ok (.goto 9, 3) := by decide +kernel
theorem dX3_combine_117 : decode cX3_combine 117 = .ok (.aload_n 0, 1) := by decide +kernel
theorem dX3_combine_118 : decode cX3_combine 118 = .ok (.getfield 15, 3) := by decide +kernel
theorem dX3_combine_121 : decode cX3_combine 121 = .ok (.iload_n 3, 1) := by decide +kernel
theorem dX3_combine_122 : decode cX3_combine 122 = .ok (.laload, 1) := by decide +kernel
theorem dX3_combine_123 : decode cX3_combine 123 = .ok (.lstore 11, 2) := by decide +kernel
theorem dX3_combine_125 : decode cX3_combine 125 = .ok (.iload_n 1, 1) := by decide +kernel
theorem dX3_combine_126 : decode cX3_combine 126 = .ok (.bipush 12, 2) := by decide +kernel
theorem dX3_combine_128 : decode cX3_combine 128 = .ok (.if_icmp .ne 15, 3) := by decide +kernel
theorem dX3_combine_131 : decode cX3_combine 131 = .ok (.lload 9, 2) := by decide +kernel
theorem dX3_combine_133 : decode cX3_combine 133 = .ok (.lload 11, 2) := by decide +kernel
theorem dX3_combine_135 : decode cX3_combine 135 = .ok (.invokestatic 62, 3) := by decide +kernel
theorem dX3_combine_138 : decode cX3_combine 138 = .ok (.ifCond .eq 5, 3) := by decide +kernel
theorem dX3_combine_141 : decode cX3_combine 141 = .ok (.iconst 0, 1) := by decide +kernel
theorem dX3_combine_142 : decode cX3_combine 142 = .ok (.ireturn, 1) := by decide +kernel
theorem dX3_combine_143 : decode cX3_combine 143 = .ok (.iload_n 1, 1) := by decide +kernel
theorem dX3_combine_144 : decode cX3_combine 144 = .ok (.lload 9, 2) := by decide +kernel
theorem dX3_combine_146 : decode cX3_combine 146 = .ok (.lload 11, 2) := by decide +kernel
theorem dX3_combine_148 : decode cX3_combine 148 = .ok (.invokestatic 65, 3) := by decide +kernel
theorem dX3_combine_151 : decode cX3_combine 151 = .ok (.lstore 13, 2) := by decide +kernel
theorem dX3_combine_153 : decode cX3_combine 153 = .ok (.iload 8, 2) := by decide +kernel
theorem dX3_combine_155 : decode cX3_combine 155 = .ok (.ifCond .ne 8, 3) := by decide +kernel
theorem dX3_combine_158 : decode cX3_combine 158 = .ok (.lload 13, 2) := by decide +kernel
theorem dX3_combine_160 : decode cX3_combine 160 = .ok (.goto 10, 3) := by decide +kernel
theorem dX3_combine_163 : decode cX3_combine 163 = .ok (.lload 4, 2) := by decide +kernel
theorem dX3_combine_165 : decode cX3_combine 165 = .ok (.lload 13, 2) := by decide +kernel
theorem dX3_combine_167 : decode cX3_combine 167 = .ok (.invokestatic 69, 3) := by decide +kernel
theorem dX3_combine_170 : decode cX3_combine 170 = .ok (.lstore 4, 2) := by decide +kernel
theorem dX3_combine_172 : decode cX3_combine 172 = .ok (.iload 8, 2) := by decide +kernel
theorem dX3_combine_174 : decode cX3_combine 174 = .ok (.ifCond .ne 8, 3) := by decide +kernel
theorem dX3_combine_177 : decode cX3_combine 177 = .ok (.lload 13, 2) := by decide +kernel
theorem dX3_combine_179 : decode cX3_combine 179 = .ok (.goto 10, 3) := by decide +kernel
theorem dX3_combine_182 : decode cX3_combine 182 = .ok (.lload 6, 2) := by decide +kernel
theorem dX3_combine_184 : decode cX3_combine 184 = .ok (.lload 13, 2) := by decide +kernel
theorem dX3_combine_186 : decode cX3_combine 186 = .ok (.invokestatic 75, 3) := by decide +kernel
theorem dX3_combine_189 : decode cX3_combine 189 = .ok (.lstore 6, 2) := by decide +kernel
theorem dX3_combine_191 : decode cX3_combine 191 = .ok (.iinc 8 1, 3) := by decide +kernel
theorem dX3_combine_194 : decode cX3_combine 194 = .ok (.goto (-123), 3) := by decide +kernel
theorem dX3_combine_197 : decode cX3_combine 197 = .ok (.aload_n 0, 1) := by decide +kernel
theorem dX3_combine_198 : decode cX3_combine 198 = .ok (.lload 4, 2) := by decide +kernel
theorem dX3_combine_200 : decode cX3_combine 200 = .ok (.lload 6, 2) := by decide +kernel
theorem dX3_combine_202 : decode cX3_combine 202 = .ok (.invokevirtual 39, 3) := by decide +kernel
theorem dX3_combine_205 : decode cX3_combine 205 = .ok (.ireturn, 1) := by decide +kernel
theorem dX3_isTooFar_0 : decode cX3_isTooFar 0 = .ok (.lload_n 2, 1) := by decide +kernel
theorem dX3_isTooFar_1 : decode cX3_isTooFar 1 = .ok (.lconst 0, 1) := by decide +kernel
theorem dX3_isTooFar_2 : decode cX3_isTooFar 2 = .ok (.lcmp, 1) := by decide +kernel
theorem dX3_isTooFar_3 : decode cX3_isTooFar 3 = .ok (.ifCond .eq 23, 3) := by decide +kernel
theorem dX3_isTooFar_6 : decode cX3_isTooFar 6 = .ok (.lload_n 0, 1) := by decide +kernel
theorem dX3_isTooFar_7 : decode cX3_isTooFar 7 = .ok (.invokestatic 78, 3) := by decide +kernel
theorem dX3_isTooFar_10 : decode cX3_isTooFar 10 = .ok (.ldc2_w 60, 3) := by decide +kernel
theorem dX3_isTooFar_13 : decode cX3_isTooFar 13 = .ok (.lload_n 2, 1) := by decide +kernel
theorem dX3_isTooFar_14 : decode cX3_isTooFar 14 = .ok (.invokestatic 78, 3) := by decide +kernel
theorem dX3_isTooFar_17 : decode cX3_isTooFar 17 = .ok (.ldiv, 1) := by decide +kernel
theorem dX3_isTooFar_18 : decode cX3_isTooFar 18 = .ok (.lcmp, 1) := by decide +kernel
theorem dX3_isTooFar_19 : decode cX3_isTooFar 19 = .ok (.ifCond .le 7, 3) := by decide +kernel
theorem dX3_isTooFar_22 : decode cX3_isTooFar 22 = .ok (.iconst 1, 1) := by decide +kernel
theorem dX3_isTooFar_23 : decode cX3_isTooFar 23 = .ok (.goto 4, 3) := by decide +kernel
theorem dX3_isTooFar_26 : decode cX3_isTooFar 26 = .ok (.iconst 0, 1) := by decide +kernel
theorem dX3_isTooFar_27 : decode cX3_isTooFar 27 = .ok (.ireturn, 1) := by decide +kernel
theorem dX3_apply_0 : decode cX3_apply 0 = .ok (.iload_n 0, 1) := by decide +kernel
theorem dX3_apply_1 : decode cX3_apply 1 = .ok (.tableswitch 77 10 15 #[39, 43, 47, 51, 65, 71], 39) := by decide +kernel
theorem dX3_apply_40 : decode cX3_apply 40 = .ok (.lload_n 1, 1) := by decide +kernel
theorem dX3_apply_41 : decode cX3_apply 41 = .ok (.lload_n 3, 1) := by decide +kernel
theorem dX3_apply_42 : decode cX3_apply 42 = .ok (.ladd, 1) := by decide +kernel
theorem dX3_apply_43 : decode cX3_apply 43 = .ok (.lreturn, 1) := by decide +kernel
theorem dX3_apply_44 : decode cX3_apply 44 = .ok (.lload_n 1, 1) := by decide +kernel
theorem dX3_apply_45 : decode cX3_apply 45 = .ok (.lload_n 3, 1) := by decide +kernel
theorem dX3_apply_46 : decode cX3_apply 46 = .ok (.lsub, 1) := by decide +kernel
theorem dX3_apply_47 : decode cX3_apply 47 = .ok (.lreturn, 1) := by decide +kernel
theorem dX3_apply_48 : decode cX3_apply 48 = .ok (.lload_n 1, 1) := by decide +kernel
theorem dX3_apply_49 : decode cX3_apply 49 = .ok (.lload_n 3, 1) := by decide +kernel
theorem dX3_apply_50 : decode cX3_apply 50 = .ok (.lmul, 1) := by decide +kernel
theorem dX3_apply_51 : decode cX3_apply 51 = .ok (.lreturn, 1) := by decide +kernel
theorem dX3_apply_52 : decode cX3_apply 52 = .ok (.lload_n 3, 1) := by decide +kernel
theorem dX3_apply_53 : decode cX3_apply 53 = .ok (.lconst 0, 1) := by decide +kernel
theorem dX3_apply_54 : decode cX3_apply 54 = .ok (.lcmp, 1) := by decide +kernel
theorem dX3_apply_55 : decode cX3_apply 55 = .ok (.ifCond .ne 7, 3) := by decide +kernel
theorem dX3_apply_58 : decode cX3_apply 58 = .ok (.lconst 0, 1) := by decide +kernel
theorem dX3_apply_59 : decode cX3_apply 59 = .ok (.goto 6, 3) := by decide +kernel
theorem dX3_apply_62 : decode cX3_apply 62 = .ok (.lload_n 1, 1) := by decide +kernel
theorem dX3_apply_63 : decode cX3_apply 63 = .ok (.lload_n 3, 1) := by decide +kernel
theorem dX3_apply_64 : decode cX3_apply 64 = .ok (.ldiv, 1) := by decide +kernel
theorem dX3_apply_65 : decode cX3_apply 65 = .ok (.lreturn, 1) := by decide +kernel
theorem dX3_apply_66 : decode cX3_apply 66 = .ok (.lload_n 1, 1) := by decide +kernel
theorem dX3_apply_67 : decode cX3_apply 67 = .ok (.lload_n 3, 1) := by decide +kernel
theorem dX3_apply_68 : decode cX3_apply 68 = .ok (.invokestatic 69, 3) := by decide +kernel
theorem dX3_apply_71 : decode cX3_apply 71 = .ok (.lreturn, 1) := by decide +kernel
theorem dX3_apply_72 : decode cX3_apply 72 = .ok (.lload_n 1, 1) := by decide +kernel
theorem dX3_apply_73 : decode cX3_apply 73 = .ok (.lload_n 3, 1) := by decide +kernel
theorem dX3_apply_74 : decode cX3_apply 74 = .ok (.invokestatic 75, 3) := by decide +kernel
theorem dX3_apply_77 : decode cX3_apply 77 = .ok (.lreturn, 1) := by decide +kernel
theorem dX3_apply_78 : decode cX3_apply 78 = .ok (.lconst 0, 1) := by decide +kernel
theorem dX3_apply_79 : decode cX3_apply 79 = .ok (.lreturn, 1) := by decide +kernel
theorem dX4_init_0 : decode cX4_init 0 = .ok (.aload_n 0, 1) := by decide +kernel
theorem dX4_init_1 : decode cX4_init 1 = .ok (.invokespecial 3, 3) := by decide +kernel
theorem dX4_init_4 : decode cX4_init 4 = .ok (.aload_n 0, 1) := by decide +kernel
theorem dX4_init_5 : decode cX4_init 5 = .ok (.bipush 6, 2) := by decide +kernel
theorem dX4_init_7 : decode cX4_init 7 = .ok (.newarray .int, 2) := by decide +kernel
theorem dX4_init_9 : decode cX4_init 9 = .ok (.putfield 9, 3) := by decide +kernel
theorem dX4_init_12 : decode cX4_init 12 = .ok (.aload_n 0, 1) := by decide +kernel
theorem dX4_init_13 : decode cX4_init 13 = .ok (.bipush 6, 2) := by decide +kernel
theorem dX4_init_15 : decode cX4_init 15 = .ok (.newarray .int, 2) := by decide +kernel
theorem dX4_init_17 : decode cX4_init 17 = .ok (.putfield 15, 3) := by decide +kernel
theorem dX4_init_20 : decode cX4_init 20 = .ok (.aload_n 0, 1) := by decide +kernel
theorem dX4_init_21 : decode cX4_init 21 = .ok (.bipush 6, 2) := by decide +kernel
theorem dX4_init_23 : decode cX4_init 23 = .ok (.newarray .int, 2) := by decide +kernel
theorem dX4_init_25 : decode cX4_init 25 = .ok (.putfield 18, 3) := by decide +kernel
theorem dX4_init_28 : decode cX4_init 28 = .ok (.aload_n 0, 1) := by decide +kernel
theorem dX4_init_29 : decode cX4_init 29 = .ok (.bipush 6, 2) := by decide +kernel
theorem dX4_init_31 : decode cX4_init 31 = .ok (.newarray .int, 2) := by decide +kernel
theorem dX4_init_33 : decode cX4_init 33 = .ok (.putfield 21, 3) := by decide +kernel
theorem dX4_init_36 : decode cX4_init 36 = .ok (.aload_n 0, 1) := by decide +kernel
theorem dX4_init_37 : decode cX4_init 37 = .ok (.bipush 6, 2) := by decide +kernel
theorem dX4_init_39 : decode cX4_init 39 = .ok (.newarray .int, 2) := by decide +kernel
theorem dX4_init_41 : decode cX4_init 41 = .ok (.putfield 24, 3) := by decide +kernel
theorem dX4_init_44 : decode cX4_init 44 = .ok (.return_, 1) := by decide +kernel
theorem dX4_placeOf_0 : decode cX4_placeOf 0 = .ok (.iconst 0, 1) := by decide +kernel
theorem dX4_placeOf_1 : decode cX4_placeOf 1 = .ok (.istore_n 2, 1) := by decide +kernel
theorem dX4_placeOf_2 : decode cX4_placeOf 2 = .ok (.iload_n 2, 1) := by decide +kernel
theorem dX4_placeOf_3 : decode cX4_placeOf 3 = .ok (.aload_n 0, 1) := by decide +kernel
theorem dX4_placeOf_4 : decode cX4_placeOf 4 = .ok (.getfield 27, 3) := by decide +kernel
theorem dX4_placeOf_7 : decode cX4_placeOf 7 = .ok (.if_icmp .ge 21, 3) := by decide +kernel
theorem dX4_placeOf_10 : decode cX4_placeOf 10 = .ok (.aload_n 0, 1) := by decide +kernel
theorem dX4_placeOf_11 : decode cX4_placeOf 11 = .ok (.getfield 9, 3) := by decide +kernel
theorem dX4_placeOf_14 : decode cX4_placeOf 14 = .ok (.iload_n 2, 1) := by decide +kernel
theorem dX4_placeOf_15 : decode cX4_placeOf 15 = .ok (.iaload, 1) := by decide +kernel
theorem dX4_placeOf_16 : decode cX4_placeOf 16 = .ok (.iload_n 1, 1) := by decide +kernel
theorem dX4_placeOf_17 : decode cX4_placeOf 17 = .ok (.if_icmp .ne 5, 3) := by decide +kernel
theorem dX4_placeOf_20 : decode cX4_placeOf 20 = .ok (.iload_n 2, 1) := by decide +kernel
theorem dX4_placeOf_21 : decode cX4_placeOf 21 = .ok (.ireturn, 1) := by decide +kernel
theorem dX4_placeOf_22 : decode cX4_placeOf 22 = .ok (.iinc 2 1, 3) := by decide +kernel
theorem dX4_placeOf_25 : decode cX4_placeOf 25 = .ok (.goto (-23), 3) := by decide +kernel
theorem dX4_placeOf_28 : decode cX4_placeOf 28 = .ok (.iconst (-1), 1) := by decide +kernel
theorem dX4_placeOf_29 : decode cX4_placeOf 29 = .ok (.ireturn, 1) := by decide +kernel
theorem dX4_isThere_0 : decode cX4_isThere 0 = .ok (.iload_n 1, 1) := by decide +kernel
theorem dX4_isThere_1 : decode cX4_isThere 1 = .ok (.ifCond .lt 15, 3) := by decide +kernel
theorem dX4_isThere_4 : decode cX4_isThere 4 = .ok (.iload_n 1, 1) := by decide +kernel
theorem dX4_isThere_5 : decode cX4_isThere 5 = .ok (.aload_n 0, 1) := by decide +kernel
theorem dX4_isThere_6 : decode cX4_isThere 6 = .ok (.getfield 27, 3) := by decide +kernel
theorem dX4_isThere_9 : decode cX4_isThere 9 = .ok (.if_icmp .ge 7, 3) := by decide +kernel
theorem dX4_isThere_12 : decode cX4_isThere 12 = .ok (.iconst 1, 1) := by decide +kernel
theorem dX4_isThere_13 : decode cX4_isThere 13 = .ok (.goto 4, 3) := by decide +kernel
theorem dX4_isThere_16 : decode cX4_isThere 16 = .ok (.iconst 0, 1) := by decide +kernel
theorem dX4_isThere_17 : decode cX4_isThere 17 = .ok (.ireturn, 1) := by decide +kernel
set_option maxRecDepth 20000 in
theorem ggX4_isNumber_X4_isThere : GoodIn wsX4_isNumber wsX4_isThere := goodIn_r _ [6, 7, 8, 9, 10, 11, 12, 13] (by decide +kernel) (by decide +kernel)
set_option maxRecDepth 20000 in
theorem gX4_isNumber_X4_isThere : GoodIn wsX4_isNumber (wsV RX4 31 RX4 yX4_isThere wsX4_isThere) := goodIn_app (goodIn_of _ (by decide +kernel)) ggX4_isNumber_X4_isThere
theorem dX4_isNumber_0 : decode cX4_isNumber 0 = .ok (.aload_n 0, 1) := by decide +kernel
theorem dX4_isNumber_1 : decode cX4_isNumber 1 = .ok (.iload_n 1, 1) := by decide +kernel
theorem dX4_isNumber_2 : decode cX4_isNumber 2 = .ok (.invokevirtual 31, 3) := by decide +kernel
theorem dX4_isNumber_5 : decode cX4_isNumber 5 = .ok (.ifCond .eq 16, 3) := by decide +kernel
theorem dX4_isNumber_8 : decode cX4_isNumber 8 = .ok (.aload_n 0, 1) := by decide +kernel
theorem dX4_isNumber_9 : decode cX4_isNumber 9 = .ok (.getfield 15, 3) := by decide +kernel
theorem dX4_isNumber_12 : decode cX4_isNumber 12 = .ok (.iload_n 1, 1) := by decide +kernel
theorem dX4_isNumber_13 : decode cX4_isNumber 13 = .ok (.iaload, 1) := by decide +kernel
theorem dX4_isNumber_14 : decode cX4_isNumber 14 = .ok (.ifCond .ne 7, 3) := by decide +kernel
theorem dX4_isNumber_17 : decode cX4_isNumber 17 = .ok (.iconst 1, 1) := by decide +kernel
theorem dX4_isNumber_18 : decode cX4_isNumber 18 = .ok (.goto 4, 3) := by decide +kernel
theorem dX4_isNumber_21 : decode cX4_isNumber 21 = .ok (.iconst 0, 1) := by decide +kernel
theorem dX4_isNumber_22 : decode cX4_isNumber 22 = .ok (.ireturn, 1) := by decide +kernel
set_option maxRecDepth 20000 in
theorem ggX4_isReference_X4_isThere : GoodIn wsX4_isReference wsX4_isThere := goodIn_r _ [6, 7, 8, 9, 10, 11, 12, 13] (by decide +kernel) (by decide +kernel)
set_option maxRecDepth 20000 in
theorem gX4_isReference_X4_isThere : GoodIn wsX4_isReference (wsV RX4 31 RX4 yX4_isThere wsX4_isThere) := goodIn_app (goodIn_of _ (by decide +kernel)) ggX4_isReference_X4_isThere
theorem dX4_isReference_0 : decode cX4_isReference 0 = .ok (.aload_n 0, 1) := by decide +kernel
theorem dX4_isReference_1 : decode cX4_isReference 1 = .ok (.iload_n 1, 1) := by decide +kernel
theorem dX4_isReference_2 : decode cX4_isReference 2 = .ok (.invokevirtual 31, 3) := by decide +kernel
theorem dX4_isReference_5 : decode cX4_isReference 5 = .ok (.ifCond .eq 16, 3) := by decide +kernel
theorem dX4_isReference_8 : decode cX4_isReference 8 = .ok (.aload_n 0, 1) := by decide +kernel
theorem dX4_isReference_9 : decode cX4_isReference 9 = .ok (.getfield 15, 3) := by decide +kernel
theorem dX4_isReference_12 : decode cX4_isReference 12 = .ok (.iload_n 1, 1) := by decide +kernel
theorem dX4_isReference_13 : decode cX4_isReference 13 = .ok (.iaload, 1) := by decide +kernel
theorem dX4_isReference_14 : decode cX4_isReference 14 = .ok (.ifCond .eq 7, 3) := by decide +kernel
theorem dX4_isReference_17 : decode cX4_isReference 17 = .ok (.iconst 1, 1) := by decide +kernel
theorem dX4_isReference_18 : decode cX4_isReference 18 = .ok (.goto 4, 3) := by decide +kernel
theorem dX4_isReference_21 : decode cX4_isReference 21 = .ok (.iconst 0, 1) := by decide +kernel
theorem dX4_isReference_22 : decode cX4_isReference 22 = .ok (.ireturn, 1) := by decide +kernel
set_option maxRecDepth 20000 in
theorem ggX4_isOwning_X4_isThere : GoodIn wsX4_isOwning wsX4_isThere := goodIn_r _ [6, 7, 8, 9, 10, 11, 12, 13] (by decide +kernel) (by decide +kernel)
set_option maxRecDepth 20000 in
theorem gX4_isOwning_X4_isThere : GoodIn wsX4_isOwning (wsV RX4 31 RX4 yX4_isThere wsX4_isThere) := goodIn_app (goodIn_of _ (by decide +kernel)) ggX4_isOwning_X4_isThere
theorem dX4_isOwning_0 : decode cX4_isOwning 0 = .ok (.aload_n 0, 1) := by decide +kernel
theorem dX4_isOwning_1 : decode cX4_isOwning 1 = .ok (.iload_n 1, 1) := by decide +kernel
theorem dX4_isOwning_2 : decode cX4_isOwning 2 = .ok (.invokevirtual 31, 3) := by decide +kernel
theorem dX4_isOwning_5 : decode cX4_isOwning 5 = .ok (.ifCond .eq 17, 3) := by decide +kernel
theorem dX4_isOwning_8 : decode cX4_isOwning 8 = .ok (.aload_n 0, 1) := by decide +kernel
theorem dX4_isOwning_9 : decode cX4_isOwning 9 = .ok (.getfield 15, 3) := by decide +kernel
theorem dX4_isOwning_12 : decode cX4_isOwning 12 = .ok (.iload_n 1, 1) := by decide +kernel
theorem dX4_isOwning_13 : decode cX4_isOwning 13 = .ok (.iaload, 1) := by decide +kernel
theorem dX4_isOwning_14 : decode cX4_isOwning 14 = .ok (.iconst 2, 1) := by decide +kernel
theorem dX4_isOwning_15 : decode cX4_isOwning 15 = .ok (.if_icmp .ne 7, 3) := by decide +kernel
theorem dX4_isOwning_18 : decode cX4_isOwning 18 = .ok (.iconst 1, 1) := by decide +kernel
theorem dX4_isOwning_19 : decode cX4_isOwning 19 = .ok (.goto 4, 3) := by decide +kernel
theorem dX4_isOwning_22 : decode cX4_isOwning 22 = .ok (.iconst 0, 1) := by decide +kernel
theorem dX4_isOwning_23 : decode cX4_isOwning 23 = .ok (.ireturn, 1) := by decide +kernel
set_option maxRecDepth 20000 in
theorem ggX4_rangeIsWithin_X4_isThere : GoodIn wsX4_rangeIsWithin wsX4_isThere := goodIn_r _ [7, 8, 9, 10, 11, 12, 13, 14] (by decide +kernel) (by decide +kernel)
set_option maxRecDepth 20000 in
theorem gX4_rangeIsWithin_X4_isThere : GoodIn wsX4_rangeIsWithin (wsV RX4 31 RX4 yX4_isThere wsX4_isThere) := goodIn_app (goodIn_of _ (by decide +kernel)) ggX4_rangeIsWithin_X4_isThere
theorem dX4_rangeIsWithin_0 : decode cX4_rangeIsWithin 0 = .ok (.aload_n 0, 1) := by decide +kernel
theorem dX4_rangeIsWithin_1 : decode cX4_rangeIsWithin 1 = .ok (.iload_n 1, 1) := by decide +kernel
theorem dX4_rangeIsWithin_2 : decode cX4_rangeIsWithin 2 = .ok (.invokevirtual 31, 3) := by decide +kernel
theorem dX4_rangeIsWithin_5 : decode cX4_rangeIsWithin 5 = .ok (.ifCond .eq 27, 3) := by decide +kernel
theorem dX4_rangeIsWithin_8 : decode cX4_rangeIsWithin 8 = .ok (.aload_n 0, 1) := by decide +kernel
theorem dX4_rangeIsWithin_9 : decode cX4_rangeIsWithin 9 = .ok (.getfield 18, 3) := by decide +kernel
theorem dX4_rangeIsWithin_12 : decode cX4_rangeIsWithin 12 = .ok (.iload_n 1, 1) := by decide +kernel
theorem dX4_rangeIsWithin_13 : decode cX4_rangeIsWithin 13 = .ok (.iaload, 1) := by decide +kernel
theorem dX4_rangeIsWithin_14 : decode cX4_rangeIsWithin 14 = .ok (.iload_n 2, 1) := by decide +kernel
theorem dX4_rangeIsWithin_15 : decode cX4_rangeIsWithin 15 = .ok (.if_icmp .lt 17, 3) := by decide +kernel
theorem dX4_rangeIsWithin_18 : decode cX4_rangeIsWithin 18 = .ok (.aload_n 0, 1) := by decide +kernel
theorem dX4_rangeIsWithin_19 : decode cX4_rangeIsWithin 19 = .ok (.getfield 21, 3) := by decide +kernel
theorem dX4_rangeIsWithin_22 : decode cX4_rangeIsWithin 22 = .ok (.iload_n 1, 1) := by decide +kernel
theorem dX4_rangeIsWithin_23 : decode cX4_rangeIsWithin 23 = .ok (.iaload, 1) := by decide +kernel
theorem dX4_rangeIsWithin_24 : decode cX4_rangeIsWithin 24 = .ok (.iload_n 3, 1) := by decide +kernel
theorem dX4_rangeIsWithin_25 : decode cX4_rangeIsWithin 25 = .ok (.if_icmp .gt 7, 3) := by decide +kernel
theorem dX4_rangeIsWithin_28 : decode cX4_rangeIsWithin 28 = .ok (.iconst 1, 1) := by decide +kernel
theorem dX4_rangeIsWithin_29 : decode cX4_rangeIsWithin 29 = .ok (.goto 4, 3) := by decide +kernel
theorem dX4_rangeIsWithin_32 : decode cX4_rangeIsWithin 32 = .ok (.iconst 0, 1) := by decide +kernel
theorem dX4_rangeIsWithin_33 : decode cX4_rangeIsWithin 33 = .ok (.ireturn, 1) := by decide +kernel
theorem dX4_hasReferences_0 : decode cX4_hasReferences 0 = .ok (.iconst 0, 1) := by decide +kernel
theorem dX4_hasReferences_1 : decode cX4_hasReferences 1 = .ok (.istore_n 1, 1) := by decide +kernel
theorem dX4_hasReferences_2 : decode cX4_hasReferences 2 = .ok (.iload_n 1, 1) := by decide +kernel
theorem dX4_hasReferences_3 : decode cX4_hasReferences 3 = .ok (.aload_n 0, 1) := by decide +kernel
theorem dX4_hasReferences_4 : decode cX4_hasReferences 4 = .ok (.getfield 27, 3) := by decide +kernel
theorem dX4_hasReferences_7 : decode cX4_hasReferences 7 = .ok (.if_icmp .ge 20, 3) := by decide +kernel
theorem dX4_hasReferences_10 : decode cX4_hasReferences 10 = .ok (.aload_n 0, 1) := by decide +kernel
theorem dX4_hasReferences_11 : decode cX4_hasReferences 11 = .ok (.getfield 15, 3) := by decide +kernel
theorem dX4_hasReferences_14 : decode cX4_hasReferences 14 = .ok (.iload_n 1, 1) := by decide +kernel
theorem dX4_hasReferences_15 : decode cX4_hasReferences 15 = .ok (.iaload, 1) := by decide +kernel
theorem dX4_hasReferences_16 : decode cX4_hasReferences 16 = .ok (.ifCond .eq 5, 3) := by decide +kernel
theorem dX4_hasReferences_19 : decode cX4_hasReferences 19 = .ok (.iconst 1, 1) := by decide +kernel
theorem dX4_hasReferences_20 : decode cX4_hasReferences 20 = .ok (.ireturn, 1) := by decide +kernel
theorem dX4_hasReferences_21 : decode cX4_hasReferences 21 = .ok (.iinc 1 1, 3) := by decide +kernel
theorem dX4_hasReferences_24 : decode cX4_hasReferences 24 = .ok (.goto (-22), 3) := by decide +kernel
theorem dX4_hasReferences_27 : decode cX4_hasReferences 27 = .ok (.iconst 0, 1) := by decide +kernel
theorem dX4_hasReferences_28 : decode cX4_hasReferences 28 = .ok (.ireturn, 1) := by decide +kernel
theorem dX4_nameSet_0 : decode cX4_nameSet 0 = .ok (.iconst 0, 1) := by decide +kernel
theorem dX4_nameSet_1 : decode cX4_nameSet 1 = .ok (.istore_n 1, 1) := by decide +kernel
theorem dX4_nameSet_2 : decode cX4_nameSet 2 = .ok (.iconst 0, 1) := by decide +kernel
theorem dX4_nameSet_3 : decode cX4_nameSet 3 = .ok (.istore_n 2, 1) := by decide +kernel
theorem dX4_nameSet_4 : decode cX4_nameSet 4 = .ok (.iload_n 2, 1) := by decide +kernel
theorem dX4_nameSet_5 : decode cX4_nameSet 5 = .ok (.aload_n 0, 1) := by decide +kernel
theorem dX4_nameSet_6 : decode cX4_nameSet 6 = .ok (.getfield 27, 3) := by decide +kernel
theorem dX4_nameSet_9 : decode cX4_nameSet 9 = .ok (.if_icmp .ge 20, 3) := by decide +kernel
theorem dX4_nameSet_12 : decode cX4_nameSet 12 = .ok (.iload_n 1, 1) := by decide +kernel
theorem dX4_nameSet_13 : decode cX4_nameSet 13 = .ok (.iconst 1, 1) := by decide +kernel
theorem dX4_nameSet_14 : decode cX4_nameSet 14 = .ok (.aload_n 0, 1) := by decide +kernel
theorem dX4_nameSet_15 : decode cX4_nameSet 15 = .ok (.getfield 9, 3) := by decide +kernel
theorem dX4_nameSet_18 : decode cX4_nameSet 18 = .ok (.iload_n 2, 1) := by decide +kernel
theorem dX4_nameSet_19 : decode cX4_nameSet 19 = .ok (.iaload, 1) := by decide +kernel
theorem dX4_nameSet_20 : decode cX4_nameSet 20 = .ok (.ishl, 1) := by decide +kernel
theorem dX4_nameSet_21 : decode cX4_nameSet 21 = .ok (.ior, 1) := by decide +kernel
theorem dX4_nameSet_22 : decode cX4_nameSet 22 = .ok (.istore_n 1, 1) := by decide +kernel
theorem dX4_nameSet_23 : decode cX4_nameSet 23 = .ok (.iinc 2 1, 3) := by decide +kernel
theorem dX4_nameSet_26 : decode cX4_nameSet 26 = .ok (.goto (-22), 3) := by decide +kernel
theorem dX4_nameSet_29 : decode cX4_nameSet 29 = .ok (.iload_n 1, 1) := by decide +kernel
theorem dX4_nameSet_30 : decode cX4_nameSet 30 = .ok (.ireturn, 1) := by decide +kernel
theorem dX4_append_0 : decode cX4_append 0 = .ok (.aload_n 0, 1) := by decide +kernel
theorem dX4_append_1 : decode cX4_append 1 = .ok (.getfield 27, 3) := by decide +kernel
theorem dX4_append_4 : decode cX4_append 4 = .ok (.bipush 6, 2) := by decide +kernel
theorem dX4_append_6 : decode cX4_append 6 = .ok (.if_icmp .ge 64, 3) := by decide +kernel
theorem dX4_append_9 : decode cX4_append 9 = .ok (.aload_n 0, 1) := by decide +kernel
theorem dX4_append_10 : decode cX4_append 10 = .ok (.getfield 9, 3) := by decide +kernel
theorem dX4_append_13 : decode cX4_append 13 = .ok (.aload_n 0, 1) := by decide +kernel
theorem dX4_append_14 : decode cX4_append 14 = .ok (.getfield 27, 3) := by decide +kernel
theorem dX4_append_17 : decode cX4_append 17 = .ok (.iload_n 1, 1) := by decide +kernel
theorem dX4_append_18 : decode cX4_append 18 = .ok (.iastore, 1) := by decide +kernel
theorem dX4_append_19 : decode cX4_append 19 = .ok (.aload_n 0, 1) := by decide +kernel
theorem dX4_append_20 : decode cX4_append 20 = .ok (.getfield 15, 3) := by decide +kernel
theorem dX4_append_23 : decode cX4_append 23 = .ok (.aload_n 0, 1) := by decide +kernel
theorem dX4_append_24 : decode cX4_append 24 = .ok (.getfield 27, 3) := by decide +kernel
theorem dX4_append_27 : decode cX4_append 27 = .ok (.iload_n 2, 1) := by decide +kernel
theorem dX4_append_28 : decode cX4_append 28 = .ok (.iastore, 1) := by decide +kernel
theorem dX4_append_29 : decode cX4_append 29 = .ok (.aload_n 0, 1) := by decide +kernel
theorem dX4_append_30 : decode cX4_append 30 = .ok (.getfield 18, 3) := by decide +kernel
theorem dX4_append_33 : decode cX4_append 33 = .ok (.aload_n 0, 1) := by decide +kernel
theorem dX4_append_34 : decode cX4_append 34 = .ok (.getfield 27, 3) := by decide +kernel
theorem dX4_append_37 : decode cX4_append 37 = .ok (.iload_n 3, 1) := by decide +kernel
theorem dX4_append_38 : decode cX4_append 38 = .ok (.iastore, 1) := by decide +kernel
theorem dX4_append_39 : decode cX4_append 39 = .ok (.aload_n 0, 1) := by decide +kernel
theorem dX4_append_40 : decode cX4_append 40 = .ok (.getfield 21, 3) := by decide +kernel
theorem dX4_append_43 : decode cX4_append 43 = .ok (.aload_n 0, 1) := by decide +kernel
theorem dX4_append_44 : decode cX4_append 44 = .ok (.getfield 27, 3) := by decide +kernel
theorem dX4_append_47 : decode cX4_append 47 = .ok (.iload 4, 2) := by decide +kernel
theorem dX4_append_49 : decode cX4_append 49 = .ok (.iastore, 1) := by decide +kernel
theorem dX4_append_50 : decode cX4_append 50 = .ok (.aload_n 0, 1) := by decide +kernel
theorem dX4_append_51 : decode cX4_append 51 = .ok (.getfield 24, 3) := by decide +kernel
theorem dX4_append_54 : decode cX4_append 54 = .ok (.aload_n 0, 1) := by decide +kernel
theorem dX4_append_55 : decode cX4_append 55 = .ok (.getfield 27, 3) := by decide +kernel
theorem dX4_append_58 : decode cX4_append 58 = .ok (.iconst (-1), 1) := by decide +kernel
theorem dX4_append_59 : decode cX4_append 59 = .ok (.iastore, 1) := by decide +kernel
theorem dX4_append_60 : decode cX4_append 60 = .ok (.aload_n 0, 1) := by decide +kernel
theorem dX4_append_61 : decode cX4_append 61 = .ok (.dup, 1) := by decide +kernel
theorem dX4_append_62 : decode cX4_append 62 = .ok (.getfield 27, 3) := by decide +kernel
theorem dX4_append_65 : decode cX4_append 65 = .ok (.iconst 1, 1) := by decide +kernel
theorem dX4_append_66 : decode cX4_append 66 = .ok (.iadd, 1) := by decide +kernel
theorem dX4_append_67 : decode cX4_append 67 = .ok (.putfield 27, 3) := by decide +kernel
theorem dX4_append_70 : decode cX4_append 70 = .ok (.return_, 1) := by decide +kernel
set_option maxRecDepth 20000 in
theorem ggX4_appendAll_X4_append : GoodIn wsX4_appendAll wsX4_append := goodIn_r _ [10, 1, 2, 3, 4, 5, 11, 12, 13, 14, 15, 16, 17] (by decide +kernel) (by decide +kernel)
set_option maxRecDepth 20000 in
theorem gX4_appendAll_X4_append : GoodIn wsX4_appendAll (wsV RX4 35 RX4 yX4_append wsX4_append) := goodIn_app (goodIn_of _ (by decide +kernel)) ggX4_appendAll_X4_append
theorem dX4_appendAll_0 : decode cX4_appendAll 0 = .ok (.iconst 0, 1) := by decide +kernel
theorem dX4_appendAll_1 : decode cX4_appendAll 1 = .ok (.istore_n 2, 1) := by decide +kernel
theorem dX4_appendAll_2 : decode cX4_appendAll 2 = .ok (.iload_n 2, 1) := by decide +kernel
theorem dX4_appendAll_3 : decode cX4_appendAll 3 = .ok (.aload_n 1, 1) := by decide +kernel
theorem dX4_appendAll_4 : decode cX4_appendAll 4 = .ok (.getfield 27, 3) := by decide +kernel
theorem dX4_appendAll_7 : decode cX4_appendAll 7 = .ok (.if_icmp .ge 37, 3) := by decide +kernel
theorem dX4_appendAll_10 : decode cX4_appendAll 10 = .ok (.aload_n 0, 1) := by decide +kernel
theorem dX4_appendAll_11 : decode cX4_appendAll 11 = .ok (.aload_n 1, 1) := by decide +kernel
theorem dX4_appendAll_12 : decode cX4_appendAll 12 = .ok (.getfield 9, 3) := by decide +kernel
theorem dX4_appendAll_15 : decode cX4_appendAll 15 = .ok (.iload_n 2, 1) := by decide +kernel
theorem dX4_appendAll_16 : decode cX4_appendAll 16 = .ok (.iaload, 1) := by decide +kernel
theorem dX4_appendAll_17 : decode cX4_appendAll 17 = .ok (.aload_n 1, 1) := by decide +kernel
theorem dX4_appendAll_18 : decode cX4_appendAll 18 = .ok (.getfield 15, 3) := by decide +kernel
theorem dX4_appendAll_21 : decode cX4_appendAll 21 = .ok (.iload_n 2, 1) := by decide +kernel
theorem dX4_appendAll_22 : decode cX4_appendAll 22 = .ok (.iaload, 1) := by decide +kernel
theorem dX4_appendAll_23 : decode cX4_appendAll 23 = .ok (.aload_n 1, 1) := by decide +kernel
theorem dX4_appendAll_24 : decode cX4_appendAll 24 = .ok (.getfield 18, 3) := by decide +kernel
theorem dX4_appendAll_27 : decode cX4_appendAll 27 = .ok (.iload_n 2, 1) := by decide +kernel
theorem dX4_appendAll_28 : decode cX4_appendAll 28 = .ok (.iaload, 1) := by decide +kernel
theorem dX4_appendAll_29 : decode cX4_appendAll 29 = .ok (.aload_n 1, 1) := by decide +kernel
theorem dX4_appendAll_30 : decode cX4_appendAll 30 = .ok (.getfield 21, 3) := by decide +kernel
theorem dX4_appendAll_33 : decode cX4_appendAll 33 = .ok (.iload_n 2, 1) := by decide +kernel
theorem dX4_appendAll_34 : decode cX4_appendAll 34 = .ok (.iaload, 1) := by decide +kernel
theorem dX4_appendAll_35 : decode cX4_appendAll 35 = .ok (.invokevirtual 35, 3) := by decide +kernel
theorem dX4_appendAll_38 : decode cX4_appendAll 38 = .ok (.iinc 2 1, 3) := by decide +kernel
theorem dX4_appendAll_41 : decode cX4_appendAll 41 = .ok (.goto (-39), 3) := by decide +kernel
theorem dX4_appendAll_44 : decode cX4_appendAll 44 = .ok (.return_, 1) := by decide +kernel
set_option maxRecDepth 20000 in
theorem ggX4_rename_X4_isThere : GoodIn wsX4_rename wsX4_isThere := goodIn_r _ [6, 7, 8, 9, 10, 11, 12, 13] (by decide +kernel) (by decide +kernel)
set_option maxRecDepth 20000 in
theorem gX4_rename_X4_isThere : GoodIn wsX4_rename (wsV RX4 31 RX4 yX4_isThere wsX4_isThere) := goodIn_app (goodIn_of _ (by decide +kernel)) ggX4_rename_X4_isThere
theorem dX4_rename_0 : decode cX4_rename 0 = .ok (.aload_n 0, 1) := by decide +kernel
theorem dX4_rename_1 : decode cX4_rename 1 = .ok (.iload_n 1, 1) := by decide +kernel
theorem dX4_rename_2 : decode cX4_rename 2 = .ok (.invokevirtual 31, 3) := by decide +kernel
theorem dX4_rename_5 : decode cX4_rename 5 = .ok (.ifCond .eq 10, 3) := by decide +kernel
theorem dX4_rename_8 : decode cX4_rename 8 = .ok (.aload_n 0, 1) := by decide +kernel
theorem dX4_rename_9 : decode cX4_rename 9 = .ok (.getfield 9, 3) := by decide +kernel
theorem dX4_rename_12 : decode cX4_rename 12 = .ok (.iload_n 1, 1) := by decide +kernel
theorem dX4_rename_13 : decode cX4_rename 13 = .ok (.iload_n 2, 1) := by decide +kernel
theorem dX4_rename_14 : decode cX4_rename 14 = .ok (.iastore, 1) := by decide +kernel
theorem dX4_rename_15 : decode cX4_rename 15 = .ok (.return_, 1) := by decide +kernel
set_option maxRecDepth 20000 in
theorem ggX4_setRange_X4_isThere : GoodIn wsX4_setRange wsX4_isThere := goodIn_r _ [7, 8, 9, 10, 11, 12, 13, 14] (by decide +kernel) (by decide +kernel)
set_option maxRecDepth 20000 in
theorem gX4_setRange_X4_isThere : GoodIn wsX4_setRange (wsV RX4 31 RX4 yX4_isThere wsX4_isThere) := goodIn_app (goodIn_of _ (by decide +kernel)) ggX4_setRange_X4_isThere
theorem dX4_setRange_0 : decode cX4_setRange 0 = .ok (.aload_n 0, 1) := by decide +kernel
theorem dX4_setRange_1 : decode cX4_setRange 1 = .ok (.iload_n 1, 1) := by decide +kernel
theorem dX4_setRange_2 : decode cX4_setRange 2 = .ok (.invokevirtual 31, 3) := by decide +kernel
theorem dX4_setRange_5 : decode cX4_setRange 5 = .ok (.ifCond .eq 17, 3) := by decide +kernel
theorem dX4_setRange_8 : decode cX4_setRange 8 = .ok (.aload_n 0, 1) := by decide +kernel
theorem dX4_setRange_9 : decode cX4_setRange 9 = .ok (.getfield 18, 3) := by decide +kernel
theorem dX4_setRange_12 : decode cX4_setRange 12 = .ok (.iload_n 1, 1) := by decide +kernel
theorem dX4_setRange_13 : decode cX4_setRange 13 = .ok (.iload_n 2, 1) := by decide +kernel
theorem dX4_setRange_14 : decode cX4_setRange 14 = .ok (.iastore, 1) := by decide +kernel
theorem dX4_setRange_15 : decode cX4_setRange 15 = .ok (.aload_n 0, 1) := by decide +kernel
theorem dX4_setRange_16 : decode cX4_setRange 16 = .ok (.getfield 21, 3) := by decide +kernel
theorem dX4_setRange_19 : decode cX4_setRange 19 = .ok (.iload_n 1, 1) := by decide +kernel
theorem dX4_setRange_20 : decode cX4_setRange 20 = .ok (.iload_n 3, 1) := by decide +kernel
theorem dX4_setRange_21 : decode cX4_setRange 21 = .ok (.iastore, 1) := by decide +kernel
theorem dX4_setRange_22 : decode cX4_setRange 22 = .ok (.return_, 1) := by decide +kernel
set_option maxRecDepth 20000 in
theorem ggX4_removeAll_X4_squeeze : GoodIn wsX4_removeAll wsX4_squeeze := goodIn_r _ [11, 6, 5, 12, 13, 14, 15, 16, 17, 18, 19, 20] (by decide +kernel) (by decide +kernel)
set_option maxRecDepth 20000 in
theorem gX4_removeAll_X4_squeeze : GoodIn wsX4_removeAll (wsV RX4 39 RX4 yX4_squeeze wsX4_squeeze) := goodIn_app (goodIn_of _ (by decide +kernel)) ggX4_removeAll_X4_squeeze
theorem dX4_removeAll_0 : decode cX4_removeAll 0 = .ok (.aload_n 0, 1) := by decide +kernel
theorem dX4_removeAll_1 : decode cX4_removeAll 1 = .ok (.aload_n 0, 1) := by decide +kernel
theorem dX4_removeAll_2 : decode cX4_removeAll 2 = .ok (.getfield 15, 3) := by decide +kernel
theorem dX4_removeAll_5 : decode cX4_removeAll 5 = .ok (.iload_n 1, 1) := by decide +kernel
theorem dX4_removeAll_6 : decode cX4_removeAll 6 = .ok (.invokevirtual 39, 3) := by decide +kernel
theorem dX4_removeAll_9 : decode cX4_removeAll 9 = .ok (.pop, 1) := by decide +kernel
theorem dX4_removeAll_10 : decode cX4_removeAll 10 = .ok (.aload_n 0, 1) := by decide +kernel
theorem dX4_removeAll_11 : decode cX4_removeAll 11 = .ok (.aload_n 0, 1) := by decide +kernel
theorem dX4_removeAll_12 : decode cX4_removeAll 12 = .ok (.getfield 18, 3) := by decide +kernel
theorem dX4_removeAll_15 : decode cX4_removeAll 15 = .ok (.iload_n 1, 1) := by decide +kernel
theorem dX4_removeAll_16 : decode cX4_removeAll 16 = .ok (.invokevirtual 39, 3) := by decide +kernel
theorem dX4_removeAll_19 : decode cX4_removeAll 19 = .ok (.pop, 1) := by decide +kernel
theorem dX4_removeAll_20 : decode cX4_removeAll 20 = .ok (.aload_n 0, 1) := by decide +kernel
theorem dX4_removeAll_21 : decode cX4_removeAll 21 = .ok (.aload_n 0, 1) := by decide +kernel
theorem dX4_removeAll_22 : decode cX4_removeAll 22 = .ok (.getfield 21, 3) := by decide +kernel
theorem dX4_removeAll_25 : decode cX4_removeAll 25 = .ok (.iload_n 1, 1) := by decide +kernel
theorem dX4_removeAll_26 : decode cX4_removeAll 26 = .ok (.invokevirtual 39, 3) := by decide +kernel
theorem dX4_removeAll_29 : decode cX4_removeAll 29 = .ok (.pop, 1) := by decide +kernel
theorem dX4_removeAll_30 : decode cX4_removeAll 30 = .ok (.aload_n 0, 1) := by decide +kernel
theorem dX4_removeAll_31 : decode cX4_removeAll 31 = .ok (.aload_n 0, 1) := by decide +kernel
theorem dX4_removeAll_32 : decode cX4_removeAll 32 = .ok (.getfield 24, 3) := by decide +kernel
theorem dX4_removeAll_35 : decode cX4_removeAll 35 = .ok (.iload_n 1, 1) := by decide +kernel
theorem dX4_removeAll_36 : decode cX4_removeAll 36 = .ok (.invokevirtual 39, 3) := by decide +kernel
theorem dX4_removeAll_39 : decode cX4_removeAll 39 = .ok (.pop, 1) := by decide +kernel
theorem dX4_removeAll_40 : decode cX4_removeAll 40 = .ok (.aload_n 0, 1) := by decide +kernel
theorem dX4_removeAll_41 : decode cX4_removeAll 41 = .ok (.aload_n 0, 1) := by decide +kernel
theorem dX4_removeAll_42 : decode cX4_removeAll 42 = .ok (.aload_n 0, 1) := by decide +kernel
theorem dX4_removeAll_43 : decode cX4_removeAll 43 = .ok (.getfield 9, 3) := by decide +kernel
theorem dX4_removeAll_46 : decode cX4_removeAll 46 = .ok (.iload_n 1, 1) := by decide +kernel
theorem dX4_removeAll_47 : decode cX4_removeAll 47 = .ok (.invokevirtual 39, 3) := by decide +kernel
theorem dX4_removeAll_50 : decode cX4_removeAll 50 = .ok (.putfield 27, 3) := by decide +kernel
theorem dX4_removeAll_53 : decode cX4_removeAll 53 = .ok (.return_, 1) := by decide +kernel
set_option maxRecDepth 20000 in
theorem ggX4_squeeze_X7_isIn : GoodIn wsX4_squeeze wsX7_isIn := goodIn_r _ [5] (by decide +kernel) (by decide +kernel)
set_option maxRecDepth 20000 in
theorem gX4_squeeze_X7_isIn_n43 : GoodIn wsX4_squeeze (wsX7_isIn) := ggX4_squeeze_X7_isIn
theorem dX4_squeeze_0 : decode cX4_squeeze 0 = .ok (.iconst 0, 1) := by decide +kernel
theorem dX4_squeeze_1 : decode cX4_squeeze 1 = .ok (.istore_n 3, 1) := by decide +kernel
theorem dX4_squeeze_2 : decode cX4_squeeze 2 = .ok (.iconst 0, 1) := by decide +kernel
theorem dX4_squeeze_3 : decode cX4_squeeze 3 = .ok (.istore 4, 2) := by decide +kernel
theorem dX4_squeeze_5 : decode cX4_squeeze 5 = .ok (.iload 4, 2) := by decide +kernel
theorem dX4_squeeze_7 : decode cX4_squeeze 7 = .ok (.aload_n 0, 1) := by decide +kernel
theorem dX4_squeeze_8 : decode cX4_squeeze 8 = .ok (.getfield 27, 3) := by decide +kernel
theorem dX4_squeeze_11 : decode cX4_squeeze 11 = .ok (.if_icmp .ge 33, 3) := by decide +kernel
theorem dX4_squeeze_14 : decode cX4_squeeze 14 = .ok (.aload_n 0, 1) := by decide +kernel
theorem dX4_squeeze_15 : decode cX4_squeeze 15 = .ok (.getfield 9, 3) := by decide +kernel
theorem dX4_squeeze_18 : decode cX4_squeeze 18 = .ok (.iload 4, 2) := by decide +kernel
theorem dX4_squeeze_20 : decode cX4_squeeze 20 = .ok (.iaload, 1) := by decide +kernel
theorem dX4_squeeze_21 : decode cX4_squeeze 21 = .ok (.iload_n 2, 1) := by decide +kernel
theorem dX4_squeeze_22 : decode cX4_squeeze 22 = .ok (.invokestatic 43, 3) := by decide +kernel
theorem dX4_squeeze_25 : decode cX4_squeeze 25 = .ok (.ifCond .ne 13, 3) := by decide +kernel
theorem dX4_squeeze_28 : decode cX4_squeeze 28 = .ok (.aload_n 1, 1) := by decide +kernel
theorem dX4_squeeze_29 : decode cX4_squeeze 29 = .ok (.iload_n 3, 1) := by decide +kernel
theorem dX4_squeeze_30 : decode cX4_squeeze 30 = .ok (.aload_n 1, 1) := by decide +kernel
theorem dX4_squeeze_31 : decode cX4_squeeze 31 = .ok (.iload 4, 2) := by decide +kernel
theorem dX4_squeeze_33 : decode cX4_squeeze 33 = .ok (.iaload, 1) := by decide +kernel
theorem dX4_squeeze_34 : decode cX4_squeeze 34 = .ok (.iastore, 1) := by decide +kernel
theorem dX4_squeeze_35 : decode cX4_squeeze 35 = .ok (.iinc 3 1, 3) := by decide +kernel
theorem dX4_squeeze_38 : decode cX4_squeeze 38 = .ok (.iinc 4 1, 3) := by decide +kernel
theorem dX4_squeeze_41 : decode cX4_squeeze 41 = .ok (.goto (-36), 3) := by decide +kernel
theorem dX4_squeeze_44 : decode cX4_squeeze 44 = .ok (.iload_n 3, 1) := by decide +kernel
theorem dX4_squeeze_45 : decode cX4_squeeze 45 = .ok (.ireturn, 1) := by decide +kernel
set_option maxRecDepth 20000 in
theorem ggX4_copyFrom_X4_appendAll : GoodIn wsX4_copyFrom wsX4_appendAll := goodIn_r _ [6, 1, 7, 8, 9, 10, 11, 12, 13, 5, 14, 15, 16, 17, 18, 19, 20, 21] (by decide +kernel) (by decide +kernel)
set_option maxRecDepth 20000 in
theorem gX4_copyFrom_X4_appendAll : GoodIn wsX4_copyFrom (wsV RX4 47 RX4 yX4_appendAll wsX4_appendAll) := goodIn_app (goodIn_of _ (by decide +kernel)) ggX4_copyFrom_X4_appendAll
theorem dX4_copyFrom_0 : decode cX4_copyFrom 0 = .ok (.aload_n 0, 1) := by decide +kernel
theorem dX4_copyFrom_1 : decode cX4_copyFrom 1 = .ok (.iconst 0, 1) := by decide +kernel
theorem dX4_copyFrom_2 : decode cX4_copyFrom 2 = .ok (.putfield 27, 3) := by decide +kernel
theorem dX4_copyFrom_5 : decode cX4_copyFrom 5 = .ok (.aload_n 0, 1) := by decide +kernel
theorem dX4_copyFrom_6 : decode cX4_copyFrom 6 = .ok (.aload_n 1, 1) := by decide +kernel
theorem dX4_copyFrom_7 : decode cX4_copyFrom 7 = .ok (.invokevirtual 47, 3) := by decide +kernel
theorem dX4_copyFrom_10 : decode cX4_copyFrom 10 = .ok (.return_, 1) := by decide +kernel
set_option maxRecDepth 20000 in
theorem ggX4_startFrom_X4_copyFrom : GoodIn wsX4_startFrom wsX4_copyFrom := goodIn_r _ [7, 1, 8, 9, 10, 6, 11, 12, 13, 14, 15, 16, 17, 18, 19, 2, 20, 21, 22, 23, 24, 25] (by decide +kernel) (by decide +kernel)
set_option maxRecDepth 20000 in
theorem gX4_startFrom_X4_copyFrom : GoodIn wsX4_startFrom (wsV RX4 51 RX4 yX4_copyFrom wsX4_copyFrom) := goodIn_app (goodIn_of _ (by decide +kernel)) ggX4_startFrom_X4_copyFrom
theorem dX4_startFrom_0 : decode cX4_startFrom 0 = .ok (.aload_n 0, 1) := by decide +kernel
theorem dX4_startFrom_1 : decode cX4_startFrom 1 = .ok (.aload_n 1, 1) := by decide +kernel
theorem dX4_startFrom_2 : decode cX4_startFrom 2 = .ok (.invokevirtual 51, 3) := by decide +kernel
theorem dX4_startFrom_5 : decode cX4_startFrom 5 = .ok (.iconst 0, 1) := by decide +kernel
theorem dX4_startFrom_6 : decode cX4_startFrom 6 = .ok (.istore_n 2, 1) := by decide +kernel
theorem dX4_startFrom_7 : decode cX4_startFrom 7 = .ok (.iload_n 2, 1) := by decide +kernel
theorem dX4_startFrom_8 : decode cX4_startFrom 8 = .ok (.aload_n 0, 1) := by decide +kernel
theorem dX4_startFrom_9 : decode cX4_startFrom 9 = .ok (.getfield 27, 3) := by decide +kernel
theorem dX4_startFrom_12 : decode cX4_startFrom 12 = .ok (.if_icmp .ge 16, 3) := by decide +kernel
theorem dX4_startFrom_15 : decode cX4_startFrom 15 = .ok (.aload_n 0, 1) := by decide +kernel
theorem dX4_startFrom_16 : decode cX4_startFrom 16 = .ok (.getfield 24, 3) := by decide +kernel
theorem dX4_startFrom_19 : decode cX4_startFrom 19 = .ok (.iload_n 2, 1) := by decide +kernel
theorem dX4_startFrom_20 : decode cX4_startFrom 20 = .ok (.iload_n 2, 1) := by decide +kernel
theorem dX4_startFrom_21 : decode cX4_startFrom 21 = .ok (.iastore, 1) := by decide +kernel
theorem dX4_startFrom_22 : decode cX4_startFrom 22 = .ok (.iinc 2 1, 3) := by decide +kernel
theorem dX4_startFrom_25 : decode cX4_startFrom 25 = .ok (.goto (-18), 3) := by decide +kernel
theorem dX4_startFrom_28 : decode cX4_startFrom 28 = .ok (.return_, 1) := by decide +kernel
set_option maxRecDepth 20000 in
theorem ggX5_init_X1_init : GoodIn wsX5_init wsX1_init := goodIn_r _ [9, 10, 2, 3, 11, 12, 13, 14] (by decide +kernel) (by decide +kernel)
set_option maxRecDepth 20000 in
theorem gX5_init_X1_init_n9 : GoodIn wsX5_init (wsX1_init) := ggX5_init_X1_init
theorem dX5_init_0 : decode cX5_init 0 = .ok (.aload_n 0, 1) := by decide +kernel
theorem dX5_init_1 : decode cX5_init 1 = .ok (.invokespecial 1, 3) := by decide +kernel
theorem dX5_init_4 : decode cX5_init 4 = .ok (.aload_n 0, 1) := by decide +kernel
theorem dX5_init_5 : decode cX5_init 5 = .ok (.new 7, 3) := by decide +kernel
theorem dX5_init_8 : decode cX5_init 8 = .ok (.dup, 1) := by decide +kernel
theorem dX5_init_9 : decode cX5_init 9 = .ok (.invokespecial 9, 3) := by decide +kernel
theorem dX5_init_12 : decode cX5_init 12 = .ok (.putfield 10, 3) := by decide +kernel
theorem dX5_init_15 : decode cX5_init 15 = .ok (.return_, 1) := by decide +kernel
theorem dX5_fill_0 : decode cX5_fill 0 = .ok (.aload_n 0, 1) := by decide +kernel
theorem dX5_fill_1 : decode cX5_fill 1 = .ok (.iload_n 1, 1) := by decide +kernel
theorem dX5_fill_2 : decode cX5_fill 2 = .ok (.putfield 16, 3) := by decide +kernel
theorem dX5_fill_5 : decode cX5_fill 5 = .ok (.aload_n 0, 1) := by decide +kernel
theorem dX5_fill_6 : decode cX5_fill 6 = .ok (.iload_n 2, 1) := by decide +kernel
theorem dX5_fill_7 : decode cX5_fill 7 = .ok (.putfield 20, 3) := by decide +kernel
theorem dX5_fill_10 : decode cX5_fill 10 = .ok (.aload_n 0, 1) := by decide +kernel
theorem dX5_fill_11 : decode cX5_fill 11 = .ok (.iload_n 3, 1) := by decide +kernel
theorem dX5_fill_12 : decode cX5_fill 12 = .ok (.putfield 23, 3) := by decide +kernel
theorem dX5_fill_15 : decode cX5_fill 15 = .ok (.aload_n 0, 1) := by decide +kernel
theorem dX5_fill_16 : decode cX5_fill 16 = .ok (.iload 4, 2) := by decide +kernel
theorem dX5_fill_18 : decode cX5_fill 18 = .ok (.putfield 26, 3) := by decide +kernel
theorem dX5_fill_21 : decode cX5_fill 21 = .ok (.aload_n 0, 1) := by decide +kernel
theorem dX5_fill_22 : decode cX5_fill 22 = .ok (.iload 5, 2) := by decide +kernel
theorem dX5_fill_24 : decode cX5_fill 24 = .ok (.putfield 29, 3) := by decide +kernel
theorem dX5_fill_27 : decode cX5_fill 27 = .ok (.return_, 1) := by decide +kernel
set_option maxRecDepth 20000 in
theorem ggX6_init_X0_init : GoodIn wsX6_init wsX0_init := goodIn_r _ [10, 11, 2, 3, 12, 13, 14, 18, 19, 20, 21, 22, 23] (by decide +kernel) (by decide +kernel)
set_option maxRecDepth 20000 in
theorem gX6_init_X0_init_n21 : GoodIn wsX6_init (wsX0_init) := ggX6_init_X0_init
theorem dX6_init_0 : decode cX6_init 0 = .ok (.aload_n 0, 1) := by decide +kernel
theorem dX6_init_1 : decode cX6_init 1 = .ok (.invokespecial 3, 3) := by decide +kernel
theorem dX6_init_4 : decode cX6_init 4 = .ok (.aload_n 0, 1) := by decide +kernel
theorem dX6_init_5 : decode cX6_init 5 = .ok (.bipush 24, 2) := by decide +kernel
theorem dX6_init_7 : decode cX6_init 7 = .ok (.anewarray 9, 3) := by decide +kernel
theorem dX6_init_10 : decode cX6_init 10 = .ok (.putfield 11, 3) := by decide +kernel
theorem dX6_init_13 : decode cX6_init 13 = .ok (.aload_n 0, 1) := by decide +kernel
theorem dX6_init_14 : decode cX6_init 14 = .ok (.iconst 0, 1) := by decide +kernel
theorem dX6_init_15 : decode cX6_init 15 = .ok (.putfield 17, 3) := by decide +kernel
theorem dX6_init_18 : decode cX6_init 18 = .ok (.iconst 0, 1) := by decide +kernel
theorem dX6_init_19 : decode cX6_init 19 = .ok (.istore_n 1, 1) := by decide +kernel
theorem dX6_init_20 : decode cX6_init 20 = .ok (.iload_n 1, 1) := by decide +kernel
theorem dX6_init_21 : decode cX6_init 21 = .ok (.bipush 24, 2) := by decide +kernel
theorem dX6_init_23 : decode cX6_init 23 = .ok (.if_icmp .ge 22, 3) := by decide +kernel
theorem dX6_init_26 : decode cX6_init 26 = .ok (.aload_n 0, 1) := by decide +kernel
theorem dX6_init_27 : decode cX6_init 27 = .ok (.getfield 11, 3) := by decide +kernel
theorem dX6_init_30 : decode cX6_init 30 = .ok (.iload_n 1, 1) := by decide +kernel
theorem dX6_init_31 : decode cX6_init 31 = .ok (.new 9, 3) := by decide +kernel
theorem dX6_init_34 : decode cX6_init 34 = .ok (.dup, 1) := by decide +kernel
theorem dX6_init_35 : decode cX6_init 35 = .ok (.invokespecial 21, 3) := by decide +kernel
theorem dX6_init_38 : decode cX6_init 38 = .ok (.aastore, 1) := by decide +kernel
theorem dX6_init_39 : decode cX6_init 39 = .ok (.iinc 1 1, 3) := by decide +kernel
theorem dX6_init_42 : decode cX6_init 42 = .ok (.goto (-22), 3) := by decide +kernel
theorem dX6_init_45 : decode cX6_init 45 = .ok (.return_, 1) := by decide +kernel
set_option maxRecDepth 20000 in
theorem ggX6_find_X6_firstWithId : GoodIn wsX6_find wsX6_firstWithId := goodIn_r _ [5, 6, 7, 8, 9, 10, 11, 12, 13, 14, 15, 16] (by decide +kernel) (by decide +kernel)
set_option maxRecDepth 20000 in
theorem gX6_find_X6_firstWithId : GoodIn wsX6_find (wsV RX6 22 RX6 yX6_firstWithId wsX6_firstWithId) := goodIn_app (goodIn_of _ (by decide +kernel)) ggX6_find_X6_firstWithId
theorem dX6_find_0 : decode cX6_find 0 = .ok (.iload_n 1, 1) := by decide +kernel
theorem dX6_find_1 : decode cX6_find 1 = .ok (.ifCond .ne 5, 3) := by decide +kernel
theorem dX6_find_4 : decode cX6_find 4 = .ok (.aconst_null, 1) := by decide +kernel
theorem dX6_find_5 : decode cX6_find 5 = .ok (.areturn, 1) := by decide +kernel
theorem dX6_find_6 : decode cX6_find 6 = .ok (.aload_n 0, 1) := by decide +kernel
theorem dX6_find_7 : decode cX6_find 7 = .ok (.iload_n 1, 1) := by decide +kernel
theorem dX6_find_8 : decode cX6_find 8 = .ok (.invokevirtual 22, 3) := by decide +kernel
theorem dX6_find_11 : decode cX6_find 11 = .ok (.areturn, 1) := by decide +kernel
set_option maxRecDepth 20000 in
theorem ggX6_add_X6_firstWithId : GoodIn wsX6_add wsX6_firstWithId := goodIn_r _ [10, 11, 3, 12, 13, 14, 15, 16, 17, 18, 19, 20] (by decide +kernel) (by decide +kernel)
set_option maxRecDepth 20000 in
theorem gX6_add_X6_firstWithId : GoodIn wsX6_add (wsV RX6 22 RX6 yX6_firstWithId wsX6_firstWithId) := goodIn_app (goodIn_of _ (by decide +kernel)) ggX6_add_X6_firstWithId
theorem dX6_add_0 : decode cX6_add 0 = .ok (.aload_n 0, 1) := by decide +kernel
theorem dX6_add_1 : decode cX6_add 1 = .ok (.iconst 0, 1) := by decide +kernel
theorem dX6_add_2 : decode cX6_add 2 = .ok (.invokevirtual 22, 3) := by decide +kernel
theorem dX6_add_5 : decode cX6_add 5 = .ok (.astore_n 3, 1) := by decide +kernel
theorem dX6_add_6 : decode cX6_add 6 = .ok (.aload_n 3, 1) := by decide +kernel
theorem dX6_add_7 : decode cX6_add 7 = .ok (.ifnull 41, 3) := by decide +kernel
theorem dX6_add_10 : decode cX6_add 10 = .ok (.aload_n 0, 1) := by decide +kernel
theorem dX6_add_11 : decode cX6_add 11 = .ok (.dup, 1) := by decide +kernel
theorem dX6_add_12 : decode cX6_add 12 = .ok (.getfield 17, 3) := by decide +kernel
theorem dX6_add_15 : decode cX6_add 15 = .ok (.iconst 1, 1) := by decide +kernel
theorem dX6_add_16 : decode cX6_add 16 = .ok (.iadd, 1) := by decide +kernel
theorem dX6_add_17 : decode cX6_add 17 = .ok (.putfield 17, 3) := by decide +kernel
theorem dX6_add_20 : decode cX6_add 20 = .ok (.aload_n 0, 1) := by decide +kernel
theorem dX6_add_21 : decode cX6_add 21 = .ok (.dup, 1) := by decide +kernel
theorem dX6_add_22 : decode cX6_add 22 = .ok (.getfield 26, 3) := by decide +kernel
theorem dX6_add_25 : decode cX6_add 25 = .ok (.iconst 1, 1) := by decide +kernel
theorem dX6_add_26 : decode cX6_add 26 = .ok (.iadd, 1) := by decide +kernel
theorem dX6_add_27 : decode cX6_add 27 = .ok (.putfield 26, 3) := by decide +kernel
theorem dX6_add_30 : decode cX6_add 30 = .ok (.aload_n 3, 1) := by decide +kernel
theorem dX6_add_31 : decode cX6_add 31 = .ok (.aload_n 0, 1) := by decide +kernel
theorem dX6_add_32 : decode cX6_add 32 = .ok (.getfield 17, 3) := by decide +kernel
theorem dX6_add_35 : decode cX6_add 35 = .ok (.putfield 29, 3) := by decide +kernel
theorem dX6_add_38 : decode cX6_add 38 = .ok (.aload_n 3, 1) := by decide +kernel
theorem dX6_add_39 : decode cX6_add 39 = .ok (.iload_n 1, 1) := by decide +kernel
theorem dX6_add_40 : decode cX6_add 40 = .ok (.putfield 32, 3) := by decide +kernel
theorem dX6_add_43 : decode cX6_add 43 = .ok (.aload_n 3, 1) := by decide +kernel
theorem dX6_add_44 : decode cX6_add 44 = .ok (.iload_n 2, 1) := by decide +kernel
theorem dX6_add_45 : decode cX6_add 45 = .ok (.putfield 35, 3) := by decide +kernel
theorem dX6_add_48 : decode cX6_add 48 = .ok (.aload_n 3, 1) := by decide +kernel
theorem dX6_add_49 : decode cX6_add 49 = .ok (.areturn, 1) := by decide +kernel
theorem dX6_firstWithId_0 : decode cX6_firstWithId 0 = .ok (.iconst 0, 1) := by decide +kernel
theorem dX6_firstWithId_1 : decode cX6_firstWithId 1 = .ok (.istore_n 2, 1) := by decide +kernel
theorem dX6_firstWithId_2 : decode cX6_firstWithId 2 = .ok (.iload_n 2, 1) := by decide +kernel
theorem dX6_firstWithId_3 : decode cX6_firstWithId 3 = .ok (.bipush 24, 2) := by decide +kernel
theorem dX6_firstWithId_5 : decode cX6_firstWithId 5 = .ok (.if_icmp .ge 29, 3) := by decide +kernel
theorem dX6_firstWithId_8 : decode cX6_firstWithId 8 = .ok (.aload_n 0, 1) := by decide +kernel
theorem dX6_firstWithId_9 : decode cX6_firstWithId 9 = .ok (.getfield 11, 3) := by decide +kernel
theorem dX6_firstWithId_12 : decode cX6_firstWithId 12 = .ok (.iload_n 2, 1) := by decide +kernel
theorem dX6_firstWithId_13 : decode cX6_firstWithId 13 = .ok (.aaload, 1) := by decide +kernel
theorem dX6_firstWithId_14 : decode cX6_firstWithId 14 = .ok (.getfield 29, 3) := by decide +kernel
theorem dX6_firstWithId_17 : decode cX6_firstWithId 17 = .ok (.iload_n 1, 1) := by decide +kernel
theorem dX6_firstWithId_18 : decode cX6_firstWithId 18 = .ok (.if_icmp .ne 10, 3) := by decide +kernel
theorem dX6_firstWithId_21 : decode cX6_firstWithId 21 = .ok (.aload_n 0, 1) := by decide +kernel
theorem dX6_firstWithId_22 : decode cX6_firstWithId 22 = .ok (.getfield 11, 3) := by decide +kernel
theorem dX6_firstWithId_25 : decode cX6_firstWithId 25 = .ok (.iload_n 2, 1) := by decide +kernel
theorem dX6_firstWithId_26 : decode cX6_firstWithId 26 = .ok (.aaload, 1) := by decide +kernel
theorem dX6_firstWithId_27 : decode cX6_firstWithId 27 = .ok (.areturn, 1) := by decide +kernel
theorem dX6_firstWithId_28 : decode cX6_firstWithId 28 = .ok (.iinc 2 1, 3) := by decide +kernel
theorem dX6_firstWithId_31 : decode cX6_firstWithId 31 = .ok (.goto (-29), 3) := by decide +kernel
theorem dX6_firstWithId_34 : decode cX6_firstWithId 34 = .ok (.aconst_null, 1) := by decide +kernel
theorem dX6_firstWithId_35 : decode cX6_firstWithId 35 = .ok (.areturn, 1) := by decide +kernel
theorem dX6_remove_0 : decode cX6_remove 0 = .ok (.aload_n 1, 1) := by decide +kernel
theorem dX6_remove_1 : decode cX6_remove 1 = .ok (.iconst 0, 1) := by decide +kernel
theorem dX6_remove_2 : decode cX6_remove 2 = .ok (.putfield 29, 3) := by decide +kernel
theorem dX6_remove_5 : decode cX6_remove 5 = .ok (.aload_n 0, 1) := by decide +kernel
theorem dX6_remove_6 : decode cX6_remove 6 = .ok (.dup, 1) := by decide +kernel
theorem dX6_remove_7 : decode cX6_remove 7 = .ok (.getfield 26, 3) := by decide +kernel
theorem dX6_remove_10 : decode cX6_remove 10 = .ok (.iconst 1, 1) := by decide +kernel
theorem dX6_remove_11 : decode cX6_remove 11 = .ok (.isub, 1) := by decide +kernel
theorem dX6_remove_12 : decode cX6_remove 12 = .ok (.putfield 26, 3) := by decide +kernel
theorem dX6_remove_15 : decode cX6_remove 15 = .ok (.return_, 1) := by decide +kernel
set_option maxRecDepth 20000 in
theorem ggX6_countOf_X0_isOf : GoodIn wsX6_countOf wsX0_isOf := goodIn_r _ [6, 7, 8, 12, 13, 14, 15, 16, 17] (by decide +kernel) (by decide +kernel)
set_option maxRecDepth 20000 in
theorem gX6_countOf_X0_isOf : GoodIn wsX6_countOf (wsV RX6 38 RX0 yX0_isOf wsX0_isOf) := goodIn_app (goodIn_of _ (by decide +kernel)) ggX6_countOf_X0_isOf
theorem dX6_countOf_0 : decode cX6_countOf 0 = .ok (.iconst 0, 1) := by decide +kernel
theorem dX6_countOf_1 : decode cX6_countOf 1 = .ok (.istore_n 2, 1) := by decide +kernel
theorem dX6_countOf_2 : decode cX6_countOf 2 = .ok (.iconst 0, 1) := by decide +kernel
theorem dX6_countOf_3 : decode cX6_countOf 3 = .ok (.istore_n 3, 1) := by decide +kernel
theorem dX6_countOf_4 : decode cX6_countOf 4 = .ok (.iload_n 3, 1) := by decide +kernel
theorem dX6_countOf_5 : decode cX6_countOf 5 = .ok (.bipush 24, 2) := by decide +kernel
theorem dX6_countOf_7 : decode cX6_countOf 7 = .ok (.if_icmp .ge 25, 3) := by decide +kernel
theorem dX6_countOf_10 : decode cX6_countOf 10 = .ok (.aload_n 0, 1) := by decide +kernel
theorem dX6_countOf_11 : decode cX6_countOf 11 = .ok (.getfield 11, 3) := by decide +kernel
theorem dX6_countOf_14 : decode cX6_countOf 14 = .ok (.iload_n 3, 1) := by decide +kernel
theorem dX6_countOf_15 : decode cX6_countOf 15 = .ok (.aaload, 1) := by decide +kernel
theorem dX6_countOf_16 : decode cX6_countOf 16 = .ok (.iload_n 1, 1) := by decide +kernel
theorem dX6_countOf_17 : decode cX6_countOf 17 = .ok (.invokevirtual 38, 3) := by decide +kernel
theorem dX6_countOf_20 : decode cX6_countOf 20 = .ok (.ifCond .eq 6, 3) := by decide +kernel
theorem dX6_countOf_23 : decode cX6_countOf 23 = .ok (.iinc 2 1, 3) := by decide +kernel
theorem dX6_countOf_26 : decode cX6_countOf 26 = .ok (.iinc 3 1, 3) := by decide +kernel
theorem dX6_countOf_29 : decode cX6_countOf 29 = .ok (.goto (-25), 3) := by decide +kernel
theorem dX6_countOf_32 : decode cX6_countOf 32 = .ok (.iload_n 2, 1) := by decide +kernel
theorem dX6_countOf_33 : decode cX6_countOf 33 = .ok (.ireturn, 1) := by decide +kernel
set_option maxRecDepth 20000 in
theorem ggX6_countKeptAs_X0_isOf : GoodIn wsX6_countKeptAs wsX0_isOf := goodIn_r _ [7, 8, 9, 13, 14, 15, 16, 17, 18] (by decide +kernel) (by decide +kernel)
set_option maxRecDepth 20000 in
theorem gX6_countKeptAs_X0_isOf : GoodIn wsX6_countKeptAs (wsV RX6 38 RX0 yX0_isOf wsX0_isOf) := goodIn_app (goodIn_of _ (by decide +kernel)) ggX6_countKeptAs_X0_isOf
theorem dX6_countKeptAs_0 : decode cX6_countKeptAs 0 = .ok (.iconst 0, 1) := by decide +kernel
theorem dX6_countKeptAs_1 : decode cX6_countKeptAs 1 = .ok (.istore_n 3, 1) := by decide +kernel
theorem dX6_countKeptAs_2 : decode cX6_countKeptAs 2 = .ok (.iconst 0, 1) := by decide +kernel
theorem dX6_countKeptAs_3 : decode cX6_countKeptAs 3 = .ok (.istore 4, 2) := by decide +kernel
theorem dX6_countKeptAs_5 : decode cX6_countKeptAs 5 = .ok (.iload 4, 2) := by decide +kernel
theorem dX6_countKeptAs_7 : decode cX6_countKeptAs 7 = .ok (.bipush 24, 2) := by decide +kernel
theorem dX6_countKeptAs_9 : decode cX6_countKeptAs 9 = .ok (.if_icmp .ge 40, 3) := by decide +kernel
theorem dX6_countKeptAs_12 : decode cX6_countKeptAs 12 = .ok (.aload_n 0, 1) := by decide +kernel
theorem dX6_countKeptAs_13 : decode cX6_countKeptAs 13 = .ok (.getfield 11, 3) := by decide +kernel
theorem dX6_countKeptAs_16 : decode cX6_countKeptAs 16 = .ok (.iload 4, 2) := by decide +kernel
theorem dX6_countKeptAs_18 : decode cX6_countKeptAs 18 = .ok (.aaload, 1) := by decide +kernel
theorem dX6_countKeptAs_19 : decode cX6_countKeptAs 19 = .ok (.iload_n 1, 1) := by decide +kernel
theorem dX6_countKeptAs_20 : decode cX6_countKeptAs 20 = .ok (.invokevirtual 38, 3) := by decide +kernel
theorem dX6_countKeptAs_23 : decode cX6_countKeptAs 23 = .ok (.ifCond .eq 20, 3) := by decide +kernel
theorem dX6_countKeptAs_26 : decode cX6_countKeptAs 26 = .ok (.aload_n 0, 1) := by decide +kernel
theorem dX6_countKeptAs_27 : decode cX6_countKeptAs 27 = .ok (.getfield 11, 3) := by decide +kernel
theorem dX6_countKeptAs_30 : decode cX6_countKeptAs 30 = .ok (.iload 4, 2) := by decide +kernel
theorem dX6_countKeptAs_32 : decode cX6_countKeptAs 32 = .ok (.aaload, 1) := by decide +kernel
theorem dX6_countKeptAs_33 : decode cX6_countKeptAs 33 = .ok (.getfield 35, 3) := by decide +kernel
theorem dX6_countKeptAs_36 : decode cX6_countKeptAs 36 = .ok (.iload_n 2, 1) := by decide +kernel
theorem dX6_countKeptAs_37 : decode cX6_countKeptAs 37 = .ok (.if_icmp .ne 6, 3) := by decide +kernel
theorem dX6_countKeptAs_40 : decode cX6_countKeptAs 40 = .ok (.iinc 3 1, 3) := by decide +kernel
theorem dX6_countKeptAs_43 : decode cX6_countKeptAs 43 = .ok (.iinc 4 1, 3) := by decide +kernel
theorem dX6_countKeptAs_46 : decode cX6_countKeptAs 46 = .ok (.goto (-41), 3) := by decide +kernel
theorem dX6_countKeptAs_49 : decode cX6_countKeptAs 49 = .ok (.iload_n 3, 1) := by decide +kernel
theorem dX6_countKeptAs_50 : decode cX6_countKeptAs 50 = .ok (.ireturn, 1) := by decide +kernel
set_option maxRecDepth 20000 in
theorem ggX6_rememberAll_X0_isOf : GoodIn wsX6_rememberAll wsX0_isOf := goodIn_r _ [12, 13, 14, 18, 19, 20, 21, 22, 23] (by decide +kernel) (by decide +kernel)
set_option maxRecDepth 20000 in
theorem gX6_rememberAll_X0_isOf : GoodIn wsX6_rememberAll (wsV RX6 38 RX0 yX0_isOf wsX0_isOf) := goodIn_app (goodIn_of _ (by decide +kernel)) ggX6_rememberAll_X0_isOf
theorem dX6_rememberAll_0 : decode cX6_rememberAll 0 = .ok (.iconst 0, 1) := by decide +kernel
theorem dX6_rememberAll_1 : decode cX6_rememberAll 1 = .ok (.istore_n 2, 1) := by decide +kernel
theorem dX6_rememberAll_2 : decode cX6_rememberAll 2 = .ok (.iload_n 2, 1) := by decide +kernel
theorem dX6_rememberAll_3 : decode cX6_rememberAll 3 = .ok (.bipush 24, 2) := by decide +kernel
theorem dX6_rememberAll_5 : decode cX6_rememberAll 5 = .ok (.if_icmp .ge 47, 3) := by decide +kernel
theorem dX6_rememberAll_8 : decode cX6_rememberAll 8 = .ok (.aload_n 0, 1) := by decide +kernel
theorem dX6_rememberAll_9 : decode cX6_rememberAll 9 = .ok (.getfield 11, 3) := by decide +kernel
theorem dX6_rememberAll_12 : decode cX6_rememberAll 12 = .ok (.iload_n 2, 1) := by decide +kernel
theorem dX6_rememberAll_13 : decode cX6_rememberAll 13 = .ok (.aaload, 1) := by decide +kernel
theorem dX6_rememberAll_14 : decode cX6_rememberAll 14 = .ok (.iload_n 1, 1) := by decide +kernel
theorem dX6_rememberAll_15 : decode cX6_rememberAll 15 = .ok (.invokevirtual 38, 3) := by decide +kernel
theorem dX6_rememberAll_18 : decode cX6_rememberAll 18 = .ok (.ifCond .eq 28, 3) := by decide +kernel
theorem dX6_rememberAll_21 : decode cX6_rememberAll 21 = .ok (.aload_n 0, 1) := by decide +kernel
theorem dX6_rememberAll_22 : decode cX6_rememberAll 22 = .ok (.getfield 11, 3) := by decide +kernel
theorem dX6_rememberAll_25 : decode cX6_rememberAll 25 = .ok (.iload_n 2, 1) := by decide +kernel
theorem dX6_rememberAll_26 : decode cX6_rememberAll 26 = .ok (.aaload, 1) := by decide +kernel
theorem dX6_rememberAll_27 : decode cX6_rememberAll 27 = .ok (.getfield 42, 3) := by decide +kernel
theorem dX6_rememberAll_30 : decode cX6_rememberAll 30 = .ok (.iconst 0, 1) := by decide +kernel
theorem dX6_rememberAll_31 : decode cX6_rememberAll 31 = .ok (.aload_n 0, 1) := by decide +kernel
theorem dX6_rememberAll_32 : decode cX6_rememberAll 32 = .ok (.getfield 11, 3) := by decide +kernel
theorem dX6_rememberAll_35 : decode cX6_rememberAll 35 = .ok (.iload_n 2, 1) := by decide +kernel
theorem dX6_rememberAll_36 : decode cX6_rememberAll 36 = .ok (.aaload, 1) := by decide +kernel
theorem dX6_rememberAll_37 : decode cX6_rememberAll 37 = .ok (.getfield 46, 3) := by decide +kernel
theorem dX6_rememberAll_40 : decode cX6_rememberAll 40 = .ok (.iconst 0, 1) := by decide +kernel
theorem dX6_rememberAll_41 : decode cX6_rememberAll 41 = .ok (.bipush 6, 2) := by decide +kernel
theorem dX6_rememberAll_43 : decode cX6_rememberAll 43 = .ok (.invokestatic 49, 3) := by decide +kernel
theorem dX6_rememberAll_46 : decode cX6_rememberAll 46 = .ok (.iinc 2 1, 3) := by decide +kernel
theorem dX6_rememberAll_49 : decode cX6_rememberAll 49 = .ok (.goto (-47), 3) := by decide +kernel
theorem dX6_rememberAll_52 : decode cX6_rememberAll 52 = .ok (.return_, 1) := by decide +kernel
set_option maxRecDepth 20000 in
theorem ggX7_init_X2_init : GoodIn wsX7_init wsX2_init := goodIn_r _ [34, 35, 2, 3, 36, 24, 25, 37, 38, 39, 40, 41, 12, 42, 43, 44, 45, 46, 102, 103, 104, 105, 106, 107, 87, 88, 89, 90] (by decide +kernel) (by decide +kernel)
set_option maxRecDepth 20000 in
theorem gX7_init_X2_init_n15 : GoodIn wsX7_init (wsX2_init) := ggX7_init_X2_init
set_option maxRecDepth 20000 in
theorem ggX7_init_X6_init : GoodIn wsX7_init wsX6_init := goodIn_r _ [49, 50, 2, 3, 51, 52, 53, 54, 55, 56, 57, 58, 12, 59, 60, 91, 92, 93, 111, 112, 113, 114, 115, 116] (by decide +kernel) (by decide +kernel)
set_option maxRecDepth 20000 in
theorem gX7_init_X6_init : GoodIn wsX7_init (wsX6_init) := ggX7_init_X6_init
set_option maxRecDepth 20000 in
theorem ggX7_init_X1_init : GoodIn wsX7_init wsX1_init := goodIn_r _ [62, 63, 2, 3, 12, 64, 94, 95] (by decide +kernel) (by decide +kernel)
set_option maxRecDepth 20000 in
theorem gX7_init_X1_init_n29 : GoodIn wsX7_init (wsX1_init) := ggX7_init_X1_init
set_option maxRecDepth 20000 in
theorem ggX7_init_X5_init : GoodIn wsX7_init wsX5_init := goodIn_r _ [66, 67, 2, 3, 68, 15, 16, 69, 61, 62, 63, 12, 64, 94, 95, 96, 97, 98, 99, 100, 101] (by decide +kernel) (by decide +kernel)
set_option maxRecDepth 20000 in
theorem gX7_init_X5_init_n40 : GoodIn wsX7_init (wsX5_init) := ggX7_init_X5_init
set_option maxRecDepth 20000 in
theorem ggX7_init_X4_init : GoodIn wsX7_init wsX4_init := goodIn_r _ [40, 41, 2, 3, 12, 42, 43, 44, 45, 46, 102, 103, 104, 105, 106, 107] (by decide +kernel) (by decide +kernel)
set_option maxRecDepth 20000 in
theorem gX7_init_X4_init_n47 : GoodIn wsX7_init (wsX4_init) := ggX7_init_X4_init
set_option maxRecDepth 20000 in
theorem ggX7_init_X3_init : GoodIn wsX7_init wsX3_init := goodIn_r _ [71, 72, 2, 3, 73, 74, 75, 108, 109, 110] (by decide +kernel) (by decide +kernel)
set_option maxRecDepth 20000 in
theorem gX7_init_X3_init_n54 : GoodIn wsX7_init (wsX3_init) := ggX7_init_X3_init
theorem dX7_init_0 : decode cX7_init 0 = .ok (.aload_n 0, 1) := by decide +kernel
theorem dX7_init_1 : decode cX7_init 1 = .ok (.invokespecial 1, 3) := by decide +kernel
theorem dX7_init_4 : decode cX7_init 4 = .ok (.aload_n 0, 1) := by decide +kernel
theorem dX7_init_5 : decode cX7_init 5 = .ok (.iconst 4, 1) := by decide +kernel
theorem dX7_init_6 : decode cX7_init 6 = .ok (.anewarray 9, 3) := by decide +kernel
theorem dX7_init_9 : decode cX7_init 9 = .ok (.putfield 11, 3) := by decide +kernel
theorem dX7_init_12 : decode cX7_init 12 = .ok (.iconst 0, 1) := by decide +kernel
theorem dX7_init_13 : decode cX7_init 13 = .ok (.istore_n 1, 1) := by decide +kernel
theorem dX7_init_14 : decode cX7_init 14 = .ok (.iload_n 1, 1) := by decide +kernel
theorem dX7_init_15 : decode cX7_init 15 = .ok (.iconst 4, 1) := by decide +kernel
theorem dX7_init_16 : decode cX7_init 16 = .ok (.if_icmp .ge 22, 3) := by decide +kernel
theorem dX7_init_19 : decode cX7_init 19 = .ok (.aload_n 0, 1) := by decide +kernel
theorem dX7_init_20 : decode cX7_init 20 = .ok (.getfield 11, 3) := by decide +kernel
theorem dX7_init_23 : decode cX7_init 23 = .ok (.iload_n 1, 1) := by decide +kernel
theorem dX7_init_24 : decode cX7_init 24 = .ok (.new 9, 3) := by decide +kernel
theorem dX7_init_27 : decode cX7_init 27 = .ok (.dup, 1) := by decide +kernel
theorem dX7_init_28 : decode cX7_init 28 = .ok (.invokespecial 15, 3) := by decide +kernel
theorem dX7_init_31 : decode cX7_init 31 = .ok (.aastore, 1) := by decide +kernel
theorem dX7_init_32 : decode cX7_init 32 = .ok (.iinc 1 1, 3) := by decide +kernel
theorem dX7_init_35 : decode cX7_init 35 = .ok (.goto (-21), 3) := by decide +kernel
theorem dX7_init_38 : decode cX7_init 38 = .ok (.aload_n 0, 1) := by decide +kernel
theorem dX7_init_39 : decode cX7_init 39 = .ok (.new 16, 3) := by decide +kernel
theorem dX7_init_42 : decode cX7_init 42 = .ok (.dup, 1) := by decide +kernel
theorem dX7_init_43 : decode cX7_init 43 = .ok (.invokespecial 18, 3) := by decide +kernel
theorem dX7_init_46 : decode cX7_init 46 = .ok (.putfield 19, 3) := by decide +kernel
theorem dX7_init_49 : decode cX7_init 49 = .ok (.aload_n 0, 1) := by decide +kernel
theorem dX7_init_50 : decode cX7_init 50 = .ok (.bipush 8, 2) := by decide +kernel
theorem dX7_init_52 : decode cX7_init 52 = .ok (.newarray .int, 2) := by decide +kernel
theorem dX7_init_54 : decode cX7_init 54 = .ok (.putfield 23, 3) := by decide +kernel
theorem dX7_init_57 : decode cX7_init 57 = .ok (.aload_n 0, 1) := by decide +kernel
theorem dX7_init_58 : decode cX7_init 58 = .ok (.new 27, 3) := by decide +kernel
theorem dX7_init_61 : decode cX7_init 61 = .ok (.dup, 1) := by decide +kernel
theorem dX7_init_62 : decode cX7_init 62 = .ok (.invokespecial 29, 3) := by decide +kernel
theorem dX7_init_65 : decode cX7_init 65 = .ok (.putfield 30, 3) := by decide +kernel
theorem dX7_init_68 : decode cX7_init 68 = .ok (.aload_n 0, 1) := by decide +kernel
theorem dX7_init_69 : decode cX7_init 69 = .ok (.bipush 6, 2) := by decide +kernel
theorem dX7_init_71 : decode cX7_init 71 = .ok (.anewarray 34, 3) := by decide +kernel
theorem dX7_init_74 : decode cX7_init 74 = .ok (.putfield 36, 3) := by decide +kernel
theorem dX7_init_77 : decode cX7_init 77 = .ok (.iconst 0, 1) := by decide +kernel
theorem dX7_init_78 : decode cX7_init 78 = .ok (.istore_n 1, 1) := by decide +kernel
theorem dX7_init_79 : decode cX7_init 79 = .ok (.iload_n 1, 1) := by decide +kernel
theorem dX7_init_80 : decode cX7_init 80 = .ok (.bipush 6, 2) := by decide +kernel
theorem dX7_init_82 : decode cX7_init 82 = .ok (.if_icmp .ge 22, 3) := by decide +kernel
theorem dX7_init_85 : decode cX7_init 85 = .ok (.aload_n 0, 1) := by decide +kernel
theorem dX7_init_86 : decode cX7_init 86 = .ok (.getfield 36, 3) := by decide +kernel
theorem dX7_init_89 : decode cX7_init 89 = .ok (.iload_n 1, 1) := by decide +kernel
theorem dX7_init_90 : decode cX7_init 90 = .ok (.new 34, 3) := by decide +kernel
theorem dX7_init_93 : decode cX7_init 93 = .ok (.dup, 1) := by decide +kernel
theorem dX7_init_94 : decode cX7_init 94 = .ok (.invokespecial 40, 3) := by decide +kernel
theorem dX7_init_97 : decode cX7_init 97 = .ok (.aastore, 1) := by decide +kernel
theorem dX7_init_98 : decode cX7_init 98 = .ok (.iinc 1 1, 3) := by decide +kernel
theorem dX7_init_101 : decode cX7_init 101 = .ok (.goto (-22), 3) := by decide +kernel
theorem dX7_init_104 : decode cX7_init 104 = .ok (.aload_n 0, 1) := by decide +kernel
theorem dX7_init_105 : decode cX7_init 105 = .ok (.iconst (-1), 1) := by decide +kernel
theorem dX7_init_106 : decode cX7_init 106 = .ok (.putfield 41, 3) := by decide +kernel
theorem dX7_init_109 : decode cX7_init 109 = .ok (.aload_n 0, 1) := by decide +kernel
theorem dX7_init_110 : decode cX7_init 110 = .ok (.new 45, 3) := by decide +kernel
theorem dX7_init_113 : decode cX7_init 113 = .ok (.dup, 1) := by decide +kernel
theorem dX7_init_114 : decode cX7_init 114 = .ok (.invokespecial 47, 3) := by decide +kernel
theorem dX7_init_117 : decode cX7_init 117 = .ok (.putfield 48, 3) := by decide +kernel
theorem dX7_init_120 : decode cX7_init 120 = .ok (.aload_n 0, 1) := by decide +kernel
theorem dX7_init_121 : decode cX7_init 121 = .ok (.new 52, 3) := by decide +kernel
theorem dX7_init_124 : decode cX7_init 124 = .ok (.dup, 1) := by decide +kernel
theorem dX7_init_125 : decode cX7_init 125 = .ok (.invokespecial 54, 3) := by decide +kernel
theorem dX7_init_128 : decode cX7_init 128 = .ok (.putfield 55, 3) := by decide +kernel
theorem dX7_init_131 : decode cX7_init 131 = .ok (.aload_n 0, 1) := by decide +kernel
theorem dX7_init_132 : decode cX7_init 132 = .ok (.bipush 24, 2) := by decide +kernel
theorem dX7_init_134 : decode cX7_init 134 = .ok (.anewarray 59, 3) := by decide +kernel
theorem dX7_init_137 : decode cX7_init 137 = .ok (.putfield 61, 3) := by decide +kernel
theorem dX7_init_140 : decode cX7_init 140 = .ok (.return_, 1) := by decide +kernel
theorem dX7_newClass_0 : decode cX7_newClass 0 = .ok (.aload_n 0, 1) := by decide +kernel
theorem dX7_newClass_1 : decode cX7_newClass 1 = .ok (.getfield 65, 3) := by decide +kernel
theorem dX7_newClass_4 : decode cX7_newClass 4 = .ok (.iconst 4, 1) := by decide +kernel
theorem dX7_newClass_5 : decode cX7_newClass 5 = .ok (.if_icmp .lt 13, 3) := by decide +kernel
theorem dX7_newClass_8 : decode cX7_newClass 8 = .ok (.new 68, 3) := by decide +kernel
theorem dX7_newClass_11 : decode cX7_newClass 11 = .ok (.dup, 1) := by decide +kernel
theorem dX7_newClass_12 : decode cX7_newClass 12 = .ok (.ldc 70, 2) := by decide +kernel
theorem dX7_newClass_14 : decode cX7_newClass 14 = .ok (.invokespecial 72, 3) := by decide +kernel
theorem dX7_newClass_17 : decode cX7_newClass 17 = .ok (.athrow, 1) := by decide +kernel
theorem dX7_newClass_18 : decode cX7_newClass 18 = .ok (.aload_n 0, 1) := by decide +kernel
theorem dX7_newClass_19 : decode cX7_newClass 19 = .ok (.dup, 1) := by decide +kernel
theorem dX7_newClass_20 : decode cX7_newClass 20 = .ok (.getfield 65, 3) := by decide +kernel
theorem dX7_newClass_23 : decode cX7_newClass 23 = .ok (.iconst 1, 1) := by decide +kernel
theorem dX7_newClass_24 : decode cX7_newClass 24 = .ok (.iadd, 1) := by decide +kernel
theorem dX7_newClass_25 : decode cX7_newClass 25 = .ok (.putfield 65, 3) := by decide +kernel
theorem dX7_newClass_28 : decode cX7_newClass 28 = .ok (.aload_n 0, 1) := by decide +kernel
theorem dX7_newClass_29 : decode cX7_newClass 29 = .ok (.getfield 65, 3) := by decide +kernel
theorem dX7_newClass_32 : decode cX7_newClass 32 = .ok (.iconst 1, 1) := by decide +kernel
theorem dX7_newClass_33 : decode cX7_newClass 33 = .ok (.isub, 1) := by decide +kernel
theorem dX7_newClass_34 : decode cX7_newClass 34 = .ok (.ireturn, 1) := by decide +kernel
set_option maxRecDepth 20000 in
theorem ggX7_make_X7_needClass : GoodIn wsX7_make wsX7_needClass := goodIn_ca (goodIn_r _ [10, 11, 12, 13, 14, 15, 9, 16, 17, 82, 83, 84, 85, 86, 87, 88, 89, 90, 91, 92] (by decide +kernel) (by decide +kernel)) (goodIn_sub (fun _ h => List.mem_cons_of_mem _ (List.mem_append_right _ h)) (by decide +kernel))
set_option maxRecDepth 20000 in
theorem gX7_make_X7_needClass : GoodIn wsX7_make (wsV RX7 75 RX7 yX7_needClass wsX7_needClass) := goodIn_app (goodIn_of _ (by decide +kernel)) ggX7_make_X7_needClass
set_option maxRecDepth 20000 in
theorem ggX7_make_X7_needRoot : GoodIn wsX7_make wsX7_needRoot := goodIn_ca (goodIn_r _ [20, 11, 12] (by decide +kernel) (by decide +kernel)) (goodIn_sub (fun _ h => List.mem_cons_of_mem _ (List.mem_append_right _ h)) (by decide +kernel))
set_option maxRecDepth 20000 in
theorem gX7_make_X7_needRoot : GoodIn wsX7_make (va_wsS RX7 79 yX7_needRoot wsX7_needRoot) := goodIn_app (goodIn_of _ (by decide +kernel)) ggX7_make_X7_needRoot
set_option maxRecDepth 20000 in
theorem ggX7_make_X7_familySize : GoodIn wsX7_make wsX7_familySize := goodIn_r _ [24, 25, 26, 27, 28, 29, 30, 31, 32, 33, 34, 35, 36, 37, 38, 39, 21, 22, 23, 9, 82, 83, 84, 85, 86, 87, 88, 89, 90, 91, 92, 96, 97, 98, 99, 100, 101, 102, 103, 104, 105] (by decide +kernel) (by decide +kernel)
set_option maxRecDepth 20000 in
theorem gX7_make_X7_familySize : GoodIn wsX7_make (wsV RX7 85 RX7 yX7_familySize wsX7_familySize) := goodIn_app (goodIn_of _ (by decide +kernel)) ggX7_make_X7_familySize
set_option maxRecDepth 20000 in
theorem ggX7_make_X7_newFamily : GoodIn wsX7_make wsX7_newFamily := goodIn_r _ [43, 25, 26, 27, 44, 28, 45, 46, 47, 48, 49, 9, 50, 51, 3, 52, 53, 54, 55, 56, 57, 58, 59, 60, 61, 62, 63, 64, 65, 66, 67, 68, 69, 70, 32, 71, 34, 35, 36, 37, 38, 39, 72, 73, 74, 75, 76, 77, 78, 79, 80, 81, 29, 30, 31, 33, 40, 41, 42, 82, 83, 84, 85, 86, 87, 88, 89, 90, 91, 92, 96, 97, 98, 99, 100, 101, 102, 103, 104, 105, 106, 107, 108, 109, 110, 111, 93, 94, 95] (by decide +kernel) (by decide +kernel)
set_option maxRecDepth 20000 in
theorem gX7_make_X7_newFamily : GoodIn wsX7_make (wsV RX7 91 RX7 yX7_newFamily wsX7_newFamily) := goodIn_app (goodIn_of _ (by decide +kernel)) ggX7_make_X7_newFamily
theorem dX7_make_0 : decode cX7_make 0 = .ok (.aload_n 0, 1) := by decide +kernel
theorem dX7_make_1 : decode cX7_make 1 = .ok (.iload_n 1, 1) := by decide +kernel
theorem dX7_make_2 : decode cX7_make 2 = .ok (.invokevirtual 75, 3) := by decide +kernel
theorem dX7_make_5 : decode cX7_make 5 = .ok (.iload_n 2, 1) := by decide +kernel
theorem dX7_make_6 : decode cX7_make 6 = .ok (.invokestatic 79, 3) := by decide +kernel
theorem dX7_make_9 : decode cX7_make 9 = .ok (.aload_n 0, 1) := by decide +kernel
theorem dX7_make_10 : decode cX7_make 10 = .ok (.getfield 19, 3) := by decide +kernel
theorem dX7_make_13 : decode cX7_make 13 = .ok (.getfield 82, 3) := by decide +kernel
theorem dX7_make_16 : decode cX7_make 16 = .ok (.aload_n 0, 1) := by decide +kernel
theorem dX7_make_17 : decode cX7_make 17 = .ok (.iload_n 1, 1) := by decide +kernel
theorem dX7_make_18 : decode cX7_make 18 = .ok (.iconst 0, 1) := by decide +kernel
theorem dX7_make_19 : decode cX7_make 19 = .ok (.invokevirtual 85, 3) := by decide +kernel
theorem dX7_make_22 : decode cX7_make 22 = .ok (.iadd, 1) := by decide +kernel
theorem dX7_make_23 : decode cX7_make 23 = .ok (.bipush 24, 2) := by decide +kernel
theorem dX7_make_25 : decode cX7_make 25 = .ok (.if_icmp .le 13, 3) := by decide +kernel
theorem dX7_make_28 : decode cX7_make 28 = .ok (.new 68, 3) := by decide +kernel
theorem dX7_make_31 : decode cX7_make 31 = .ok (.dup, 1) := by decide +kernel
theorem dX7_make_32 : decode cX7_make 32 = .ok (.ldc 89, 2) := by decide +kernel
theorem dX7_make_34 : decode cX7_make 34 = .ok (.invokespecial 72, 3) := by decide +kernel
theorem dX7_make_37 : decode cX7_make 37 = .ok (.athrow, 1) := by decide +kernel
theorem dX7_make_38 : decode cX7_make 38 = .ok (.aload_n 0, 1) := by decide +kernel
theorem dX7_make_39 : decode cX7_make 39 = .ok (.getfield 23, 3) := by decide +kernel
theorem dX7_make_42 : decode cX7_make 42 = .ok (.iload_n 2, 1) := by decide +kernel
theorem dX7_make_43 : decode cX7_make 43 = .ok (.aload_n 0, 1) := by decide +kernel
theorem dX7_make_44 : decode cX7_make 44 = .ok (.iload_n 1, 1) := by decide +kernel
theorem dX7_make_45 : decode cX7_make 45 = .ok (.iconst 0, 1) := by decide +kernel
theorem dX7_make_46 : decode cX7_make 46 = .ok (.invokevirtual 91, 3) := by decide +kernel
theorem dX7_make_49 : decode cX7_make 49 = .ok (.iastore, 1) := by decide +kernel
theorem dX7_make_50 : decode cX7_make 50 = .ok (.return_, 1) := by decide +kernel
set_option maxRecDepth 20000 in
theorem ggX7_get_X7_needRoot : GoodIn wsX7_get wsX7_needRoot := goodIn_ca (goodIn_r _ [5, 6, 7] (by decide +kernel) (by decide +kernel)) (goodIn_sub (fun _ h => List.mem_cons_of_mem _ (List.mem_append_left _ (List.mem_append_right _ h))) (by decide +kernel))
set_option maxRecDepth 20000 in
theorem gX7_get_X7_needRoot : GoodIn wsX7_get (va_wsS RX7 79 yX7_needRoot wsX7_needRoot) := goodIn_app (goodIn_of _ (by decide +kernel)) ggX7_get_X7_needRoot
set_option maxRecDepth 20000 in
theorem ggX7_get_X7_needName : GoodIn wsX7_get wsX7_needName := goodIn_ca (goodIn_r _ [10, 6, 7, 11, 12, 4, 13] (by decide +kernel) (by decide +kernel)) (goodIn_sub (fun _ h => List.mem_cons_of_mem _ (List.mem_append_left _ (List.mem_append_right _ h))) (by decide +kernel))
set_option maxRecDepth 20000 in
theorem gX7_get_X7_needName : GoodIn wsX7_get (va_wsS RX7 94 yX7_needName wsX7_needName) := goodIn_app (goodIn_of _ (by decide +kernel)) ggX7_get_X7_needName
set_option maxRecDepth 20000 in
theorem ggX7_get_X7_heldBy : GoodIn wsX7_get wsX7_heldBy := goodIn_ca (goodIn_r _ [17, 18, 19, 20, 21, 22, 23, 24, 25, 26, 27, 28, 29, 30, 31, 32, 68, 69, 70, 71, 72, 73, 74, 75, 76, 77, 78, 79, 80, 81, 62, 63, 64, 65, 66, 67] (by decide +kernel) (by decide +kernel)) (goodIn_sub (fun _ h => List.mem_cons_of_mem _ (List.mem_append_right _ h)) (by decide +kernel))
set_option maxRecDepth 20000 in
theorem gX7_get_X7_heldBy : GoodIn wsX7_get (wsV RX7 97 RX7 yX7_heldBy wsX7_heldBy) := goodIn_app (goodIn_of _ (by decide +kernel)) ggX7_get_X7_heldBy
set_option maxRecDepth 20000 in
theorem ggX7_get_X7_numberPlace : GoodIn wsX7_get wsX7_numberPlace := goodIn_ca (goodIn_r _ [36, 18, 19, 37, 38, 39, 40, 41, 42, 43, 44, 45, 46, 47, 48, 49, 50, 51, 52, 53, 54, 55, 68, 69, 70, 71, 72, 73, 74, 75, 76, 77, 78, 62, 63, 64, 65, 66, 67, 82, 83, 84, 85, 86, 87, 88, 89, 90, 91] (by decide +kernel) (by decide +kernel)) (goodIn_sub (fun _ h => List.mem_cons_of_mem _ (List.mem_append_right _ h)) (by decide +kernel))
set_option maxRecDepth 20000 in
theorem gX7_get_X7_numberPlace : GoodIn wsX7_get (wsV RX7 101 RX7 yX7_numberPlace wsX7_numberPlace) := goodIn_app (goodIn_of _ (by decide +kernel)) ggX7_get_X7_numberPlace
set_option maxRecDepth 20000 in
theorem ggX7_get_X7_bringForward : GoodIn wsX7_get wsX7_bringForward := goodIn_r _ [59, 37, 38, 60, 61, 68, 69, 70, 71, 72, 73, 74, 75, 76, 77, 78, 62, 63, 64, 65, 66, 67, 82, 83, 84, 85] (by decide +kernel) (by decide +kernel)
set_option maxRecDepth 20000 in
theorem gX7_get_X7_bringForward : GoodIn wsX7_get (wsV RX7 105 RX7 yX7_bringForward wsX7_bringForward) := goodIn_app (goodIn_of _ (by decide +kernel)) ggX7_get_X7_bringForward
theorem dX7_get_0 : decode cX7_get 0 = .ok (.iload_n 1, 1) := by decide +kernel
theorem dX7_get_1 : decode cX7_get 1 = .ok (.invokestatic 79, 3) := by decide +kernel
theorem dX7_get_4 : decode cX7_get 4 = .ok (.iload_n 2, 1) := by decide +kernel
theorem dX7_get_5 : decode cX7_get 5 = .ok (.invokestatic 94, 3) := by decide +kernel
theorem dX7_get_8 : decode cX7_get 8 = .ok (.aload_n 0, 1) := by decide +kernel
theorem dX7_get_9 : decode cX7_get 9 = .ok (.iload_n 1, 1) := by decide +kernel
theorem dX7_get_10 : decode cX7_get 10 = .ok (.invokevirtual 97, 3) := by decide +kernel
theorem dX7_get_13 : decode cX7_get 13 = .ok (.astore_n 3, 1) := by decide +kernel
theorem dX7_get_14 : decode cX7_get 14 = .ok (.aload_n 0, 1) := by decide +kernel
theorem dX7_get_15 : decode cX7_get 15 = .ok (.aload_n 3, 1) := by decide +kernel
theorem dX7_get_16 : decode cX7_get 16 = .ok (.iload_n 2, 1) := by decide +kernel
theorem dX7_get_17 : decode cX7_get 17 = .ok (.invokevirtual 101, 3) := by decide +kernel
theorem dX7_get_20 : decode cX7_get 20 = .ok (.istore 4, 2) := by decide +kernel
theorem dX7_get_22 : decode cX7_get 22 = .ok (.aload_n 0, 1) := by decide +kernel
theorem dX7_get_23 : decode cX7_get 23 = .ok (.aload_n 3, 1) := by decide +kernel
theorem dX7_get_24 : decode cX7_get 24 = .ok (.invokevirtual 105, 3) := by decide +kernel
theorem dX7_get_27 : decode cX7_get 27 = .ok (.pop, 1) := by decide +kernel
theorem dX7_get_28 : decode cX7_get 28 = .ok (.aload_n 3, 1) := by decide +kernel
theorem dX7_get_29 : decode cX7_get 29 = .ok (.getfield 109, 3) := by decide +kernel
theorem dX7_get_32 : decode cX7_get 32 = .ok (.iload 4, 2) := by decide +kernel
theorem dX7_get_34 : decode cX7_get 34 = .ok (.iaload, 1) := by decide +kernel
theorem dX7_get_35 : decode cX7_get 35 = .ok (.ireturn, 1) := by decide +kernel
set_option maxRecDepth 20000 in
theorem ggX7_set_X7_needRoot : GoodIn wsX7_set wsX7_needRoot := goodIn_ca (goodIn_r _ [13, 14, 15] (by decide +kernel) (by decide +kernel)) (goodIn_sub (fun _ h => List.mem_cons_of_mem _ (List.mem_append_left _ (List.mem_append_right _ h))) (by decide +kernel))
set_option maxRecDepth 20000 in
theorem gX7_set_X7_needRoot : GoodIn wsX7_set (va_wsS RX7 79 yX7_needRoot wsX7_needRoot) := goodIn_app (goodIn_of _ (by decide +kernel)) ggX7_set_X7_needRoot
set_option maxRecDepth 20000 in
theorem ggX7_set_X7_needName : GoodIn wsX7_set wsX7_needName := goodIn_ca (goodIn_r _ [18, 14, 15, 19, 20, 12, 21] (by decide +kernel) (by decide +kernel)) (goodIn_sub (fun _ h => List.mem_cons_of_mem _ (List.mem_append_left _ (List.mem_append_right _ h))) (by decide +kernel))
set_option maxRecDepth 20000 in
theorem gX7_set_X7_needName : GoodIn wsX7_set (va_wsS RX7 94 yX7_needName wsX7_needName) := goodIn_app (goodIn_of _ (by decide +kernel)) ggX7_set_X7_needName
set_option maxRecDepth 20000 in
theorem ggX7_set_X7_heldBy : GoodIn wsX7_set wsX7_heldBy := goodIn_ca (goodIn_r _ [25, 26, 27, 28, 29, 30, 31, 32, 33, 34, 35, 36, 37, 38, 39, 40, 67, 68, 69, 70, 71, 72, 73, 74, 75, 76, 77, 94, 95, 96, 78, 79, 80, 81, 82, 83] (by decide +kernel) (by decide +kernel)) (goodIn_sub (fun _ h => List.mem_cons_of_mem _ (List.mem_append_right _ h)) (by decide +kernel))
set_option maxRecDepth 20000 in
theorem gX7_set_X7_heldBy : GoodIn wsX7_set (wsV RX7 97 RX7 yX7_heldBy wsX7_heldBy) := goodIn_app (goodIn_of _ (by decide +kernel)) ggX7_set_X7_heldBy
set_option maxRecDepth 20000 in
theorem ggX7_set_X7_numberPlace : GoodIn wsX7_set wsX7_numberPlace := goodIn_ca (goodIn_r _ [44, 26, 27, 3, 4, 5, 45, 46, 47, 48, 49, 50, 51, 52, 53, 54, 55, 56, 57, 58, 59, 60, 67, 68, 69, 70, 71, 72, 73, 74, 75, 76, 77, 78, 79, 80, 81, 82, 83, 84, 85, 86, 87, 88, 89, 90, 91, 92, 93] (by decide +kernel) (by decide +kernel)) (goodIn_sub (fun _ h => List.mem_cons_of_mem _ (List.mem_append_right _ h)) (by decide +kernel))
set_option maxRecDepth 20000 in
theorem gX7_set_X7_numberPlace : GoodIn wsX7_set (wsV RX7 101 RX7 yX7_numberPlace wsX7_numberPlace) := goodIn_app (goodIn_of _ (by decide +kernel)) ggX7_set_X7_numberPlace
set_option maxRecDepth 20000 in
theorem ggX7_set_X7_bringForward : GoodIn wsX7_set wsX7_bringForward := goodIn_r _ [64, 3, 4, 65, 66, 67, 68, 69, 70, 71, 72, 73, 74, 75, 76, 77, 78, 79, 80, 81, 82, 83, 84, 85, 86, 87] (by decide +kernel) (by decide +kernel)
set_option maxRecDepth 20000 in
theorem gX7_set_X7_bringForward : GoodIn wsX7_set (wsV RX7 105 RX7 yX7_bringForward wsX7_bringForward) := goodIn_app (goodIn_of _ (by decide +kernel)) ggX7_set_X7_bringForward
theorem dX7_set_0 : decode cX7_set 0 = .ok (.iload_n 1, 1) := by decide +kernel
theorem dX7_set_1 : decode cX7_set 1 = .ok (.invokestatic 79, 3) := by decide +kernel
theorem dX7_set_4 : decode cX7_set 4 = .ok (.iload_n 2, 1) := by decide +kernel
theorem dX7_set_5 : decode cX7_set 5 = .ok (.invokestatic 94, 3) := by decide +kernel
theorem dX7_set_8 : decode cX7_set 8 = .ok (.aload_n 0, 1) := by decide +kernel
theorem dX7_set_9 : decode cX7_set 9 = .ok (.iload_n 1, 1) := by decide +kernel
theorem dX7_set_10 : decode cX7_set 10 = .ok (.invokevirtual 97, 3) := by decide +kernel
theorem dX7_set_13 : decode cX7_set 13 = .ok (.astore 4, 2) := by decide +kernel
theorem dX7_set_15 : decode cX7_set 15 = .ok (.aload_n 0, 1) := by decide +kernel
theorem dX7_set_16 : decode cX7_set 16 = .ok (.aload 4, 2) := by decide +kernel
theorem dX7_set_18 : decode cX7_set 18 = .ok (.iload_n 2, 1) := by decide +kernel
theorem dX7_set_19 : decode cX7_set 19 = .ok (.invokevirtual 101, 3) := by decide +kernel
theorem dX7_set_22 : decode cX7_set 22 = .ok (.istore 5, 2) := by decide +kernel
theorem dX7_set_24 : decode cX7_set 24 = .ok (.aload_n 0, 1) := by decide +kernel
theorem dX7_set_25 : decode cX7_set 25 = .ok (.getfield 11, 3) := by decide +kernel
theorem dX7_set_28 : decode cX7_set 28 = .ok (.aload 4, 2) := by decide +kernel
theorem dX7_set_30 : decode cX7_set 30 = .ok (.getfield 112, 3) := by decide +kernel
theorem dX7_set_33 : decode cX7_set 33 = .ok (.aaload, 1) := by decide +kernel
theorem dX7_set_34 : decode cX7_set 34 = .ok (.astore 6, 2) := by decide +kernel
theorem dX7_set_36 : decode cX7_set 36 = .ok (.iload_n 3, 1) := by decide +kernel
theorem dX7_set_37 : decode cX7_set 37 = .ok (.aload 6, 2) := by decide +kernel
theorem dX7_set_39 : decode cX7_set 39 = .ok (.getfield 115, 3) := by decide +kernel
theorem dX7_set_42 : decode cX7_set 42 = .ok (.getfield 118, 3) := by decide +kernel
theorem dX7_set_45 : decode cX7_set 45 = .ok (.iload 5, 2) := by decide +kernel
theorem dX7_set_47 : decode cX7_set 47 = .ok (.iaload, 1) := by decide +kernel
theorem dX7_set_48 : decode cX7_set 48 = .ok (.if_icmp .lt 18, 3) := by decide +kernel
theorem dX7_set_51 : decode cX7_set 51 = .ok (.iload_n 3, 1) := by decide +kernel
theorem dX7_set_52 : decode cX7_set 52 = .ok (.aload 6, 2) := by decide +kernel
theorem dX7_set_54 : decode cX7_set 54 = .ok (.getfield 115, 3) := by decide +kernel
theorem dX7_set_57 : decode cX7_set 57 = .ok (.getfield 121, 3) := by decide +kernel
theorem dX7_set_60 : decode cX7_set 60 = .ok (.iload 5, 2) := by decide +kernel
theorem dX7_set_62 : decode cX7_set 62 = .ok (.iaload, 1) := by decide +kernel
theorem dX7_set_63 : decode cX7_set 63 = .ok (.if_icmp .le 13, 3) := by decide +kernel
theorem dX7_set_66 : decode cX7_set 66 = .ok (.new 68, 3) := by decide +kernel
theorem dX7_set_69 : decode cX7_set 69 = .ok (.dup, 1) := by decide +kernel
theorem dX7_set_70 : decode cX7_set 70 = .ok (.ldc 124, 2) := by decide +kernel
theorem dX7_set_72 : decode cX7_set 72 = .ok (.invokespecial 72, 3) := by decide +kernel
theorem dX7_set_75 : decode cX7_set 75 = .ok (.athrow, 1) := by decide +kernel
theorem dX7_set_76 : decode cX7_set 76 = .ok (.aload 4, 2) := by decide +kernel
theorem dX7_set_78 : decode cX7_set 78 = .ok (.getfield 109, 3) := by decide +kernel
theorem dX7_set_81 : decode cX7_set 81 = .ok (.iload 5, 2) := by decide +kernel
theorem dX7_set_83 : decode cX7_set 83 = .ok (.iload_n 3, 1) := by decide +kernel
theorem dX7_set_84 : decode cX7_set 84 = .ok (.iastore, 1) := by decide +kernel
theorem dX7_set_85 : decode cX7_set 85 = .ok (.aload 6, 2) := by decide +kernel
theorem dX7_set_87 : decode cX7_set 87 = .ok (.iconst 0, 1) := by decide +kernel
theorem dX7_set_88 : decode cX7_set 88 = .ok (.putfield 126, 3) := by decide +kernel
theorem dX7_set_91 : decode cX7_set 91 = .ok (.aload_n 0, 1) := by decide +kernel
theorem dX7_set_92 : decode cX7_set 92 = .ok (.aload 4, 2) := by decide +kernel
theorem dX7_set_94 : decode cX7_set 94 = .ok (.invokevirtual 105, 3) := by decide +kernel
theorem dX7_set_97 : decode cX7_set 97 = .ok (.pop, 1) := by decide +kernel
theorem dX7_set_98 : decode cX7_set 98 = .ok (.return_, 1) := by decide +kernel
set_option maxRecDepth 20000 in
theorem ggX7_link_X7_needRoot : GoodIn wsX7_link wsX7_needRoot := goodIn_ca (goodIn_r _ [13, 14, 15] (by decide +kernel) (by decide +kernel)) (goodIn_sub (fun _ h => List.mem_cons_of_mem _ (List.mem_append_left _ (List.mem_append_right _ h))) (by decide +kernel))
set_option maxRecDepth 20000 in
theorem gX7_link_X7_needRoot : GoodIn wsX7_link (va_wsS RX7 79 yX7_needRoot wsX7_needRoot) := goodIn_app (goodIn_of _ (by decide +kernel)) ggX7_link_X7_needRoot
set_option maxRecDepth 20000 in
theorem ggX7_link_X7_needName : GoodIn wsX7_link wsX7_needName := goodIn_ca (goodIn_r _ [18, 14, 15, 19, 20, 12, 21] (by decide +kernel) (by decide +kernel)) (goodIn_sub (fun _ h => List.mem_cons_of_mem _ (List.mem_append_left _ (List.mem_append_right _ h))) (by decide +kernel))
set_option maxRecDepth 20000 in
theorem gX7_link_X7_needName : GoodIn wsX7_link (va_wsS RX7 94 yX7_needName wsX7_needName) := goodIn_app (goodIn_of _ (by decide +kernel)) ggX7_link_X7_needName
set_option maxRecDepth 20000 in
theorem ggX7_link_X7_heldBy : GoodIn wsX7_link wsX7_heldBy := goodIn_ca (goodIn_r _ [25, 26, 27, 28, 6, 29, 30, 31, 32, 33, 34, 35, 36, 37, 38, 39, 85, 86, 87, 88, 89, 90, 91, 92, 93, 94, 95, 112, 113, 114, 96, 97, 98, 99, 100, 101] (by decide +kernel) (by decide +kernel)) (goodIn_sub (fun _ h => List.mem_cons_of_mem _ (List.mem_append_right _ h)) (by decide +kernel))
set_option maxRecDepth 20000 in
theorem gX7_link_X7_heldBy : GoodIn wsX7_link (wsV RX7 97 RX7 yX7_heldBy wsX7_heldBy) := goodIn_app (goodIn_of _ (by decide +kernel)) ggX7_link_X7_heldBy
set_option maxRecDepth 20000 in
theorem ggX7_link_X7_referencePlace : GoodIn wsX7_link wsX7_referencePlace := goodIn_ca (goodIn_r _ [43, 26, 27, 3, 4, 5, 44, 45, 46, 47, 48, 49, 50, 51, 52, 53, 54, 55, 56, 57, 58, 59, 85, 86, 87, 88, 89, 90, 91, 92, 93, 94, 95, 96, 97, 98, 99, 100, 101, 102, 103, 104, 105, 106, 107, 108, 109, 110, 111] (by decide +kernel) (by decide +kernel)) (goodIn_sub (fun _ h => List.mem_cons_of_mem _ (List.mem_append_right _ h)) (by decide +kernel))
set_option maxRecDepth 20000 in
theorem gX7_link_X7_referencePlace : GoodIn wsX7_link (wsV RX7 130 RX7 yX7_referencePlace wsX7_referencePlace) := goodIn_app (goodIn_of _ (by decide +kernel)) ggX7_link_X7_referencePlace
set_option maxRecDepth 20000 in
theorem ggX7_link_X4_isOwning : GoodIn wsX7_link wsX4_isOwning := goodIn_r _ [63, 55, 56, 57, 58, 47, 59, 49, 106, 107, 108, 109, 110, 111] (by decide +kernel) (by decide +kernel)
set_option maxRecDepth 20000 in
theorem gX7_link_X4_isOwning : GoodIn wsX7_link (wsV RX7 133 RX4 yX4_isOwning wsX4_isOwning) := goodIn_app (goodIn_of _ (by decide +kernel)) ggX7_link_X4_isOwning
set_option maxRecDepth 20000 in
theorem ggX7_link_X7_mayBeReferredTo : GoodIn wsX7_link wsX7_mayBeReferredTo := goodIn_r _ [67, 28, 4, 29, 30, 31, 32, 33, 34, 35, 36, 37, 38, 39, 68, 69, 70, 12, 71, 72, 73, 74, 75, 76, 77, 3, 5, 78, 8, 60, 61, 62, 47, 63, 55, 56, 57, 58, 59, 49, 85, 86, 87, 88, 89, 90, 91, 92, 93, 94, 95, 96, 97, 98, 99, 100, 101, 112, 113, 114, 102, 103, 104, 105, 106, 107, 108, 109, 110, 111] (by decide +kernel) (by decide +kernel)
set_option maxRecDepth 20000 in
theorem gX7_link_X7_mayBeReferredTo : GoodIn wsX7_link (wsV RX7 137 RX7 yX7_mayBeReferredTo wsX7_mayBeReferredTo) := goodIn_app (goodIn_of _ (by decide +kernel)) ggX7_link_X7_mayBeReferredTo
set_option maxRecDepth 20000 in
theorem ggX7_link_X7_bringForward : GoodIn wsX7_link wsX7_bringForward := goodIn_r _ [82, 3, 4, 83, 84, 85, 86, 87, 88, 89, 90, 91, 92, 93, 94, 95, 96, 97, 98, 99, 100, 101, 102, 103, 104, 105] (by decide +kernel) (by decide +kernel)
set_option maxRecDepth 20000 in
theorem gX7_link_X7_bringForward : GoodIn wsX7_link (wsV RX7 105 RX7 yX7_bringForward wsX7_bringForward) := goodIn_app (goodIn_of _ (by decide +kernel)) ggX7_link_X7_bringForward
theorem dX7_link_0 : decode cX7_link 0 = .ok (.iload_n 1, 1) := by decide +kernel
theorem dX7_link_1 : decode cX7_link 1 = .ok (.invokestatic 79, 3) := by decide +kernel
theorem dX7_link_4 : decode cX7_link 4 = .ok (.iload_n 2, 1) := by decide +kernel
theorem dX7_link_5 : decode cX7_link 5 = .ok (.invokestatic 94, 3) := by decide +kernel
theorem dX7_link_8 : decode cX7_link 8 = .ok (.iload_n 3, 1) := by decide +kernel
theorem dX7_link_9 : decode cX7_link 9 = .ok (.invokestatic 79, 3) := by decide +kernel
theorem dX7_link_12 : decode cX7_link 12 = .ok (.aload_n 0, 1) := by decide +kernel
theorem dX7_link_13 : decode cX7_link 13 = .ok (.iload_n 1, 1) := by decide +kernel
theorem dX7_link_14 : decode cX7_link 14 = .ok (.invokevirtual 97, 3) := by decide +kernel
theorem dX7_link_17 : decode cX7_link 17 = .ok (.astore 4, 2) := by decide +kernel
theorem dX7_link_19 : decode cX7_link 19 = .ok (.aload_n 0, 1) := by decide +kernel
theorem dX7_link_20 : decode cX7_link 20 = .ok (.aload 4, 2) := by decide +kernel
theorem dX7_link_22 : decode cX7_link 22 = .ok (.iload_n 2, 1) := by decide +kernel
theorem dX7_link_23 : decode cX7_link 23 = .ok (.invokevirtual 130, 3) := by decide +kernel
theorem dX7_link_26 : decode cX7_link 26 = .ok (.istore 5, 2) := by decide +kernel
theorem dX7_link_28 : decode cX7_link 28 = .ok (.aload_n 0, 1) := by decide +kernel
theorem dX7_link_29 : decode cX7_link 29 = .ok (.getfield 11, 3) := by decide +kernel
theorem dX7_link_32 : decode cX7_link 32 = .ok (.aload 4, 2) := by decide +kernel
theorem dX7_link_34 : decode cX7_link 34 = .ok (.getfield 112, 3) := by decide +kernel
theorem dX7_link_37 : decode cX7_link 37 = .ok (.aaload, 1) := by decide +kernel
theorem dX7_link_38 : decode cX7_link 38 = .ok (.astore 6, 2) := by decide +kernel
theorem dX7_link_40 : decode cX7_link 40 = .ok (.aload 6, 2) := by decide +kernel
theorem dX7_link_42 : decode cX7_link 42 = .ok (.getfield 115, 3) := by decide +kernel
theorem dX7_link_45 : decode cX7_link 45 = .ok (.iload 5, 2) := by decide +kernel
theorem dX7_link_47 : decode cX7_link 47 = .ok (.invokevirtual 133, 3) := by decide +kernel
theorem dX7_link_50 : decode cX7_link 50 = .ok (.ifCond .ne 27, 3) := by decide +kernel
theorem dX7_link_53 : decode cX7_link 53 = .ok (.aload_n 0, 1) := by decide +kernel
theorem dX7_link_54 : decode cX7_link 54 = .ok (.aload_n 0, 1) := by decide +kernel
theorem dX7_link_55 : decode cX7_link 55 = .ok (.getfield 23, 3) := by decide +kernel
theorem dX7_link_58 : decode cX7_link 58 = .ok (.iload_n 3, 1) := by decide +kernel
theorem dX7_link_59 : decode cX7_link 59 = .ok (.iaload, 1) := by decide +kernel
theorem dX7_link_60 : decode cX7_link 60 = .ok (.aload 6, 2) := by decide +kernel
theorem dX7_link_62 : decode cX7_link 62 = .ok (.getfield 115, 3) := by decide +kernel
theorem dX7_link_65 : decode cX7_link 65 = .ok (.getfield 118, 3) := by decide +kernel
theorem dX7_link_68 : decode cX7_link 68 = .ok (.iload 5, 2) := by decide +kernel
theorem dX7_link_70 : decode cX7_link 70 = .ok (.iaload, 1) := by decide +kernel
theorem dX7_link_71 : decode cX7_link 71 = .ok (.invokevirtual 137, 3) := by decide +kernel
theorem dX7_link_74 : decode cX7_link 74 = .ok (.ifCond .ne 13, 3) := by decide +kernel
theorem dX7_link_77 : decode cX7_link 77 = .ok (.new 68, 3) := by decide +kernel
theorem dX7_link_80 : decode cX7_link 80 = .ok (.dup, 1) := by decide +kernel
theorem dX7_link_81 : decode cX7_link 81 = .ok (.ldc 141, 2) := by decide +kernel
theorem dX7_link_83 : decode cX7_link 83 = .ok (.invokespecial 72, 3) := by decide +kernel
theorem dX7_link_86 : decode cX7_link 86 = .ok (.athrow, 1) := by decide +kernel
theorem dX7_link_87 : decode cX7_link 87 = .ok (.aload 4, 2) := by decide +kernel
theorem dX7_link_89 : decode cX7_link 89 = .ok (.getfield 109, 3) := by decide +kernel
theorem dX7_link_92 : decode cX7_link 92 = .ok (.iload 5, 2) := by decide +kernel
theorem dX7_link_94 : decode cX7_link 94 = .ok (.aload_n 0, 1) := by decide +kernel
theorem dX7_link_95 : decode cX7_link 95 = .ok (.getfield 23, 3) := by decide +kernel
theorem dX7_link_98 : decode cX7_link 98 = .ok (.iload_n 3, 1) := by decide +kernel
theorem dX7_link_99 : decode cX7_link 99 = .ok (.iaload, 1) := by decide +kernel
theorem dX7_link_100 : decode cX7_link 100 = .ok (.iastore, 1) := by decide +kernel
theorem dX7_link_101 : decode cX7_link 101 = .ok (.aload 6, 2) := by decide +kernel
theorem dX7_link_103 : decode cX7_link 103 = .ok (.iconst 0, 1) := by decide +kernel
theorem dX7_link_104 : decode cX7_link 104 = .ok (.putfield 126, 3) := by decide +kernel
theorem dX7_link_107 : decode cX7_link 107 = .ok (.aload_n 0, 1) := by decide +kernel
theorem dX7_link_108 : decode cX7_link 108 = .ok (.aload 4, 2) := by decide +kernel
theorem dX7_link_110 : decode cX7_link 110 = .ok (.invokevirtual 105, 3) := by decide +kernel
theorem dX7_link_113 : decode cX7_link 113 = .ok (.pop, 1) := by decide +kernel
theorem dX7_link_114 : decode cX7_link 114 = .ok (.return_, 1) := by decide +kernel
set_option maxRecDepth 20000 in
theorem ggX7_follow_X7_needRoot : GoodIn wsX7_follow wsX7_needRoot := goodIn_ca (goodIn_r _ [6, 7, 8] (by decide +kernel) (by decide +kernel)) (goodIn_sub (fun _ h => List.mem_cons_of_mem _ (List.mem_append_left _ (List.mem_append_right _ h))) (by decide +kernel))
set_option maxRecDepth 20000 in
theorem gX7_follow_X7_needRoot : GoodIn wsX7_follow (va_wsS RX7 79 yX7_needRoot wsX7_needRoot) := goodIn_app (goodIn_of _ (by decide +kernel)) ggX7_follow_X7_needRoot
set_option maxRecDepth 20000 in
theorem ggX7_follow_X7_needName : GoodIn wsX7_follow wsX7_needName := goodIn_ca (goodIn_r _ [11, 7, 8, 12, 13, 5, 14] (by decide +kernel) (by decide +kernel)) (goodIn_sub (fun _ h => List.mem_cons_of_mem _ (List.mem_append_left _ (List.mem_append_right _ h))) (by decide +kernel))
set_option maxRecDepth 20000 in
theorem gX7_follow_X7_needName : GoodIn wsX7_follow (va_wsS RX7 94 yX7_needName wsX7_needName) := goodIn_app (goodIn_of _ (by decide +kernel)) ggX7_follow_X7_needName
set_option maxRecDepth 20000 in
theorem ggX7_follow_X7_heldBy : GoodIn wsX7_follow wsX7_heldBy := goodIn_ca (goodIn_r _ [18, 19, 20, 21, 1, 22, 23, 24, 25, 26, 27, 28, 29, 30, 31, 32, 62, 63, 64, 65, 66, 67, 68, 69, 70, 71, 72, 79, 80, 81, 73, 74, 75, 76, 77, 78] (by decide +kernel) (by decide +kernel)) (goodIn_sub (fun _ h => List.mem_cons_of_mem _ (List.mem_append_right _ h)) (by decide +kernel))
set_option maxRecDepth 20000 in
theorem gX7_follow_X7_heldBy : GoodIn wsX7_follow (wsV RX7 97 RX7 yX7_heldBy wsX7_heldBy) := goodIn_app (goodIn_of _ (by decide +kernel)) ggX7_follow_X7_heldBy
set_option maxRecDepth 20000 in
theorem ggX7_follow_X7_referencePlace : GoodIn wsX7_follow wsX7_referencePlace := goodIn_ca (goodIn_r _ [36, 19, 20, 37, 38, 39, 40, 41, 42, 43, 44, 45, 46, 47, 48, 49, 50, 51, 52, 53, 54, 55, 62, 63, 64, 65, 66, 67, 68, 69, 70, 71, 72, 73, 74, 75, 76, 77, 78, 82, 83, 84, 85, 86, 87, 88, 89, 90, 91] (by decide +kernel) (by decide +kernel)) (goodIn_sub (fun _ h => List.mem_cons_of_mem _ (List.mem_append_right _ h)) (by decide +kernel))
set_option maxRecDepth 20000 in
theorem gX7_follow_X7_referencePlace : GoodIn wsX7_follow (wsV RX7 130 RX7 yX7_referencePlace wsX7_referencePlace) := goodIn_app (goodIn_of _ (by decide +kernel)) ggX7_follow_X7_referencePlace
set_option maxRecDepth 20000 in
theorem ggX7_follow_X7_bringForward : GoodIn wsX7_follow wsX7_bringForward := goodIn_r _ [59, 37, 38, 60, 61, 62, 63, 64, 65, 66, 67, 68, 69, 70, 71, 72, 73, 74, 75, 76, 77, 78, 82, 83, 84, 85] (by decide +kernel) (by decide +kernel)
set_option maxRecDepth 20000 in
theorem gX7_follow_X7_bringForward : GoodIn wsX7_follow (wsV RX7 105 RX7 yX7_bringForward wsX7_bringForward) := goodIn_app (goodIn_of _ (by decide +kernel)) ggX7_follow_X7_bringForward
theorem dX7_follow_0 : decode cX7_follow 0 = .ok (.iload_n 1, 1) := by decide +kernel
theorem dX7_follow_1 : decode cX7_follow 1 = .ok (.invokestatic 79, 3) := by decide +kernel
theorem dX7_follow_4 : decode cX7_follow 4 = .ok (.iload_n 2, 1) := by decide +kernel
theorem dX7_follow_5 : decode cX7_follow 5 = .ok (.invokestatic 94, 3) := by decide +kernel
theorem dX7_follow_8 : decode cX7_follow 8 = .ok (.iload_n 3, 1) := by decide +kernel
theorem dX7_follow_9 : decode cX7_follow 9 = .ok (.invokestatic 79, 3) := by decide +kernel
theorem dX7_follow_12 : decode cX7_follow 12 = .ok (.aload_n 0, 1) := by decide +kernel
theorem dX7_follow_13 : decode cX7_follow 13 = .ok (.iload_n 1, 1) := by decide +kernel
theorem dX7_follow_14 : decode cX7_follow 14 = .ok (.invokevirtual 97, 3) := by decide +kernel
theorem dX7_follow_17 : decode cX7_follow 17 = .ok (.astore 4, 2) := by decide +kernel
theorem dX7_follow_19 : decode cX7_follow 19 = .ok (.aload_n 0, 1) := by decide +kernel
theorem dX7_follow_20 : decode cX7_follow 20 = .ok (.aload 4, 2) := by decide +kernel
theorem dX7_follow_22 : decode cX7_follow 22 = .ok (.iload_n 2, 1) := by decide +kernel
theorem dX7_follow_23 : decode cX7_follow 23 = .ok (.invokevirtual 130, 3) := by decide +kernel
theorem dX7_follow_26 : decode cX7_follow 26 = .ok (.istore 5, 2) := by decide +kernel
theorem dX7_follow_28 : decode cX7_follow 28 = .ok (.aload_n 0, 1) := by decide +kernel
theorem dX7_follow_29 : decode cX7_follow 29 = .ok (.aload 4, 2) := by decide +kernel
theorem dX7_follow_31 : decode cX7_follow 31 = .ok (.invokevirtual 105, 3) := by decide +kernel
theorem dX7_follow_34 : decode cX7_follow 34 = .ok (.pop, 1) := by decide +kernel
theorem dX7_follow_35 : decode cX7_follow 35 = .ok (.aload_n 0, 1) := by decide +kernel
theorem dX7_follow_36 : decode cX7_follow 36 = .ok (.getfield 23, 3) := by decide +kernel
theorem dX7_follow_39 : decode cX7_follow 39 = .ok (.iload_n 3, 1) := by decide +kernel
theorem dX7_follow_40 : decode cX7_follow 40 = .ok (.aload 4, 2) := by decide +kernel
theorem dX7_follow_42 : decode cX7_follow 42 = .ok (.getfield 109, 3) := by decide +kernel
theorem dX7_follow_45 : decode cX7_follow 45 = .ok (.iload 5, 2) := by decide +kernel
theorem dX7_follow_47 : decode cX7_follow 47 = .ok (.iaload, 1) := by decide +kernel
theorem dX7_follow_48 : decode cX7_follow 48 = .ok (.iastore, 1) := by decide +kernel
theorem dX7_follow_49 : decode cX7_follow 49 = .ok (.return_, 1) := by decide +kernel
set_option maxRecDepth 20000 in
theorem ggX7_drop_X7_needRoot : GoodIn wsX7_drop wsX7_needRoot := goodIn_ca (goodIn_r _ [5, 6, 7] (by decide +kernel) (by decide +kernel)) (goodIn_sub (fun _ h => List.mem_cons_of_mem _ (List.mem_append_right _ h)) (by decide +kernel))
set_option maxRecDepth 20000 in
theorem gX7_drop_X7_needRoot : GoodIn wsX7_drop (va_wsS RX7 79 yX7_needRoot wsX7_needRoot) := goodIn_app (goodIn_of _ (by decide +kernel)) ggX7_drop_X7_needRoot
theorem dX7_drop_0 : decode cX7_drop 0 = .ok (.iload_n 1, 1) := by decide +kernel
theorem dX7_drop_1 : decode cX7_drop 1 = .ok (.invokestatic 79, 3) := by decide +kernel
theorem dX7_drop_4 : decode cX7_drop 4 = .ok (.aload_n 0, 1) := by decide +kernel
theorem dX7_drop_5 : decode cX7_drop 5 = .ok (.getfield 23, 3) := by decide +kernel
theorem dX7_drop_8 : decode cX7_drop 8 = .ok (.iload_n 1, 1) := by decide +kernel
theorem dX7_drop_9 : decode cX7_drop 9 = .ok (.iaload, 1) := by decide +kernel
theorem dX7_drop_10 : decode cX7_drop 10 = .ok (.ifCond .eq 7, 3) := by decide +kernel
theorem dX7_drop_13 : decode cX7_drop 13 = .ok (.iconst 1, 1) := by decide +kernel
theorem dX7_drop_14 : decode cX7_drop 14 = .ok (.goto 4, 3) := by decide +kernel
theorem dX7_drop_17 : decode cX7_drop 17 = .ok (.iconst 0, 1) := by decide +kernel
theorem dX7_drop_18 : decode cX7_drop 18 = .ok (.istore_n 2, 1) := by decide +kernel
theorem dX7_drop_19 : decode cX7_drop 19 = .ok (.aload_n 0, 1) := by decide +kernel
theorem dX7_drop_20 : decode cX7_drop 20 = .ok (.getfield 23, 3) := by decide +kernel
theorem dX7_drop_23 : decode cX7_drop 23 = .ok (.iload_n 1, 1) := by decide +kernel
theorem dX7_drop_24 : decode cX7_drop 24 = .ok (.iconst 0, 1) := by decide +kernel
theorem dX7_drop_25 : decode cX7_drop 25 = .ok (.iastore, 1) := by decide +kernel
theorem dX7_drop_26 : decode cX7_drop 26 = .ok (.iload_n 2, 1) := by decide +kernel
theorem dX7_drop_27 : decode cX7_drop 27 = .ok (.ireturn, 1) := by decide +kernel
set_option maxRecDepth 20000 in
theorem ggX7_same_X7_needRoot : GoodIn wsX7_same wsX7_needRoot := goodIn_ca (goodIn_r _ [5, 6, 7] (by decide +kernel) (by decide +kernel)) (goodIn_sub (fun _ h => List.mem_cons_of_mem _ (List.mem_append_right _ h)) (by decide +kernel))
set_option maxRecDepth 20000 in
theorem gX7_same_X7_needRoot : GoodIn wsX7_same (va_wsS RX7 79 yX7_needRoot wsX7_needRoot) := goodIn_app (goodIn_of _ (by decide +kernel)) ggX7_same_X7_needRoot
theorem dX7_same_0 : decode cX7_same 0 = .ok (.iload_n 1, 1) := by decide +kernel
theorem dX7_same_1 : decode cX7_same 1 = .ok (.invokestatic 79, 3) := by decide +kernel
theorem dX7_same_4 : decode cX7_same 4 = .ok (.iload_n 2, 1) := by decide +kernel
theorem dX7_same_5 : decode cX7_same 5 = .ok (.invokestatic 79, 3) := by decide +kernel
theorem dX7_same_8 : decode cX7_same 8 = .ok (.aload_n 0, 1) := by decide +kernel
theorem dX7_same_9 : decode cX7_same 9 = .ok (.getfield 23, 3) := by decide +kernel
theorem dX7_same_12 : decode cX7_same 12 = .ok (.iload_n 1, 1) := by decide +kernel
theorem dX7_same_13 : decode cX7_same 13 = .ok (.iaload, 1) := by decide +kernel
theorem dX7_same_14 : decode cX7_same 14 = .ok (.aload_n 0, 1) := by decide +kernel
theorem dX7_same_15 : decode cX7_same 15 = .ok (.getfield 23, 3) := by decide +kernel
theorem dX7_same_18 : decode cX7_same 18 = .ok (.iload_n 2, 1) := by decide +kernel
theorem dX7_same_19 : decode cX7_same 19 = .ok (.iaload, 1) := by decide +kernel
theorem dX7_same_20 : decode cX7_same 20 = .ok (.if_icmp .ne 7, 3) := by decide +kernel
theorem dX7_same_23 : decode cX7_same 23 = .ok (.iconst 1, 1) := by decide +kernel
theorem dX7_same_24 : decode cX7_same 24 = .ok (.goto 4, 3) := by decide +kernel
theorem dX7_same_27 : decode cX7_same 27 = .ok (.iconst 0, 1) := by decide +kernel
theorem dX7_same_28 : decode cX7_same 28 = .ok (.ireturn, 1) := by decide +kernel
set_option maxRecDepth 20000 in
theorem ggX7_word_X7_isWord : GoodIn wsX7_word wsX7_isWord := goodIn_r _ [10] (by decide +kernel) (by decide +kernel)
set_option maxRecDepth 20000 in
theorem gX7_word_X7_isWord : GoodIn wsX7_word (va_wsS RX7 143 yX7_isWord wsX7_isWord) := goodIn_app (goodIn_of _ (by decide +kernel)) ggX7_word_X7_isWord
set_option maxRecDepth 20000 in
theorem ggX7_word_X1_append : GoodIn wsX7_word wsX1_append := goodIn_r _ [15, 16, 17, 29, 30] (by decide +kernel) (by decide +kernel)
set_option maxRecDepth 20000 in
theorem gX7_word_X1_append : GoodIn wsX7_word (wsV RX7 156 RX1 yX1_append wsX1_append) := goodIn_app (goodIn_of _ (by decide +kernel)) ggX7_word_X1_append
theorem dX7_word_0 : decode cX7_word 0 = .ok (.iload_n 1, 1) := by decide +kernel
theorem dX7_word_1 : decode cX7_word 1 = .ok (.invokestatic 143, 3) := by decide +kernel
theorem dX7_word_4 : decode cX7_word 4 = .ok (.ifCond .ne 13, 3) := by decide +kernel
theorem dX7_word_7 : decode cX7_word 7 = .ok (.new 146, 3) := by decide +kernel
theorem dX7_word_10 : decode cX7_word 10 = .ok (.dup, 1) := by decide +kernel
theorem dX7_word_11 : decode cX7_word 11 = .ok (.ldc 148, 2) := by decide +kernel
theorem dX7_word_13 : decode cX7_word 13 = .ok (.invokespecial 150, 3) := by decide +kernel
theorem dX7_word_16 : decode cX7_word 16 = .ok (.athrow, 1) := by decide +kernel
theorem dX7_word_17 : decode cX7_word 17 = .ok (.aload_n 0, 1) := by decide +kernel
theorem dX7_word_18 : decode cX7_word 18 = .ok (.getfield 30, 3) := by decide +kernel
theorem dX7_word_21 : decode cX7_word 21 = .ok (.getfield 151, 3) := by decide +kernel
theorem dX7_word_24 : decode cX7_word 24 = .ok (.bipush 12, 2) := by decide +kernel
theorem dX7_word_26 : decode cX7_word 26 = .ok (.if_icmp .lt 13, 3) := by decide +kernel
theorem dX7_word_29 : decode cX7_word 29 = .ok (.new 68, 3) := by decide +kernel
theorem dX7_word_32 : decode cX7_word 32 = .ok (.dup, 1) := by decide +kernel
theorem dX7_word_33 : decode cX7_word 33 = .ok (.ldc 154, 2) := by decide +kernel
theorem dX7_word_35 : decode cX7_word 35 = .ok (.invokespecial 72, 3) := by decide +kernel
theorem dX7_word_38 : decode cX7_word 38 = .ok (.athrow, 1) := by decide +kernel
theorem dX7_word_39 : decode cX7_word 39 = .ok (.aload_n 0, 1) := by decide +kernel
theorem dX7_word_40 : decode cX7_word 40 = .ok (.getfield 30, 3) := by decide +kernel
theorem dX7_word_43 : decode cX7_word 43 = .ok (.iload_n 1, 1) := by decide +kernel
theorem dX7_word_44 : decode cX7_word 44 = .ok (.invokevirtual 156, 3) := by decide +kernel
theorem dX7_word_47 : decode cX7_word 47 = .ok (.aload_n 0, 1) := by decide +kernel
theorem dX7_word_48 : decode cX7_word 48 = .ok (.getfield 30, 3) := by decide +kernel
theorem dX7_word_51 : decode cX7_word 51 = .ok (.getfield 151, 3) := by decide +kernel
theorem dX7_word_54 : decode cX7_word 54 = .ok (.ireturn, 1) := by decide +kernel
set_option maxRecDepth 20000 in
theorem ggX7_step_X7_isStep : GoodIn wsX7_step wsX7_isStep := goodIn_r _ [14, 8, 15, 16, 13, 17, 18, 19, 20, 21, 22, 23, 24, 25, 26, 27, 28, 29, 30, 31, 32, 33, 34, 35, 36, 37, 56, 57, 58, 59, 60, 61, 62, 63, 64, 65, 66, 73, 74] (by decide +kernel) (by decide +kernel)
set_option maxRecDepth 20000 in
theorem gX7_step_X7_isStep : GoodIn wsX7_step (wsV RX7 159 RX7 yX7_isStep wsX7_isStep) := goodIn_app (goodIn_of _ (by decide +kernel)) ggX7_step_X7_isStep
set_option maxRecDepth 20000 in
theorem ggX7_step_X5_fill : GoodIn wsX7_step wsX5_fill := goodIn_r _ [42, 43, 44, 45, 46, 47, 67, 68, 69, 70, 71, 72] (by decide +kernel) (by decide +kernel)
set_option maxRecDepth 20000 in
theorem gX7_step_X5_fill : GoodIn wsX7_step (wsV RX7 170 RX5 yX5_fill wsX5_fill) := goodIn_app (goodIn_of _ (by decide +kernel)) ggX7_step_X5_fill
set_option maxRecDepth 20000 in
theorem ggX7_step_X1_copyFrom : GoodIn wsX7_step wsX1_copyFrom := goodIn_r _ [51, 29, 52, 53, 54, 55, 28, 73, 74] (by decide +kernel) (by decide +kernel)
set_option maxRecDepth 20000 in
theorem gX7_step_X1_copyFrom : GoodIn wsX7_step (wsV RX7 177 RX1 yX1_copyFrom wsX1_copyFrom) := goodIn_app (goodIn_of _ (by decide +kernel)) ggX7_step_X1_copyFrom
theorem dX7_step_0 : decode cX7_step 0 = .ok (.aload_n 0, 1) := by decide +kernel
theorem dX7_step_1 : decode cX7_step 1 = .ok (.iload_n 1, 1) := by decide +kernel
theorem dX7_step_2 : decode cX7_step 2 = .ok (.iload_n 2, 1) := by decide +kernel
theorem dX7_step_3 : decode cX7_step 3 = .ok (.iload_n 3, 1) := by decide +kernel
theorem dX7_step_4 : decode cX7_step 4 = .ok (.iload 4, 2) := by decide +kernel
theorem dX7_step_6 : decode cX7_step 6 = .ok (.iload 5, 2) := by decide +kernel
theorem dX7_step_8 : decode cX7_step 8 = .ok (.invokevirtual 159, 3) := by decide +kernel
theorem dX7_step_11 : decode cX7_step 11 = .ok (.ifCond .ne 13, 3) := by decide +kernel
theorem dX7_step_14 : decode cX7_step 14 = .ok (.new 146, 3) := by decide +kernel
theorem dX7_step_17 : decode cX7_step 17 = .ok (.dup, 1) := by decide +kernel
theorem dX7_step_18 : decode cX7_step 18 = .ok (.ldc 163, 2) := by decide +kernel
theorem dX7_step_20 : decode cX7_step 20 = .ok (.invokespecial 150, 3) := by decide +kernel
theorem dX7_step_23 : decode cX7_step 23 = .ok (.athrow, 1) := by decide +kernel
theorem dX7_step_24 : decode cX7_step 24 = .ok (.aload_n 0, 1) := by decide +kernel
theorem dX7_step_25 : decode cX7_step 25 = .ok (.getfield 165, 3) := by decide +kernel
theorem dX7_step_28 : decode cX7_step 28 = .ok (.bipush 6, 2) := by decide +kernel
theorem dX7_step_30 : decode cX7_step 30 = .ok (.if_icmp .lt 13, 3) := by decide +kernel
theorem dX7_step_33 : decode cX7_step 33 = .ok (.new 68, 3) := by decide +kernel
theorem dX7_step_36 : decode cX7_step 36 = .ok (.dup, 1) := by decide +kernel
theorem dX7_step_37 : decode cX7_step 37 = .ok (.ldc 168, 2) := by decide +kernel
theorem dX7_step_39 : decode cX7_step 39 = .ok (.invokespecial 72, 3) := by decide +kernel
theorem dX7_step_42 : decode cX7_step 42 = .ok (.athrow, 1) := by decide +kernel
theorem dX7_step_43 : decode cX7_step 43 = .ok (.aload_n 0, 1) := by decide +kernel
theorem dX7_step_44 : decode cX7_step 44 = .ok (.getfield 36, 3) := by decide +kernel
theorem dX7_step_47 : decode cX7_step 47 = .ok (.aload_n 0, 1) := by decide +kernel
theorem dX7_step_48 : decode cX7_step 48 = .ok (.getfield 165, 3) := by decide +kernel
theorem dX7_step_51 : decode cX7_step 51 = .ok (.aaload, 1) := by decide +kernel
theorem dX7_step_52 : decode cX7_step 52 = .ok (.astore 6, 2) := by decide +kernel
theorem dX7_step_54 : decode cX7_step 54 = .ok (.aload 6, 2) := by decide +kernel
theorem dX7_step_56 : decode cX7_step 56 = .ok (.iload_n 1, 1) := by decide +kernel
theorem dX7_step_57 : decode cX7_step 57 = .ok (.iload_n 2, 1) := by decide +kernel
theorem dX7_step_58 : decode cX7_step 58 = .ok (.iload_n 3, 1) := by decide +kernel
theorem dX7_step_59 : decode cX7_step 59 = .ok (.iload 4, 2) := by decide +kernel
theorem dX7_step_61 : decode cX7_step 61 = .ok (.iload 5, 2) := by decide +kernel
theorem dX7_step_63 : decode cX7_step 63 = .ok (.invokevirtual 170, 3) := by decide +kernel
theorem dX7_step_66 : decode cX7_step 66 = .ok (.iload_n 1, 1) := by decide +kernel
theorem dX7_step_67 : decode cX7_step 67 = .ok (.iconst 2, 1) := by decide +kernel
theorem dX7_step_68 : decode cX7_step 68 = .ok (.if_icmp .ne 23, 3) := by decide +kernel
theorem dX7_step_71 : decode cX7_step 71 = .ok (.aload 6, 2) := by decide +kernel
theorem dX7_step_73 : decode cX7_step 73 = .ok (.getfield 174, 3) := by decide +kernel
theorem dX7_step_76 : decode cX7_step 76 = .ok (.aload_n 0, 1) := by decide +kernel
theorem dX7_step_77 : decode cX7_step 77 = .ok (.getfield 30, 3) := by decide +kernel
theorem dX7_step_80 : decode cX7_step 80 = .ok (.invokevirtual 177, 3) := by decide +kernel
theorem dX7_step_83 : decode cX7_step 83 = .ok (.aload_n 0, 1) := by decide +kernel
theorem dX7_step_84 : decode cX7_step 84 = .ok (.getfield 30, 3) := by decide +kernel
theorem dX7_step_87 : decode cX7_step 87 = .ok (.iconst 0, 1) := by decide +kernel
theorem dX7_step_88 : decode cX7_step 88 = .ok (.putfield 151, 3) := by decide +kernel
theorem dX7_step_91 : decode cX7_step 91 = .ok (.aload_n 0, 1) := by decide +kernel
theorem dX7_step_92 : decode cX7_step 92 = .ok (.dup, 1) := by decide +kernel
theorem dX7_step_93 : decode cX7_step 93 = .ok (.getfield 165, 3) := by decide +kernel
theorem dX7_step_96 : decode cX7_step 96 = .ok (.iconst 1, 1) := by decide +kernel
theorem dX7_step_97 : decode cX7_step 97 = .ok (.iadd, 1) := by decide +kernel
theorem dX7_step_98 : decode cX7_step 98 = .ok (.putfield 165, 3) := by decide +kernel
theorem dX7_step_101 : decode cX7_step 101 = .ok (.aload_n 0, 1) := by decide +kernel
theorem dX7_step_102 : decode cX7_step 102 = .ok (.getfield 165, 3) := by decide +kernel
theorem dX7_step_105 : decode cX7_step 105 = .ok (.ireturn, 1) := by decide +kernel
set_option maxRecDepth 20000 in
theorem ggX7_change_X7_needClass : GoodIn wsX7_change wsX7_needClass := goodIn_ca (goodIn_r _ [13, 1, 2, 14, 15, 16, 12, 17, 18, 295, 296, 297, 298, 299, 300, 301, 302, 303, 304, 305] (by decide +kernel) (by decide +kernel)) (goodIn_sub (fun _ h => List.mem_cons_of_mem _ (List.mem_append_left _ (List.mem_append_right _ h))) (by decide +kernel))
set_option maxRecDepth 20000 in
theorem gX7_change_X7_needClass : GoodIn wsX7_change (wsV RX7 75 RX7 yX7_needClass wsX7_needClass) := goodIn_app (goodIn_of _ (by decide +kernel)) ggX7_change_X7_needClass
set_option maxRecDepth 20000 in
theorem ggX7_change_X7_firstRefused : GoodIn wsX7_change wsX7_firstRefused := goodIn_r _ [22, 23, 6, 24, 25, 26, 27, 28, 29, 30, 31, 32, 33, 34, 35, 36, 37, 38, 39, 40, 41, 42, 43, 44, 45, 46, 47, 48, 49, 50, 51, 52, 53, 12, 54, 55, 56, 57, 58, 59, 60, 61, 62, 63, 64, 65, 66, 67, 68, 69, 70, 71, 72, 73, 74, 75, 76, 77, 78, 79, 80, 81, 82, 83, 84, 85, 86, 87, 88, 89, 90, 91, 92, 93, 94, 95, 96, 97, 98, 99, 100, 101, 102, 103, 104, 105, 106, 107, 108, 109, 110, 111, 112, 113, 114, 115, 116, 117, 118, 119, 120, 121, 122, 123, 124, 125, 126, 127, 128, 129, 130, 131, 132, 133, 134, 135, 136, 137, 138, 139, 140, 141, 142, 143, 144, 145, 146, 147, 148, 149, 150, 151, 152, 153, 154, 155, 156, 157, 158, 159, 160, 161, 162, 163, 164, 165, 166, 167, 168, 169, 170, 171, 172, 173, 174, 175, 176, 177, 178, 179, 180, 181, 182, 183, 184, 185, 186, 187, 188, 189, 190, 191, 192, 193, 194, 195, 196, 197, 198, 199, 200, 201, 202, 203, 204, 205, 206, 207, 208, 209, 210, 295, 296, 297, 298, 299, 300, 301, 302, 303, 304, 305, 306, 307, 308, 309, 310, 311, 312, 313, 314, 315, 316, 317, 318, 319, 320, 321, 322, 323, 324, 325, 326, 327, 328, 329, 330, 331, 332, 333, 334, 335] (by decide +kernel) (by decide +kernel)
set_option maxRecDepth 20000 in
theorem gX7_change_X7_firstRefused : GoodIn wsX7_change (wsV RX7 188 RX7 yX7_firstRefused wsX7_firstRefused) := goodIn_app (goodIn_of _ (by decide +kernel)) ggX7_change_X7_firstRefused
set_option maxRecDepth 20000 in
theorem ggX7_change_X7_carryOut : GoodIn wsX7_change wsX7_carryOut := goodIn_r _ [214, 6, 215, 24, 25, 23, 27, 56, 8, 216, 217, 36, 37, 31, 38, 33, 39, 40, 41, 42, 43, 44, 45, 46, 47, 48, 49, 50, 34, 218, 219, 220, 159, 221, 161, 222, 223, 224, 225, 226, 227, 162, 163, 164, 165, 166, 167, 168, 28, 29, 30, 32, 35, 228, 229, 230, 12, 231, 57, 55, 62, 63, 64, 65, 66, 67, 68, 69, 70, 71, 72, 73, 74, 232, 233, 234, 235, 177, 179, 236, 237, 238, 239, 178, 79, 80, 240, 241, 58, 60, 242, 198, 199, 200, 154, 155, 83, 84, 85, 86, 87, 88, 89, 90, 91, 92, 93, 94, 95, 96, 97, 98, 99, 100, 101, 102, 103, 104, 105, 106, 107, 108, 109, 110, 111, 112, 113, 114, 115, 116, 117, 118, 119, 120, 121, 122, 123, 124, 125, 126, 127, 128, 129, 130, 131, 132, 133, 243, 244, 245, 246, 247, 248, 249, 250, 251, 252, 253, 254, 255, 256, 257, 258, 259, 260, 261, 262, 263, 264, 143, 265, 266, 267, 268, 269, 270, 271, 272, 273, 274, 275, 276, 277, 278, 279, 280, 281, 282, 283, 284, 285, 286, 287, 288, 289, 290, 291, 292, 293, 294, 189, 190, 191, 192, 193, 194, 195, 196, 197, 201, 202, 203, 204, 205, 206, 207, 208, 209, 210, 295, 296, 297, 298, 299, 300, 301, 302, 303, 304, 305, 306, 307, 308, 309, 319, 320, 321, 322, 323, 324, 313, 314, 315, 316, 317, 318, 310, 311, 312, 330, 331, 332, 333, 334, 335, 325, 326, 327, 328, 329] (by decide +kernel) (by decide +kernel)
set_option maxRecDepth 20000 in
theorem gX7_change_X7_carryOut : GoodIn wsX7_change (wsV RX7 193 RX7 yX7_carryOut wsX7_carryOut) := goodIn_app (goodIn_of _ (by decide +kernel)) ggX7_change_X7_carryOut
theorem dX7_change_0 : decode cX7_change 0 = .ok (.aload_n 0, 1) := by decide +kernel
theorem dX7_change_1 : decode cX7_change 1 = .ok (.iload_n 1, 1) := by decide +kernel
theorem dX7_change_2 : decode cX7_change 2 = .ok (.invokevirtual 75, 3) := by decide +kernel
theorem dX7_change_5 : decode cX7_change 5 = .ok (.aload_n 0, 1) := by decide +kernel
theorem dX7_change_6 : decode cX7_change 6 = .ok (.getfield 165, 3) := by decide +kernel
theorem dX7_change_9 : decode cX7_change 9 = .ok (.ifCond .ne 13, 3) := by decide +kernel
theorem dX7_change_12 : decode cX7_change 12 = .ok (.new 146, 3) := by decide +kernel
theorem dX7_change_15 : decode cX7_change 15 = .ok (.dup, 1) := by decide +kernel
theorem dX7_change_16 : decode cX7_change 16 = .ok (.ldc 181, 2) := by decide +kernel
theorem dX7_change_18 : decode cX7_change 18 = .ok (.invokespecial 150, 3) := by decide +kernel
theorem dX7_change_21 : decode cX7_change 21 = .ok (.athrow, 1) := by decide +kernel
theorem dX7_change_22 : decode cX7_change 22 = .ok (.aload_n 0, 1) := by decide +kernel
theorem dX7_change_23 : decode cX7_change 23 = .ok (.getfield 165, 3) := by decide +kernel
theorem dX7_change_26 : decode cX7_change 26 = .ok (.istore_n 2, 1) := by decide +kernel
theorem dX7_change_27 : decode cX7_change 27 = .ok (.aload_n 0, 1) := by decide +kernel
theorem dX7_change_28 : decode cX7_change 28 = .ok (.getfield 11, 3) := by decide +kernel
theorem dX7_change_31 : decode cX7_change 31 = .ok (.iload_n 1, 1) := by decide +kernel
theorem dX7_change_32 : decode cX7_change 32 = .ok (.aaload, 1) := by decide +kernel
theorem dX7_change_33 : decode cX7_change 33 = .ok (.astore_n 3, 1) := by decide +kernel
theorem dX7_change_34 : decode cX7_change 34 = .ok (.aload_n 0, 1) := by decide +kernel
theorem dX7_change_35 : decode cX7_change 35 = .ok (.iconst 0, 1) := by decide +kernel
theorem dX7_change_36 : decode cX7_change 36 = .ok (.putfield 165, 3) := by decide +kernel
theorem dX7_change_39 : decode cX7_change 39 = .ok (.aload_n 0, 1) := by decide +kernel
theorem dX7_change_40 : decode cX7_change 40 = .ok (.iconst (-1), 1) := by decide +kernel
theorem dX7_change_41 : decode cX7_change 41 = .ok (.putfield 41, 3) := by decide +kernel
theorem dX7_change_44 : decode cX7_change 44 = .ok (.aload_n 3, 1) := by decide +kernel
theorem dX7_change_45 : decode cX7_change 45 = .ok (.getfield 183, 3) := by decide +kernel
theorem dX7_change_48 : decode cX7_change 48 = .ok (.iconst 1, 1) := by decide +kernel
theorem dX7_change_49 : decode cX7_change 49 = .ok (.iadd, 1) := by decide +kernel
theorem dX7_change_50 : decode cX7_change 50 = .ok (.bipush 10, 2) := by decide +kernel
theorem dX7_change_52 : decode cX7_change 52 = .ok (.if_icmp .lt 13, 3) := by decide +kernel
theorem dX7_change_55 : decode cX7_change 55 = .ok (.new 68, 3) := by decide +kernel
theorem dX7_change_58 : decode cX7_change 58 = .ok (.dup, 1) := by decide +kernel
theorem dX7_change_59 : decode cX7_change 59 = .ok (.ldc 186, 2) := by decide +kernel
theorem dX7_change_61 : decode cX7_change 61 = .ok (.invokespecial 72, 3) := by decide +kernel
theorem dX7_change_64 : decode cX7_change 64 = .ok (.athrow, 1) := by decide +kernel
theorem dX7_change_65 : decode cX7_change 65 = .ok (.aload_n 0, 1) := by decide +kernel
theorem dX7_change_66 : decode cX7_change 66 = .ok (.aload_n 0, 1) := by decide +kernel
theorem dX7_change_67 : decode cX7_change 67 = .ok (.iload_n 1, 1) := by decide +kernel
theorem dX7_change_68 : decode cX7_change 68 = .ok (.iload_n 2, 1) := by decide +kernel
theorem dX7_change_69 : decode cX7_change 69 = .ok (.invokevirtual 188, 3) := by decide +kernel
theorem dX7_change_72 : decode cX7_change 72 = .ok (.putfield 41, 3) := by decide +kernel
theorem dX7_change_75 : decode cX7_change 75 = .ok (.aload_n 0, 1) := by decide +kernel
theorem dX7_change_76 : decode cX7_change 76 = .ok (.getfield 41, 3) := by decide +kernel
theorem dX7_change_79 : decode cX7_change 79 = .ok (.iconst (-1), 1) := by decide +kernel
theorem dX7_change_80 : decode cX7_change 80 = .ok (.if_icmp .eq 13, 3) := by decide +kernel
theorem dX7_change_83 : decode cX7_change 83 = .ok (.new 68, 3) := by decide +kernel
theorem dX7_change_86 : decode cX7_change 86 = .ok (.dup, 1) := by decide +kernel
theorem dX7_change_87 : decode cX7_change 87 = .ok (.ldc 191, 2) := by decide +kernel
theorem dX7_change_89 : decode cX7_change 89 = .ok (.invokespecial 72, 3) := by decide +kernel
theorem dX7_change_92 : decode cX7_change 92 = .ok (.athrow, 1) := by decide +kernel
theorem dX7_change_93 : decode cX7_change 93 = .ok (.aload_n 0, 1) := by decide +kernel
theorem dX7_change_94 : decode cX7_change 94 = .ok (.iload_n 1, 1) := by decide +kernel
theorem dX7_change_95 : decode cX7_change 95 = .ok (.iload_n 2, 1) := by decide +kernel
theorem dX7_change_96 : decode cX7_change 96 = .ok (.invokevirtual 193, 3) := by decide +kernel
theorem dX7_change_99 : decode cX7_change 99 = .ok (.aload_n 3, 1) := by decide +kernel
theorem dX7_change_100 : decode cX7_change 100 = .ok (.getfield 183, 3) := by decide +kernel
theorem dX7_change_103 : decode cX7_change 103 = .ok (.ireturn, 1) := by decide +kernel
set_option maxRecDepth 20000 in
theorem ggX7_takeBack_X7_needClass : GoodIn wsX7_takeBack wsX7_needClass := goodIn_ca (goodIn_r _ [15, 16, 17, 18, 19, 20, 14, 21, 22, 75, 76, 77, 78, 79, 80, 81, 82, 83, 84, 85] (by decide +kernel) (by decide +kernel)) (goodIn_sub (fun _ h => List.mem_cons_of_mem _ (List.mem_append_right _ h)) (by decide +kernel))
