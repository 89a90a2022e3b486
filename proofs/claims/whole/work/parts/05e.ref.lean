section W_X8_lay
variable {p : Program} {l : Launch} {e : Env} {s : State} {m : MethodId} {args : Array Value} {below : List Frame} {meth : Method} {c : Code} {D : va_G} {A : Nat → Prop} {cy : Nat → ClassId} {ad : Nat → Nat → Nat} {Q : State → Prop}
abbrev rm_X8_lay : Room := { frames := 3, cells := 0, slots := 0, locals := 83 }
theorem in_X8_lay_X8 : ∀ w ∈ u_ws RX8 TX8 44, w ∈ wsX8_lay := by decide +kernel
set_option maxRecDepth 100000 in
set_option maxHeartbeats 4000000 in
theorem t_X8_lay_J216 (K : Cx p s m args meth c D A (tysC cy) RX8 cX8_lay 4 (some .boolean) wsX8_lay (fun _ _ => True)) (n : Nat) (S : MSt)  {out : Int32 × MSt} (hm : m_X8_lay_J216 n S  = some out) : ∀ (H : Heap) (locs : List Loc), Wd D A s.heap (GM cy ad S) H locs → ∀ ls : Array Slot, lv_has ls 4 [(0, .ref (ad 0 0))] → W p l e rm_X8_lay s m args below meth c H locs 0 0 (MQ below (va_Qi (fun r (u : MSt) => out = (r, u)) (fun u => Pst D (tysC cy) A (GM cy ad u)) A) args s 0 0 A) (F0 m 216 ls []) := by
  intro H locs hw ls hl 
  obtain ⟨hx, hb, hml, hown, hts, hr, hlo, hK, hA, hX⟩ := id K
  unfold m_X8_lay_J216 at hm
  refine lv_aload_n hx hb dX8_lay_216 rfl (lv_at hl 0 rfl) ?_
  refine g_get (ref := "MigrantHeapModel") (C := RX8) (T := TX8) (N := 44) (ci := 8) K in_X8_lay_X8 hw 0 rfl (by decide : 0 < 1) rfl rfl 41 (by decide) (List.mem_of_getElem? (i := 3) rfl) rfl rfl dX8_lay_217 ?_
  refine lv_aload_n hx hb dX8_lay_220 rfl (lv_at hl 0 rfl) ?_
  refine g_get (ref := "MigrantHeapModel") (C := RX8) (T := TX8) (N := 44) (ci := 8) K in_X8_lay_X8 hw 0 rfl (by decide : 0 < 1) rfl rfl 40 (by decide) (List.mem_of_getElem? (i := 4) rfl) rfl rfl dX8_lay_221 ?_
  refine lv_iconst (v := 1) hx hb dX8_lay_224 (by decide) ?_
  refine lv_isub hx hb dX8_lay_225 ?_
  obtain ⟨h79, hm⟩ := chkS hm
  refine g_lald K hw 32 1 rfl (by decide) rfl rfl h79 dX8_lay_226 ?_
  refine lv_ldc2 (v := (-1000000000000)) hx hb hown (hts _ (List.mem_of_getElem? (i := 8) rfl)) dX8_lay_227 ?_
  refine W.lcmp hx hb dX8_lay_230 ?_
  refine lv_if_lt (tgt := 256) hx hb dX8_lay_231 (by decide) (fun c80 => ?_) (fun c80 => ?_)
  · replace hm := (if_pos c80).symm.trans hm
    refine lv_iconst (v := 0) hx hb dX8_lay_256 (by decide) ?_
    exact g_zret (GG := GM cy ad) K hw rfl (Option.some.inj hm).symm dX8_lay_257
  · replace hm := (if_neg c80).symm.trans hm
    refine lv_aload_n hx hb dX8_lay_234 rfl (lv_at hl 0 rfl) ?_
    refine g_get (ref := "MigrantHeapModel") (C := RX8) (T := TX8) (N := 44) (ci := 8) K in_X8_lay_X8 hw 0 rfl (by decide : 0 < 1) rfl rfl 42 (by decide) (List.mem_of_getElem? (i := 6) rfl) rfl rfl dX8_lay_235 ?_
    refine lv_aload_n hx hb dX8_lay_238 rfl (lv_at hl 0 rfl) ?_
    refine g_get (ref := "MigrantHeapModel") (C := RX8) (T := TX8) (N := 44) (ci := 8) K in_X8_lay_X8 hw 0 rfl (by decide : 0 < 1) rfl rfl 40 (by decide) (List.mem_of_getElem? (i := 4) rfl) rfl rfl dX8_lay_239 ?_
    refine lv_iconst (v := 1) hx hb dX8_lay_242 (by decide) ?_
    refine lv_isub hx hb dX8_lay_243 ?_
    obtain ⟨h81, hm⟩ := chkS hm
    refine g_lald K hw 33 1 rfl (by decide) rfl rfl h81 dX8_lay_244 ?_
    refine lv_ldc2 (v := 1000000000000) hx hb hown (hts _ (List.mem_of_getElem? (i := 9) rfl)) dX8_lay_245 ?_
    refine W.lcmp hx hb dX8_lay_248 ?_
    refine lv_if_gt (tgt := 256) hx hb dX8_lay_249 (by decide) (fun c82 => ?_) (fun c82 => ?_)
    · replace hm := (if_pos c82).symm.trans hm
      refine lv_iconst (v := 0) hx hb dX8_lay_256 (by decide) ?_
      exact g_zret (GG := GM cy ad) K hw rfl (Option.some.inj hm).symm dX8_lay_257
    · replace hm := (if_neg c82).symm.trans hm
      refine lv_iconst (v := 1) hx hb dX8_lay_252 (by decide) ?_
      refine lv_goto (tgt := 257) hx hb dX8_lay_253 (by decide) ?_
      exact g_zret (GG := GM cy ad) K hw rfl (Option.some.inj hm).symm dX8_lay_257
set_option maxRecDepth 100000 in
set_option maxHeartbeats 4000000 in
theorem t_X8_lay_0 (K : Cx p s m args meth c D A (tysC cy) RX8 cX8_lay 4 (some .boolean) wsX8_lay (fun _ _ => True)) (n : Nat) (S : MSt) (x1 : Int32)  {out : Int32 × MSt} (hm : m_X8_lay n S x1 = some out) : ∀ (H : Heap) (locs : List Loc), Wd D A s.heap (GM cy ad S) H locs → ∀ ls : Array Slot, lv_has ls 4 [(0, .ref (ad 0 0)), (1, .int x1)] → W p l e rm_X8_lay s m args below meth c H locs 0 0 (MQ below (va_Qi (fun r (u : MSt) => out = (r, u)) (fun u => Pst D (tysC cy) A (GM cy ad u)) A) args s 0 0 A) (F0 m 0 ls []) := by
  intro H locs hw ls hl
  obtain ⟨hx, hb, hml, hown, hts, hr, hlo, hK, hA, hX⟩ := id K
  unfold m_X8_lay at hm
  refine lv_iload_n hx hb dX8_lay_0 rfl (lv_at hl 1 rfl) ?_
  refine lv_bipush (v := 10) hx hb dX8_lay_1 (by decide) ?_
  refine lv_icmp_ge (tgt := 100) hx hb dX8_lay_3 (by decide) (fun c83 => ?_) (fun c83 => ?_)
  · replace hm := (if_pos c83).symm.trans hm
    refine lv_iload_n hx hb dX8_lay_100 rfl (lv_at hl 1 rfl) ?_
    refine lv_bipush (v := 100) hx hb dX8_lay_101 (by decide) ?_
    refine lv_icmp_lt (tgt := 149) hx hb dX8_lay_103 (by decide) (fun c84 => ?_) (fun c84 => ?_)
    · replace hm := (if_pos c84).symm.trans hm
      refine lv_iload_n hx hb dX8_lay_149 rfl (lv_at hl 1 rfl) ?_
      refine lv_bipush (v := 16) hx hb dX8_lay_150 (by decide) ?_
      refine lv_icmp_ne (tgt := 206) hx hb dX8_lay_152 (by decide) (fun c85 => ?_) (fun c85 => ?_)
      · replace hm := (if_pos c85).symm.trans hm
        refine lv_aload_n hx hb dX8_lay_206 rfl (lv_at hl 0 rfl) ?_
        refine lv_iload_n hx hb dX8_lay_207 rfl (lv_at hl 1 rfl) ?_
        obtain ⟨z87, hc86, hm⟩ := bindS hm
        refine g_calli (GG := GM cy ad) K hw (va_runV (As := [.int x1]) (rest := []) (g_fix K) (c_X8_pair l D cy ad H.size n S x1  hc86) (cwV 1 (g_hts K) gX8_lay_X8_pair rfl rfl rfl (by decide +kernel) ⟨Nat.le_of_ble_eq_true rfl, Nat.le_of_ble_eq_true rfl⟩) ⟨g_blind rides_none, g_recv K hw 0 rfl (by decide : 0 < 1) rfl rfl, g_pre (X2 := fun _ _ => True) K hw (fun _ _ _ => trivial)⟩ rfl rfl hl.1 rfl (lv_room (Nat.le_of_ble_eq_true rfl)) dX8_lay_208 ⟨Nat.le_of_ble_eq_true rfl, Nat.le_of_ble_eq_true rfl⟩) (fun r u H locs hp hw => ?_)
        obtain ⟨rfl, rfl⟩ : r = z87.1 ∧ u = z87.2 := by rw [hp]; exact ⟨rfl, rfl⟩
        refine lv_if_ne (tgt := 216) hx hb dX8_lay_211 (by decide) (fun c88 => ?_) (fun c88 => ?_)
        · replace hm := (if_pos c88).symm.trans hm
          exact t_X8_lay_J216 K n z87.2 hm H locs hw ls (lv_sub hl [0] rfl)
        · replace hm := (if_neg (fun h => h c88)).symm.trans hm
          refine lv_iconst (v := 0) hx hb dX8_lay_214 (by decide) ?_
          exact g_zret (GG := GM cy ad) K hw rfl (Option.some.inj hm).symm dX8_lay_215
      · replace hm := (if_neg (fun h => h c85)).symm.trans hm
        refine lv_aload_n hx hb dX8_lay_155 rfl (lv_at hl 0 rfl) ?_
        refine g_get (ref := "MigrantHeapModel") (C := RX8) (T := TX8) (N := 44) (ci := 8) K in_X8_lay_X8 hw 0 rfl (by decide : 0 < 1) rfl rfl 41 (by decide) (List.mem_of_getElem? (i := 3) rfl) rfl rfl dX8_lay_156 ?_
        refine lv_aload_n hx hb dX8_lay_159 rfl (lv_at hl 0 rfl) ?_
        refine g_get (ref := "MigrantHeapModel") (C := RX8) (T := TX8) (N := 44) (ci := 8) K in_X8_lay_X8 hw 0 rfl (by decide : 0 < 1) rfl rfl 40 (by decide) (List.mem_of_getElem? (i := 4) rfl) rfl rfl dX8_lay_160 ?_
        refine lv_iconst (v := 1) hx hb dX8_lay_163 (by decide) ?_
        refine lv_isub hx hb dX8_lay_164 ?_
        obtain ⟨h89, hm⟩ := chkS hm
        refine g_lald K hw 32 1 rfl (by decide) rfl rfl h89 dX8_lay_165 ?_
        obtain ⟨x90, hx90, hm⟩ := nm_ex hm
        refine W.eq (g2 := F0 m 166 ls (.long x90 :: [])) (by rw [hx90]) ?_
        refine lv_lstore_n (lv' := [(2, .long x90), (0, .ref (ad 0 0)), (1, .int x1)]) hx hb dX8_lay_166 rfl hl (by decide) rfl (fun ls hl => ?_)
        refine lv_aload_n hx hb dX8_lay_167 rfl (lv_at hl 1 rfl) ?_
        refine g_get (ref := "MigrantHeapModel") (C := RX8) (T := TX8) (N := 44) (ci := 8) K in_X8_lay_X8 hw 0 rfl (by decide : 0 < 1) rfl rfl 41 (by decide) (List.mem_of_getElem? (i := 3) rfl) rfl rfl dX8_lay_168 ?_
        refine lv_aload_n hx hb dX8_lay_171 rfl (lv_at hl 1 rfl) ?_
        refine g_get (ref := "MigrantHeapModel") (C := RX8) (T := TX8) (N := 44) (ci := 8) K in_X8_lay_X8 hw 0 rfl (by decide : 0 < 1) rfl rfl 40 (by decide) (List.mem_of_getElem? (i := 4) rfl) rfl rfl dX8_lay_172 ?_
        refine lv_iconst (v := 1) hx hb dX8_lay_175 (by decide) ?_
        refine lv_isub hx hb dX8_lay_176 ?_
        refine lv_aload_n hx hb dX8_lay_177 rfl (lv_at hl 1 rfl) ?_
        refine g_get (ref := "MigrantHeapModel") (C := RX8) (T := TX8) (N := 44) (ci := 8) K in_X8_lay_X8 hw 0 rfl (by decide : 0 < 1) rfl rfl 42 (by decide) (List.mem_of_getElem? (i := 6) rfl) rfl rfl dX8_lay_178 ?_
        refine lv_aload_n hx hb dX8_lay_181 rfl (lv_at hl 1 rfl) ?_
        refine g_get (ref := "MigrantHeapModel") (C := RX8) (T := TX8) (N := 44) (ci := 8) K in_X8_lay_X8 hw 0 rfl (by decide : 0 < 1) rfl rfl 40 (by decide) (List.mem_of_getElem? (i := 4) rfl) rfl rfl dX8_lay_182 ?_
        refine lv_iconst (v := 1) hx hb dX8_lay_185 (by decide) ?_
        refine lv_isub hx hb dX8_lay_186 ?_
        obtain ⟨h91, hm⟩ := chkS hm
        refine g_lald K hw 33 1 rfl (by decide) rfl rfl h91 dX8_lay_187 ?_
        refine lv_lneg hx hb dX8_lay_188 ?_
        obtain ⟨h92, hm⟩ := chkS hm
        refine g_last K hw 32 1 rfl (by decide) rfl rfl h92 dX8_lay_189 (eM_41 cy ad S (((S.1 40 0) - 1).toNatClampNeg) (-(S.2 42 ((S.1 40 0) - 1).toNatClampNeg))) (fun H locs hw => ?_)
        obtain ⟨S93, hS93, hm⟩ := nm_ex hm
        rw [← hS93] at hw
        refine lv_aload_n hx hb dX8_lay_190 rfl (lv_at hl 1 rfl) ?_
        refine g_get (ref := "MigrantHeapModel") (C := RX8) (T := TX8) (N := 44) (ci := 8) K in_X8_lay_X8 hw 0 rfl (by decide : 0 < 1) rfl rfl 42 (by decide) (List.mem_of_getElem? (i := 6) rfl) rfl rfl dX8_lay_191 ?_
        refine lv_aload_n hx hb dX8_lay_194 rfl (lv_at hl 1 rfl) ?_
        refine g_get (ref := "MigrantHeapModel") (C := RX8) (T := TX8) (N := 44) (ci := 8) K in_X8_lay_X8 hw 0 rfl (by decide : 0 < 1) rfl rfl 40 (by decide) (List.mem_of_getElem? (i := 4) rfl) rfl rfl dX8_lay_195 ?_
        refine lv_iconst (v := 1) hx hb dX8_lay_198 (by decide) ?_
        refine lv_isub hx hb dX8_lay_199 ?_
        refine lv_lload_n hx hb dX8_lay_200 rfl (lv_at hl 0 rfl) ?_
        refine lv_lneg hx hb dX8_lay_201 ?_
        obtain ⟨h94, hm⟩ := chkS hm
        refine g_last K hw 33 1 rfl (by decide) rfl rfl h94 dX8_lay_202 (eM_42 cy ad S93 (((S93.1 40 0) - 1).toNatClampNeg) (-x90)) (fun H locs hw => ?_)
        obtain ⟨S95, hS95, hm⟩ := nm_ex hm
        rw [← hS95] at hw
        refine lv_goto (tgt := 216) hx hb dX8_lay_203 (by decide) ?_
        exact t_X8_lay_J216 K n S95 hm H locs hw ls (lv_sub hl [1] rfl)
    · replace hm := (if_neg c84).symm.trans hm
      refine lv_aload_n hx hb dX8_lay_106 rfl (lv_at hl 0 rfl) ?_
      refine g_get (ref := "MigrantHeapModel") (C := RX8) (T := TX8) (N := 44) (ci := 8) K in_X8_lay_X8 hw 0 rfl (by decide : 0 < 1) rfl rfl 41 (by decide) (List.mem_of_getElem? (i := 3) rfl) rfl rfl dX8_lay_107 ?_
      refine lv_aload_n hx hb dX8_lay_110 rfl (lv_at hl 0 rfl) ?_
      refine g_get (ref := "MigrantHeapModel") (C := RX8) (T := TX8) (N := 44) (ci := 8) K in_X8_lay_X8 hw 0 rfl (by decide : 0 < 1) rfl rfl 40 (by decide) (List.mem_of_getElem? (i := 4) rfl) rfl rfl dX8_lay_111 ?_
      refine lv_iload_n hx hb dX8_lay_114 rfl (lv_at hl 1 rfl) ?_
      refine lv_sipush (v := 200) hx hb dX8_lay_115 (by decide) ?_
      refine lv_isub hx hb dX8_lay_118 ?_
      refine lv_i2l hx hb dX8_lay_119 rfl ?_
      obtain ⟨h96, hm⟩ := chkS hm
      refine g_last K hw 32 1 rfl (by decide) rfl rfl h96 dX8_lay_120 (eM_41 cy ad S ((S.1 40 0).toNatClampNeg) ((x1 - 200).toInt64)) (fun H locs hw => ?_)
      obtain ⟨S97, hS97, hm⟩ := nm_ex hm
      rw [← hS97] at hw
      refine lv_aload_n hx hb dX8_lay_121 rfl (lv_at hl 0 rfl) ?_
      refine g_get (ref := "MigrantHeapModel") (C := RX8) (T := TX8) (N := 44) (ci := 8) K in_X8_lay_X8 hw 0 rfl (by decide : 0 < 1) rfl rfl 42 (by decide) (List.mem_of_getElem? (i := 6) rfl) rfl rfl dX8_lay_122 ?_
      refine lv_aload_n hx hb dX8_lay_125 rfl (lv_at hl 0 rfl) ?_
      refine g_get (ref := "MigrantHeapModel") (C := RX8) (T := TX8) (N := 44) (ci := 8) K in_X8_lay_X8 hw 0 rfl (by decide : 0 < 1) rfl rfl 40 (by decide) (List.mem_of_getElem? (i := 4) rfl) rfl rfl dX8_lay_126 ?_
      refine lv_iload_n hx hb dX8_lay_129 rfl (lv_at hl 1 rfl) ?_
      refine lv_sipush (v := 200) hx hb dX8_lay_130 (by decide) ?_
      refine lv_isub hx hb dX8_lay_133 ?_
      refine lv_i2l hx hb dX8_lay_134 rfl ?_
      obtain ⟨h98, hm⟩ := chkS hm
      refine g_last K hw 33 1 rfl (by decide) rfl rfl h98 dX8_lay_135 (eM_42 cy ad S97 ((S97.1 40 0).toNatClampNeg) ((x1 - 200).toInt64)) (fun H locs hw => ?_)
      obtain ⟨S99, hS99, hm⟩ := nm_ex hm
      rw [← hS99] at hw
      refine lv_aload_n hx hb dX8_lay_136 rfl (lv_at hl 0 rfl) ?_
      refine lv_dup hx hb dX8_lay_137 rfl ?_
      refine g_get (ref := "MigrantHeapModel") (C := RX8) (T := TX8) (N := 44) (ci := 8) K in_X8_lay_X8 hw 0 rfl (by decide : 0 < 1) rfl rfl 40 (by decide) (List.mem_of_getElem? (i := 4) rfl) rfl rfl dX8_lay_138 ?_
      refine lv_iconst (v := 1) hx hb dX8_lay_141 (by decide) ?_
      refine lv_iadd hx hb dX8_lay_142 ?_
      refine g_put (v := .int ((S99.1 40 0) + 1)) (ty := .int) (ref := "MigrantHeapModel") (C := RX8) (T := TX8) (N := 44) (ci := 8) K in_X8_lay_X8 tyX8 tyX8_ok nmX8 hw 0 rfl (by decide : 0 < 1) rfl rfl 40 (by decide) (List.mem_of_getElem? (i := 4) rfl) rfl rfl (by decide +kernel) rfl rfl (Nat.le_of_ble_eq_true rfl) dX8_lay_143 (eM_40 cy ad S99 ((S99.1 40 0) + 1)) (fun H locs hw => ?_)
      obtain ⟨S100, hS100, hm⟩ := nm_ex hm
      rw [← hS100] at hw
      refine lv_goto (tgt := 216) hx hb dX8_lay_146 (by decide) ?_
      exact t_X8_lay_J216 K n S100 hm H locs hw ls (lv_sub hl [0] rfl)
  · replace hm := (if_neg c83).symm.trans hm
    refine lv_aload_n hx hb dX8_lay_6 rfl (lv_at hl 0 rfl) ?_
    refine lv_aload_n hx hb dX8_lay_7 rfl (lv_at hl 0 rfl) ?_
    refine g_get (ref := "MigrantHeapModel") (C := RX8) (T := TX8) (N := 44) (ci := 8) K in_X8_lay_X8 hw 0 rfl (by decide : 0 < 1) rfl rfl 27 (by decide) (List.mem_of_getElem? (i := 1) rfl) rfl rfl dX8_lay_8 ?_
    refine lv_iload_n hx hb dX8_lay_11 rfl (lv_at hl 1 rfl) ?_
    obtain ⟨z102, hc101, hm⟩ := bindS hm
    refine g_calli (GG := GM cy ad) K hw (va_runV (As := [.int (S.1 27 0), .int x1]) (rest := []) (g_fix K) (c_X8_find l D cy ad H.size n S (S.1 27 0) x1  hc101) (cwV 2 (g_hts K) gX8_lay_X8_find rfl rfl rfl (by decide +kernel) ⟨Nat.le_of_ble_eq_true rfl, Nat.le_of_ble_eq_true rfl⟩) ⟨g_blind rides_none, g_recv K hw 0 rfl (by decide : 0 < 1) rfl rfl, g_pre (X2 := fun _ _ => True) K hw (fun _ _ _ => trivial)⟩ rfl rfl hl.1 rfl (lv_room (Nat.le_of_ble_eq_true rfl)) dX8_lay_12 ⟨Nat.le_of_ble_eq_true rfl, Nat.le_of_ble_eq_true rfl⟩) (fun r u H locs hp hw => ?_)
    obtain ⟨rfl, hu⟩ := hp
    rw [hu] at hw
    refine lv_istore_n (lv' := [(2, .int z102), (0, .ref (ad 0 0)), (1, .int x1)]) hx hb dX8_lay_15 rfl hl (by decide) rfl (fun ls hl => ?_)
    refine lv_iload_n hx hb dX8_lay_16 rfl (lv_at hl 0 rfl) ?_
    refine lv_if_lt (tgt := 37) hx hb dX8_lay_17 (by decide) (fun c103 => ?_) (fun c103 => ?_)
    · replace hm := (if_pos c103).symm.trans hm
      refine lv_iconst (v := 0) hx hb dX8_lay_37 (by decide) ?_
      exact g_zret (GG := GM cy ad) K hw rfl (Option.some.inj hm).symm dX8_lay_38
    · replace hm := (if_neg c103).symm.trans hm
      refine lv_aload_n hx hb dX8_lay_20 rfl (lv_at hl 1 rfl) ?_
      refine g_get (ref := "MigrantHeapModel") (C := RX8) (T := TX8) (N := 44) (ci := 8) K in_X8_lay_X8 hw 0 rfl (by decide : 0 < 1) rfl rfl 6 (by decide) (List.mem_of_getElem? (i := 2) rfl) rfl rfl dX8_lay_21 ?_
      refine lv_bipush (v := 6) hx hb dX8_lay_24 (by decide) ?_
      refine lv_aload_n hx hb dX8_lay_26 rfl (lv_at hl 1 rfl) ?_
      refine g_get (ref := "MigrantHeapModel") (C := RX8) (T := TX8) (N := 44) (ci := 8) K in_X8_lay_X8 hw 0 rfl (by decide : 0 < 1) rfl rfl 27 (by decide) (List.mem_of_getElem? (i := 1) rfl) rfl rfl dX8_lay_27 ?_
      refine lv_imul hx hb dX8_lay_30 ?_
      refine lv_iload_n hx hb dX8_lay_31 rfl (lv_at hl 0 rfl) ?_
      refine lv_iadd hx hb dX8_lay_32 ?_
      obtain ⟨h104, hm⟩ := chkS hm
      refine g_iald K hw 5 0 rfl (by decide) rfl rfl h104 dX8_lay_33 ?_
      refine lv_if_eq (tgt := 39) hx hb dX8_lay_34 (by decide) (fun c105 => ?_) (fun c105 => ?_)
      · replace hm := (if_pos c105).symm.trans hm
        refine lv_aload_n hx hb dX8_lay_39 rfl (lv_at hl 1 rfl) ?_
        refine g_get (ref := "MigrantHeapModel") (C := RX8) (T := TX8) (N := 44) (ci := 8) K in_X8_lay_X8 hw 0 rfl (by decide : 0 < 1) rfl rfl 41 (by decide) (List.mem_of_getElem? (i := 3) rfl) rfl rfl dX8_lay_40 ?_
        refine lv_aload_n hx hb dX8_lay_43 rfl (lv_at hl 1 rfl) ?_
        refine g_get (ref := "MigrantHeapModel") (C := RX8) (T := TX8) (N := 44) (ci := 8) K in_X8_lay_X8 hw 0 rfl (by decide : 0 < 1) rfl rfl 40 (by decide) (List.mem_of_getElem? (i := 4) rfl) rfl rfl dX8_lay_44 ?_
        refine lv_aload_n hx hb dX8_lay_47 rfl (lv_at hl 1 rfl) ?_
        refine g_get (ref := "MigrantHeapModel") (C := RX8) (T := TX8) (N := 44) (ci := 8) K in_X8_lay_X8 hw 0 rfl (by decide : 0 < 1) rfl rfl 7 (by decide) (List.mem_of_getElem? (i := 5) rfl) rfl rfl dX8_lay_48 ?_
        refine lv_bipush (v := 6) hx hb dX8_lay_51 (by decide) ?_
        refine lv_aload_n hx hb dX8_lay_53 rfl (lv_at hl 1 rfl) ?_
        refine g_get (ref := "MigrantHeapModel") (C := RX8) (T := TX8) (N := 44) (ci := 8) K in_X8_lay_X8 hw 0 rfl (by decide : 0 < 1) rfl rfl 27 (by decide) (List.mem_of_getElem? (i := 1) rfl) rfl rfl dX8_lay_54 ?_
        refine lv_imul hx hb dX8_lay_57 ?_
        refine lv_iload_n hx hb dX8_lay_58 rfl (lv_at hl 0 rfl) ?_
        refine lv_iadd hx hb dX8_lay_59 ?_
        obtain ⟨h106, hm⟩ := chkS hm
        refine g_iald K hw 6 0 rfl (by decide) rfl rfl h106 dX8_lay_60 ?_
        refine lv_i2l hx hb dX8_lay_61 rfl ?_
        obtain ⟨h107, hm⟩ := chkS hm
        refine g_last K hw 32 1 rfl (by decide) rfl rfl h107 dX8_lay_62 (eM_41 cy ad S ((S.1 40 0).toNatClampNeg) ((S.1 7 ((6 * (S.1 27 0)) + z102).toNatClampNeg).toInt64)) (fun H locs hw => ?_)
        obtain ⟨S108, hS108, hm⟩ := nm_ex hm
        rw [← hS108] at hw
        refine lv_aload_n hx hb dX8_lay_63 rfl (lv_at hl 1 rfl) ?_
        refine g_get (ref := "MigrantHeapModel") (C := RX8) (T := TX8) (N := 44) (ci := 8) K in_X8_lay_X8 hw 0 rfl (by decide : 0 < 1) rfl rfl 42 (by decide) (List.mem_of_getElem? (i := 6) rfl) rfl rfl dX8_lay_64 ?_
        refine lv_aload_n hx hb dX8_lay_67 rfl (lv_at hl 1 rfl) ?_
        refine g_get (ref := "MigrantHeapModel") (C := RX8) (T := TX8) (N := 44) (ci := 8) K in_X8_lay_X8 hw 0 rfl (by decide : 0 < 1) rfl rfl 40 (by decide) (List.mem_of_getElem? (i := 4) rfl) rfl rfl dX8_lay_68 ?_
        refine lv_aload_n hx hb dX8_lay_71 rfl (lv_at hl 1 rfl) ?_
        refine g_get (ref := "MigrantHeapModel") (C := RX8) (T := TX8) (N := 44) (ci := 8) K in_X8_lay_X8 hw 0 rfl (by decide : 0 < 1) rfl rfl 8 (by decide) (List.mem_of_getElem? (i := 7) rfl) rfl rfl dX8_lay_72 ?_
        refine lv_bipush (v := 6) hx hb dX8_lay_75 (by decide) ?_
        refine lv_aload_n hx hb dX8_lay_77 rfl (lv_at hl 1 rfl) ?_
        refine g_get (ref := "MigrantHeapModel") (C := RX8) (T := TX8) (N := 44) (ci := 8) K in_X8_lay_X8 hw 0 rfl (by decide : 0 < 1) rfl rfl 27 (by decide) (List.mem_of_getElem? (i := 1) rfl) rfl rfl dX8_lay_78 ?_
        refine lv_imul hx hb dX8_lay_81 ?_
        refine lv_iload_n hx hb dX8_lay_82 rfl (lv_at hl 0 rfl) ?_
        refine lv_iadd hx hb dX8_lay_83 ?_
        obtain ⟨h109, hm⟩ := chkS hm
        refine g_iald K hw 7 0 rfl (by decide) rfl rfl h109 dX8_lay_84 ?_
        refine lv_i2l hx hb dX8_lay_85 rfl ?_
        obtain ⟨h110, hm⟩ := chkS hm
        refine g_last K hw 33 1 rfl (by decide) rfl rfl h110 dX8_lay_86 (eM_42 cy ad S108 ((S108.1 40 0).toNatClampNeg) ((S108.1 8 ((6 * (S108.1 27 0)) + z102).toNatClampNeg).toInt64)) (fun H locs hw => ?_)
        obtain ⟨S111, hS111, hm⟩ := nm_ex hm
        rw [← hS111] at hw
        refine lv_aload_n hx hb dX8_lay_87 rfl (lv_at hl 1 rfl) ?_
        refine lv_dup hx hb dX8_lay_88 rfl ?_
        refine g_get (ref := "MigrantHeapModel") (C := RX8) (T := TX8) (N := 44) (ci := 8) K in_X8_lay_X8 hw 0 rfl (by decide : 0 < 1) rfl rfl 40 (by decide) (List.mem_of_getElem? (i := 4) rfl) rfl rfl dX8_lay_89 ?_
        refine lv_iconst (v := 1) hx hb dX8_lay_92 (by decide) ?_
        refine lv_iadd hx hb dX8_lay_93 ?_
        refine g_put (v := .int ((S111.1 40 0) + 1)) (ty := .int) (ref := "MigrantHeapModel") (C := RX8) (T := TX8) (N := 44) (ci := 8) K in_X8_lay_X8 tyX8 tyX8_ok nmX8 hw 0 rfl (by decide : 0 < 1) rfl rfl 40 (by decide) (List.mem_of_getElem? (i := 4) rfl) rfl rfl (by decide +kernel) rfl rfl (Nat.le_of_ble_eq_true rfl) dX8_lay_94 (eM_40 cy ad S111 ((S111.1 40 0) + 1)) (fun H locs hw => ?_)
        obtain ⟨S112, hS112, hm⟩ := nm_ex hm
        rw [← hS112] at hw
        refine lv_goto (tgt := 216) hx hb dX8_lay_97 (by decide) ?_
        exact t_X8_lay_J216 K n S112 hm H locs hw ls (lv_sub hl [1] rfl)
      · replace hm := (if_neg c105).symm.trans hm
        refine lv_iconst (v := 0) hx hb dX8_lay_37 (by decide) ?_
        exact g_zret (GG := GM cy ad) K hw rfl (Option.some.inj hm).symm dX8_lay_38
set_option maxRecDepth 100000 in
set_option maxHeartbeats 4000000 in
theorem c_X8_lay (l : Launch) (D : va_G) (cy : Nat → ClassId) (ad : Nat → Nat → Nat) (sz n : Nat) (S : MSt) (x1 : Int32)  {out : Int32 × MSt} (hm : m_X8_lay n S x1 = some out) : Met l yX8_lay wsX8_lay rm_X8_lay (va_Pc [.ref (ad 0 0), .int x1] (Pre D (tysC cy) (GM cy ad S) (fun _ _ => True) sz)) (va_Qi (fun r (u : MSt) => out = (r, u)) (fun u => Pst D (tysC cy) (AA (adrs (GM cy ad S)) sz) (GM cy ad u)) (AA (adrs (GM cy ad S)) sz)) 0 0 (AA (adrs (GM cy ad S)) sz) := by
  refine g_met (by decide) rfl (Nat.le_of_ble_eq_true rfl) ?_
  intro p e s m args below meth c K hw ls hl
  exact t_X8_lay_0 (cy := cy) K n S x1  hm _ _ hw ls hl
end W_X8_lay
section W_X8_fits
variable {p : Program} {l : Launch} {e : Env} {s : State} {m : MethodId} {args : Array Value} {below : List Frame} {meth : Method} {c : Code} {D : va_G} {A : Nat → Prop} {cy : Nat → ClassId} {ad : Nat → Nat → Nat} {Q : State → Prop}
abbrev rm_X8_fits : Room := { frames := 4, cells := 0, slots := 0, locals := 106 }
theorem in_X8_fits_X8 : ∀ w ∈ u_ws RX8 TX8 44, w ∈ wsX8_fits := by decide +kernel
set_option maxRecDepth 100000 in
set_option maxHeartbeats 4000000 in
theorem t_X8_fits_L8 (K : Cx p s m args meth c D A (tysC cy) RX8 cX8_fits 5 (some .boolean) wsX8_fits (fun _ _ => True)) (n : Nat) (x1 : Int32) (x2 : Int32) (x3 : Int32)  (z : (MSt ⊕ MSt)) (hE0 : ∀ w : MSt, z = .inl w → ∀ (H : Heap) (locs : List Loc), Wd D A s.heap (GM cy ad w) H locs → ∀ ls : Array Slot, lv_has ls 5 [] → W p l e rm_X8_fits s m args below meth c H locs 0 0 Q (F0 m 38 ls [])) (hE1 : ∀ w : MSt, z = .inr w → ∀ (H : Heap) (locs : List Loc), Wd D A s.heap (GM cy ad w) H locs → ∀ ls : Array Slot, lv_has ls 5 [(0, .ref (ad 0 0)), (2, .int x2), (3, .int x3)] → W p l e rm_X8_fits s m args below meth c H locs 0 0 Q (F0 m 46 ls [])) : ∀ (x : (MSt × Int32)), lpO (b_X8_fits_8 n x1 x2 x3) n x = some z → (fun (x : (MSt × Int32)) => ∀ (H : Heap) (locs : List Loc), Wd D A s.heap (GM cy ad x.1) H locs → ∀ ls : Array Slot, lv_has ls 5 [(0, .ref (ad 0 0)), (1, .int x1), (2, .int x2), (3, .int x3), (4, .int x.2)] → W p l e rm_X8_fits s m args below meth c H locs 0 0 Q (F0 m 8 ls [])) x := by
  intro x hx0
  refine lpO_ind2 (P := fun (x : (MSt × Int32)) => ∀ (H : Heap) (locs : List Loc), Wd D A s.heap (GM cy ad x.1) H locs → ∀ ls : Array Slot, lv_has ls 5 [(0, .ref (ad 0 0)), (1, .int x1), (2, .int x2), (3, .int x3), (4, .int x.2)] → W p l e rm_X8_fits s m args below meth c H locs 0 0 Q (F0 m 8 ls [])) (z := z) ?_ n x hx0
  clear hx0 x
  intro x out hm hg H locs hw ls hl 
  obtain ⟨hx, hb, hml, hown, hts, hr, hlo, hK, hA, hX⟩ := id K
  unfold b_X8_fits_8 at hm
  refine lv_iload hx hb dX8_fits_8 (lv_at hl 4 rfl) ?_
  refine lv_aload_n hx hb dX8_fits_10 rfl (lv_at hl 0 rfl) ?_
  refine g_get (ref := "MigrantHeapModel") (C := RX8) (T := TX8) (N := 44) (ci := 8) K in_X8_fits_X8 hw 0 rfl (by decide : 0 < 1) rfl rfl 24 (by decide) (List.mem_of_getElem? (i := 2) rfl) rfl rfl dX8_fits_11 ?_
  refine lv_iload_n hx hb dX8_fits_14 rfl (lv_at hl 1 rfl) ?_
  obtain ⟨h25, hm⟩ := chkS hm
  refine g_iald K hw 21 0 rfl (by decide) rfl rfl h25 dX8_fits_15 ?_
  refine lv_icmp_ge (tgt := 46) hx hb dX8_fits_16 (by decide) (fun c26 => ?_) (fun c26 => ?_)
  · replace hm := (if_pos c26).symm.trans hm
    obtain rfl := Option.some.inj hm
    exact hE1 _ hg.symm H locs hw ls (lv_sub hl [0, 2, 3] rfl)
  · replace hm := (if_neg c26).symm.trans hm
    refine lv_aload_n hx hb dX8_fits_19 rfl (lv_at hl 0 rfl) ?_
    refine lv_aload_n hx hb dX8_fits_20 rfl (lv_at hl 0 rfl) ?_
    refine g_get (ref := "MigrantHeapModel") (C := RX8) (T := TX8) (N := 44) (ci := 8) K in_X8_fits_X8 hw 0 rfl (by decide : 0 < 1) rfl rfl 25 (by decide) (List.mem_of_getElem? (i := 3) rfl) rfl rfl dX8_fits_21 ?_
    refine lv_bipush (v := 12) hx hb dX8_fits_24 (by decide) ?_
    refine lv_iload_n hx hb dX8_fits_26 rfl (lv_at hl 1 rfl) ?_
    refine lv_imul hx hb dX8_fits_27 ?_
    refine lv_iload hx hb dX8_fits_28 (lv_at hl 4 rfl) ?_
    refine lv_iadd hx hb dX8_fits_30 ?_
    obtain ⟨h27, hm⟩ := chkS hm
    refine g_iald K hw 22 0 rfl (by decide) rfl rfl h27 dX8_fits_31 ?_
    obtain ⟨z29, hc28, hm⟩ := bindS hm
    refine g_calli (GG := GM cy ad) K hw (va_runV (As := [.int (x.1.1 25 ((12 * x1) + x.2).toNatClampNeg)]) (rest := []) (g_fix K) (c_X8_lay l D cy ad H.size n x.1 (x.1.1 25 ((12 * x1) + x.2).toNatClampNeg)  hc28) (cwV 1 (g_hts K) gX8_fits_X8_lay rfl rfl rfl (by decide +kernel) ⟨Nat.le_of_ble_eq_true rfl, Nat.le_of_ble_eq_true rfl⟩) ⟨g_blind rides_none, g_recv K hw 0 rfl (by decide : 0 < 1) rfl rfl, g_pre (X2 := fun _ _ => True) K hw (fun _ _ _ => trivial)⟩ rfl rfl hl.1 rfl (lv_room (Nat.le_of_ble_eq_true rfl)) dX8_fits_32 ⟨Nat.le_of_ble_eq_true rfl, Nat.le_of_ble_eq_true rfl⟩) (fun r u H locs hp hw => ?_)
    obtain ⟨rfl, rfl⟩ : r = z29.1 ∧ u = z29.2 := by rw [hp]; exact ⟨rfl, rfl⟩
    refine lv_if_ne (tgt := 40) hx hb dX8_fits_35 (by decide) (fun c30 => ?_) (fun c30 => ?_)
    · replace hm := (if_pos c30).symm.trans hm
      obtain ⟨x31, hx31, hm⟩ := nm_ex hm
      refine lv_iinc (v := x31) (lv' := [(4, .int x31), (0, .ref (ad 0 0)), (1, .int x1), (2, .int x2), (3, .int x3)]) hx hb dX8_fits_40 hl (k := 4) rfl (by rw [hx31]; rfl) (by decide) rfl (fun ls hl => ?_)
      refine lv_goto (tgt := 8) hx hb dX8_fits_43 (by decide) ?_
      obtain rfl := Option.some.inj hm
      exact hg H locs hw ls (lv_sub hl [1, 2, 3, 4, 0] rfl)
    · replace hm := (if_neg (fun h => h c30)).symm.trans hm
      obtain rfl := Option.some.inj hm
      exact hE0 _ hg.symm H locs hw ls (lv_sub hl [] rfl)
set_option maxRecDepth 100000 in
set_option maxHeartbeats 4000000 in
theorem t_X8_fits_0 (K : Cx p s m args meth c D A (tysC cy) RX8 cX8_fits 5 (some .boolean) wsX8_fits (fun _ _ => True)) (n : Nat) (S : MSt) (x1 : Int32) (x2 : Int32) (x3 : Int32)  {out : Int32 × MSt} (hm : m_X8_fits n S x1 x2 x3 = some out) : ∀ (H : Heap) (locs : List Loc), Wd D A s.heap (GM cy ad S) H locs → ∀ ls : Array Slot, lv_has ls 5 [(0, .ref (ad 0 0)), (1, .int x1), (2, .int x2), (3, .int x3)] → W p l e rm_X8_fits s m args below meth c H locs 0 0 (MQ below (va_Qi (fun r (u : MSt) => out = (r, u)) (fun u => Pst D (tysC cy) A (GM cy ad u)) A) args s 0 0 A) (F0 m 0 ls []) := by
  intro H locs hw ls hl
  obtain ⟨hx, hb, hml, hown, hts, hr, hlo, hK, hA, hX⟩ := id K
  unfold m_X8_fits at hm
  refine lv_aload_n hx hb dX8_fits_0 rfl (lv_at hl 0 rfl) ?_
  refine lv_iconst (v := 0) hx hb dX8_fits_1 (by decide) ?_
  refine g_put (v := .int 0) (ty := .int) (ref := "MigrantHeapModel") (C := RX8) (T := TX8) (N := 44) (ci := 8) K in_X8_fits_X8 tyX8 tyX8_ok nmX8 hw 0 rfl (by decide : 0 < 1) rfl rfl 40 (by decide) (List.mem_of_getElem? (i := 1) rfl) rfl rfl (by decide +kernel) rfl rfl (Nat.le_of_ble_eq_true rfl) dX8_fits_2 (eM_40 cy ad S 0) (fun H locs hw => ?_)
  obtain ⟨S32, hS32, hm⟩ := nm_ex hm
  rw [← hS32] at hw
  refine lv_iconst (v := 0) hx hb dX8_fits_5 (by decide) ?_
  refine lv_istore (lv' := [(4, .int 0), (0, .ref (ad 0 0)), (1, .int x1), (2, .int x2), (3, .int x3)]) hx hb dX8_fits_6 hl (by decide) rfl (fun ls hl => ?_)
  obtain ⟨z33, hz34, hm⟩ := bindS hm
  refine t_X8_fits_L8 K n x1 x2 x3 z33 (fun w35 hww35 => ?_) (fun w36 hww36 => ?_) ((S32, 0)) hz34 H locs hw ls (lv_sub hl [1, 2, 3, 4, 0] rfl)
  · intro H locs hw ls hl 
    subst hww35
    replace hm := (sumL _ _ _).symm.trans hm
    refine lv_iconst (v := 0) hx hb dX8_fits_38 (by decide) ?_
    exact g_zret (GG := GM cy ad) K hw rfl (Option.some.inj hm).symm dX8_fits_39
  · intro H locs hw ls hl 
    subst hww36
    replace hm := (sumR _ _ _).symm.trans hm
    refine lv_aload_n hx hb dX8_fits_46 rfl (lv_at hl 0 rfl) ?_
    refine g_get (ref := "MigrantHeapModel") (C := RX8) (T := TX8) (N := 44) (ci := 8) K in_X8_fits_X8 hw 0 rfl (by decide : 0 < 1) rfl rfl 41 (by decide) (List.mem_of_getElem? (i := 4) rfl) rfl rfl dX8_fits_47 ?_
    refine lv_iconst (v := 0) hx hb dX8_fits_50 (by decide) ?_
    obtain ⟨h37, hm⟩ := chkS hm
    refine g_lald K hw 32 1 rfl (by decide) rfl rfl h37 dX8_fits_51 ?_
    refine lv_iload_n hx hb dX8_fits_52 rfl (lv_at hl 1 rfl) ?_
    refine lv_i2l hx hb dX8_fits_53 rfl ?_
    refine W.lcmp hx hb dX8_fits_54 ?_
    refine lv_if_lt (tgt := 74) hx hb dX8_fits_55 (by decide) (fun c38 => ?_) (fun c38 => ?_)
    · replace hm := (if_pos c38).symm.trans hm
      refine lv_iconst (v := 0) hx hb dX8_fits_74 (by decide) ?_
      exact g_zret (GG := GM cy ad) K hw rfl (Option.some.inj hm).symm dX8_fits_75
    · replace hm := (if_neg c38).symm.trans hm
      refine lv_aload_n hx hb dX8_fits_58 rfl (lv_at hl 0 rfl) ?_
      refine g_get (ref := "MigrantHeapModel") (C := RX8) (T := TX8) (N := 44) (ci := 8) K in_X8_fits_X8 hw 0 rfl (by decide : 0 < 1) rfl rfl 42 (by decide) (List.mem_of_getElem? (i := 5) rfl) rfl rfl dX8_fits_59 ?_
      refine lv_iconst (v := 0) hx hb dX8_fits_62 (by decide) ?_
      obtain ⟨h39, hm⟩ := chkS hm
      refine g_lald K hw 33 1 rfl (by decide) rfl rfl h39 dX8_fits_63 ?_
      refine lv_iload_n hx hb dX8_fits_64 rfl (lv_at hl 2 rfl) ?_
      refine lv_i2l hx hb dX8_fits_65 rfl ?_
      refine W.lcmp hx hb dX8_fits_66 ?_
      refine lv_if_gt (tgt := 74) hx hb dX8_fits_67 (by decide) (fun c40 => ?_) (fun c40 => ?_)
      · replace hm := (if_pos c40).symm.trans hm
        refine lv_iconst (v := 0) hx hb dX8_fits_74 (by decide) ?_
        exact g_zret (GG := GM cy ad) K hw rfl (Option.some.inj hm).symm dX8_fits_75
      · replace hm := (if_neg c40).symm.trans hm
        refine lv_iconst (v := 1) hx hb dX8_fits_70 (by decide) ?_
        refine lv_goto (tgt := 75) hx hb dX8_fits_71 (by decide) ?_
        exact g_zret (GG := GM cy ad) K hw rfl (Option.some.inj hm).symm dX8_fits_75
set_option maxRecDepth 100000 in
set_option maxHeartbeats 4000000 in
theorem c_X8_fits (l : Launch) (D : va_G) (cy : Nat → ClassId) (ad : Nat → Nat → Nat) (sz n : Nat) (S : MSt) (x1 : Int32) (x2 : Int32) (x3 : Int32)  {out : Int32 × MSt} (hm : m_X8_fits n S x1 x2 x3 = some out) : Met l yX8_fits wsX8_fits rm_X8_fits (va_Pc [.ref (ad 0 0), .int x1, .int x2, .int x3] (Pre D (tysC cy) (GM cy ad S) (fun _ _ => True) sz)) (va_Qi (fun r (u : MSt) => out = (r, u)) (fun u => Pst D (tysC cy) (AA (adrs (GM cy ad S)) sz) (GM cy ad u)) (AA (adrs (GM cy ad S)) sz)) 0 0 (AA (adrs (GM cy ad S)) sz) := by
  refine g_met (by decide) rfl (Nat.le_of_ble_eq_true rfl) ?_
  intro p e s m args below meth c K hw ls hl
  exact t_X8_fits_0 (cy := cy) K n S x1 x2 x3  hm _ _ hw ls hl
end W_X8_fits
section W_X8_value
variable {p : Program} {l : Launch} {e : Env} {s : State} {m : MethodId} {args : Array Value} {below : List Frame} {meth : Method} {c : Code} {D : va_G} {A : Nat → Prop} {cy : Nat → ClassId} {ad : Nat → Nat → Nat} {Q : State → Prop}
abbrev rm_X8_value : Room := { frames := 1, cells := 0, slots := 0, locals := 24 }
theorem in_X8_value_X8 : ∀ w ∈ u_ws RX8 TX8 44, w ∈ wsX8_value := by decide +kernel
set_option maxRecDepth 100000 in
set_option maxHeartbeats 4000000 in
theorem t_X8_value_J90 (K : Cx p s m args meth c D A (tysC cy) RX8 cX8_value 5 (some .int) wsX8_value (fun _ _ => True)) (n : Nat) (S : MSt) (x1 : Int32) (x2 : Int32) (x3 : Int32) (y1 : Int32) (y2 : Int64) {out : (MSt × Int32) ⊕ MSt} {z : MSt} (hm : m_X8_value_J90 n S x1 x2 x3 y1 y2 = some out) (hg : Gd (fun (x : (MSt × Int32)) => ∀ (H : Heap) (locs : List Loc), Wd D A s.heap (GM cy ad x.1) H locs → ∀ ls : Array Slot, lv_has ls 5 [(0, .ref (ad 0 0)), (1, .int x1), (2, .int x2), (3, .int x.2)] → W p l e rm_X8_value s m args below meth c H locs 0 0 Q (F0 m 7 ls [])) z out) (hE0 : ∀ w : MSt, z = w → ∀ (H : Heap) (locs : List Loc), Wd D A s.heap (GM cy ad w) H locs → ∀ ls : Array Slot, lv_has ls 5 [(0, .ref (ad 0 0))] → W p l e rm_X8_value s m args below meth c H locs 0 0 Q (F0 m 189 ls [])) : ∀ (H : Heap) (locs : List Loc), Wd D A s.heap (GM cy ad S) H locs → ∀ ls : Array Slot, lv_has ls 5 [(0, .ref (ad 0 0)), (1, .int x1), (2, .int x2), (3, .int x3)] → W p l e rm_X8_value s m args below meth c H locs 0 0 Q (F0 m 90 ls [.long y2, .int y1, .ref (ad 32 0)]) := by
  intro H locs hw ls hl 
  obtain ⟨hx, hb, hml, hown, hts, hr, hlo, hK, hA, hX⟩ := id K
  unfold m_X8_value_J90 at hm
  obtain ⟨h72, hm⟩ := chkS hm
  refine g_last K hw 32 1 rfl (by decide) rfl rfl h72 dX8_value_90 (eM_41 cy ad S y1.toNatClampNeg y2) (fun H locs hw => ?_)
  obtain ⟨S73, hS73, hm⟩ := nm_ex hm
  rw [← hS73] at hw
  refine lv_aload_n hx hb dX8_value_91 rfl (lv_at hl 0 rfl) ?_
  refine lv_dup hx hb dX8_value_92 rfl ?_
  refine g_get (ref := "MigrantHeapModel") (C := RX8) (T := TX8) (N := 44) (ci := 8) K in_X8_value_X8 hw 0 rfl (by decide : 0 < 1) rfl rfl 40 (by decide) (List.mem_of_getElem? (i := 1) rfl) rfl rfl dX8_value_93 ?_
  refine lv_iconst (v := 1) hx hb dX8_value_96 (by decide) ?_
  refine lv_iadd hx hb dX8_value_97 ?_
  refine g_put (v := .int ((S73.1 40 0) + 1)) (ty := .int) (ref := "MigrantHeapModel") (C := RX8) (T := TX8) (N := 44) (ci := 8) K in_X8_value_X8 tyX8 tyX8_ok nmX8 hw 0 rfl (by decide : 0 < 1) rfl rfl 40 (by decide) (List.mem_of_getElem? (i := 1) rfl) rfl rfl (by decide +kernel) rfl rfl (Nat.le_of_ble_eq_true rfl) dX8_value_98 (eM_40 cy ad S73 ((S73.1 40 0) + 1)) (fun H locs hw => ?_)
  obtain ⟨S74, hS74, hm⟩ := nm_ex hm
  rw [← hS74] at hw
  refine lv_goto (tgt := 183) hx hb dX8_value_101 (by decide) ?_
  obtain ⟨x75, hx75, hm⟩ := nm_ex hm
  refine lv_iinc (v := x75) (lv' := [(3, .int x75), (0, .ref (ad 0 0)), (1, .int x1), (2, .int x2)]) hx hb dX8_value_183 hl (k := 3) rfl (by rw [hx75]; rfl) (by decide) rfl (fun ls hl => ?_)
  refine lv_goto (tgt := 7) hx hb dX8_value_186 (by decide) ?_
  obtain rfl := Option.some.inj hm
  exact hg H locs hw ls (lv_sub hl [1, 2, 3, 0] rfl)
set_option maxRecDepth 100000 in
set_option maxHeartbeats 4000000 in
theorem t_X8_value_J44 (K : Cx p s m args meth c D A (tysC cy) RX8 cX8_value 5 (some .int) wsX8_value (fun _ _ => True)) (n : Nat) (S : MSt) (x1 : Int32) (x2 : Int32) (x3 : Int32) (x4 : Int32) {out : (MSt × Int32) ⊕ MSt} {z : MSt} (hm : m_X8_value_J44 n S x1 x2 x3 x4 = some out) (hg : Gd (fun (x : (MSt × Int32)) => ∀ (H : Heap) (locs : List Loc), Wd D A s.heap (GM cy ad x.1) H locs → ∀ ls : Array Slot, lv_has ls 5 [(0, .ref (ad 0 0)), (1, .int x1), (2, .int x2), (3, .int x.2)] → W p l e rm_X8_value s m args below meth c H locs 0 0 Q (F0 m 7 ls [])) z out) (hE0 : ∀ w : MSt, z = w → ∀ (H : Heap) (locs : List Loc), Wd D A s.heap (GM cy ad w) H locs → ∀ ls : Array Slot, lv_has ls 5 [(0, .ref (ad 0 0))] → W p l e rm_X8_value s m args below meth c H locs 0 0 Q (F0 m 189 ls [])) : ∀ (H : Heap) (locs : List Loc), Wd D A s.heap (GM cy ad S) H locs → ∀ ls : Array Slot, lv_has ls 5 [(0, .ref (ad 0 0)), (1, .int x1), (2, .int x2), (3, .int x3), (4, .int x4)] → W p l e rm_X8_value s m args below meth c H locs 0 0 Q (F0 m 44 ls []) := by
  intro H locs hw ls hl 
  obtain ⟨hx, hb, hml, hown, hts, hr, hlo, hK, hA, hX⟩ := id K
  unfold m_X8_value_J44 at hm
  refine lv_aload_n hx hb dX8_value_44 rfl (lv_at hl 0 rfl) ?_
  refine g_get (ref := "MigrantHeapModel") (C := RX8) (T := TX8) (N := 44) (ci := 8) K in_X8_value_X8 hw 0 rfl (by decide : 0 < 1) rfl rfl 41 (by decide) (List.mem_of_getElem? (i := 4) rfl) rfl rfl dX8_value_45 ?_
  refine lv_aload_n hx hb dX8_value_48 rfl (lv_at hl 0 rfl) ?_
  refine g_get (ref := "MigrantHeapModel") (C := RX8) (T := TX8) (N := 44) (ci := 8) K in_X8_value_X8 hw 0 rfl (by decide : 0 < 1) rfl rfl 40 (by decide) (List.mem_of_getElem? (i := 1) rfl) rfl rfl dX8_value_49 ?_
  refine lv_iload hx hb dX8_value_52 (lv_at hl 4 rfl) ?_
  refine lv_bipush (v := 10) hx hb dX8_value_54 (by decide) ?_
  refine lv_icmp_ge (tgt := 83) hx hb dX8_value_56 (by decide) (fun c76 => ?_) (fun c76 => ?_)
  · replace hm := (if_pos c76).symm.trans hm
    refine lv_iload hx hb dX8_value_83 (lv_at hl 4 rfl) ?_
    refine lv_sipush (v := 200) hx hb dX8_value_85 (by decide) ?_
    refine lv_isub hx hb dX8_value_88 ?_
    refine lv_i2l hx hb dX8_value_89 rfl ?_
    exact t_X8_value_J90 K n S x1 x2 x3 (S.1 40 0) ((x4 - 200).toInt64) hm hg hE0 H locs hw ls (lv_sub hl [0, 1, 2, 3] rfl)
  · replace hm := (if_neg c76).symm.trans hm
    refine lv_aload_n hx hb dX8_value_59 rfl (lv_at hl 0 rfl) ?_
    refine g_get (ref := "MigrantHeapModel") (C := RX8) (T := TX8) (N := 44) (ci := 8) K in_X8_value_X8 hw 0 rfl (by decide : 0 < 1) rfl rfl 16 (by decide) (List.mem_of_getElem? (i := 5) rfl) rfl rfl dX8_value_60 ?_
    refine lv_bipush (v := 6) hx hb dX8_value_63 (by decide) ?_
    refine lv_iload_n hx hb dX8_value_65 rfl (lv_at hl 2 rfl) ?_
    refine lv_imul hx hb dX8_value_66 ?_
    refine lv_aload_n hx hb dX8_value_67 rfl (lv_at hl 0 rfl) ?_
    refine lv_aload_n hx hb dX8_value_68 rfl (lv_at hl 0 rfl) ?_
    refine g_get (ref := "MigrantHeapModel") (C := RX8) (T := TX8) (N := 44) (ci := 8) K in_X8_value_X8 hw 0 rfl (by decide : 0 < 1) rfl rfl 27 (by decide) (List.mem_of_getElem? (i := 6) rfl) rfl rfl dX8_value_69 ?_
    refine lv_iload hx hb dX8_value_72 (lv_at hl 4 rfl) ?_
    obtain ⟨z78, hc77, hm⟩ := bindS hm
    refine g_calli (GG := GM cy ad) K hw (va_runV (As := [.int (S.1 27 0), .int x4]) (rest := [.int (6 * x2), .ref (ad 15 0), .int (S.1 40 0), .ref (ad 32 0)]) (g_fix K) (c_X8_find l D cy ad H.size n S (S.1 27 0) x4  hc77) (cwV 2 (g_hts K) gX8_value_X8_find rfl rfl rfl (by decide +kernel) ⟨Nat.le_of_ble_eq_true rfl, Nat.le_of_ble_eq_true rfl⟩) ⟨g_blind rides_none, g_recv K hw 0 rfl (by decide : 0 < 1) rfl rfl, g_pre (X2 := fun _ _ => True) K hw (fun _ _ _ => trivial)⟩ rfl rfl hl.1 rfl (lv_room (Nat.le_of_ble_eq_true rfl)) dX8_value_74 ⟨Nat.le_of_ble_eq_true rfl, Nat.le_of_ble_eq_true rfl⟩) (fun r u H locs hp hw => ?_)
    obtain ⟨rfl, hu⟩ := hp
    rw [hu] at hw
    refine lv_iadd hx hb dX8_value_77 ?_
    obtain ⟨h79, hm⟩ := chkS hm
    refine g_iald K hw 15 0 rfl (by decide) rfl rfl h79 dX8_value_78 ?_
    refine lv_i2l hx hb dX8_value_79 rfl ?_
    refine lv_goto (tgt := 90) hx hb dX8_value_80 (by decide) ?_
    exact t_X8_value_J90 K n S x1 x2 x3 (S.1 40 0) ((S.1 16 ((6 * x2) + z78).toNatClampNeg).toInt64) hm hg hE0 H locs hw ls (lv_sub hl [0, 1, 2, 3] rfl)
set_option maxRecDepth 100000 in
set_option maxHeartbeats 4000000 in
theorem t_X8_value_L7 (K : Cx p s m args meth c D A (tysC cy) RX8 cX8_value 5 (some .int) wsX8_value (fun _ _ => True)) (n : Nat) (x1 : Int32) (x2 : Int32)  (z : MSt) (hE0 : ∀ w : MSt, z = w → ∀ (H : Heap) (locs : List Loc), Wd D A s.heap (GM cy ad w) H locs → ∀ ls : Array Slot, lv_has ls 5 [(0, .ref (ad 0 0))] → W p l e rm_X8_value s m args below meth c H locs 0 0 Q (F0 m 189 ls [])) : ∀ (x : (MSt × Int32)), lpO (b_X8_value_7 n x1 x2) n x = some z → (fun (x : (MSt × Int32)) => ∀ (H : Heap) (locs : List Loc), Wd D A s.heap (GM cy ad x.1) H locs → ∀ ls : Array Slot, lv_has ls 5 [(0, .ref (ad 0 0)), (1, .int x1), (2, .int x2), (3, .int x.2)] → W p l e rm_X8_value s m args below meth c H locs 0 0 Q (F0 m 7 ls [])) x := by
  intro x hx0
  refine lpO_ind2 (P := fun (x : (MSt × Int32)) => ∀ (H : Heap) (locs : List Loc), Wd D A s.heap (GM cy ad x.1) H locs → ∀ ls : Array Slot, lv_has ls 5 [(0, .ref (ad 0 0)), (1, .int x1), (2, .int x2), (3, .int x.2)] → W p l e rm_X8_value s m args below meth c H locs 0 0 Q (F0 m 7 ls [])) (z := z) ?_ n x hx0
  clear hx0 x
  intro x out hm hg H locs hw ls hl 
  obtain ⟨hx, hb, hml, hown, hts, hr, hlo, hK, hA, hX⟩ := id K
  unfold b_X8_value_7 at hm
  refine lv_iload_n hx hb dX8_value_7 rfl (lv_at hl 3 rfl) ?_
  refine lv_aload_n hx hb dX8_value_8 rfl (lv_at hl 0 rfl) ?_
  refine g_get (ref := "MigrantHeapModel") (C := RX8) (T := TX8) (N := 44) (ci := 8) K in_X8_value_X8 hw 0 rfl (by decide : 0 < 1) rfl rfl 24 (by decide) (List.mem_of_getElem? (i := 2) rfl) rfl rfl dX8_value_9 ?_
  refine lv_iload_n hx hb dX8_value_12 rfl (lv_at hl 1 rfl) ?_
  obtain ⟨h80, hm⟩ := chkS hm
  refine g_iald K hw 21 0 rfl (by decide) rfl rfl h80 dX8_value_13 ?_
  refine lv_icmp_ge (tgt := 189) hx hb dX8_value_14 (by decide) (fun c81 => ?_) (fun c81 => ?_)
  · replace hm := (if_pos c81).symm.trans hm
    obtain rfl := Option.some.inj hm
    exact hE0 _ hg.symm H locs hw ls (lv_sub hl [0] rfl)
  · replace hm := (if_neg c81).symm.trans hm
    refine lv_aload_n hx hb dX8_value_17 rfl (lv_at hl 0 rfl) ?_
    refine g_get (ref := "MigrantHeapModel") (C := RX8) (T := TX8) (N := 44) (ci := 8) K in_X8_value_X8 hw 0 rfl (by decide : 0 < 1) rfl rfl 25 (by decide) (List.mem_of_getElem? (i := 3) rfl) rfl rfl dX8_value_18 ?_
    refine lv_bipush (v := 12) hx hb dX8_value_21 (by decide) ?_
    refine lv_iload_n hx hb dX8_value_23 rfl (lv_at hl 1 rfl) ?_
    refine lv_imul hx hb dX8_value_24 ?_
    refine lv_iload_n hx hb dX8_value_25 rfl (lv_at hl 3 rfl) ?_
    refine lv_iadd hx hb dX8_value_26 ?_
    obtain ⟨h82, hm⟩ := chkS hm
    refine g_iald K hw 22 0 rfl (by decide) rfl rfl h82 dX8_value_27 ?_
    obtain ⟨x83, hx83, hm⟩ := nm_ex hm
    refine W.eq (g2 := F0 m 28 ls (.int x83 :: [])) (by rw [hx83]) ?_
    refine lv_istore (lv' := [(4, .int x83), (0, .ref (ad 0 0)), (1, .int x1), (2, .int x2), (3, .int x.2)]) hx hb dX8_value_28 hl (by decide) rfl (fun ls hl => ?_)
    refine lv_iload hx hb dX8_value_30 (lv_at hl 0 rfl) ?_
    refine lv_bipush (v := 10) hx hb dX8_value_32 (by decide) ?_
    refine lv_icmp_lt (tgt := 44) hx hb dX8_value_34 (by decide) (fun c84 => ?_) (fun c84 => ?_)
    · replace hm := (if_pos c84).symm.trans hm
      exact t_X8_value_J44 K n x.1 x1 x2 x.2 x83 hm hg hE0 H locs hw ls (lv_sub hl [1, 2, 3, 4, 0] rfl)
    · replace hm := (if_neg c84).symm.trans hm
      refine lv_iload hx hb dX8_value_37 (lv_at hl 0 rfl) ?_
      refine lv_bipush (v := 100) hx hb dX8_value_39 (by decide) ?_
      refine lv_icmp_lt (tgt := 104) hx hb dX8_value_41 (by decide) (fun c85 => ?_) (fun c85 => ?_)
      · replace hm := (if_pos c85).symm.trans hm
        refine lv_iload hx hb dX8_value_104 (lv_at hl 0 rfl) ?_
        refine lv_bipush (v := 16) hx hb dX8_value_106 (by decide) ?_
        refine lv_icmp_ne (tgt := 137) hx hb dX8_value_108 (by decide) (fun c86 => ?_) (fun c86 => ?_)
        · replace hm := (if_pos c86).symm.trans hm
          refine lv_aload_n hx hb dX8_value_137 rfl (lv_at hl 1 rfl) ?_
          refine lv_dup hx hb dX8_value_138 rfl ?_
          refine g_get (ref := "MigrantHeapModel") (C := RX8) (T := TX8) (N := 44) (ci := 8) K in_X8_value_X8 hw 0 rfl (by decide : 0 < 1) rfl rfl 40 (by decide) (List.mem_of_getElem? (i := 1) rfl) rfl rfl dX8_value_139 ?_
          refine lv_iconst (v := 1) hx hb dX8_value_142 (by decide) ?_
          refine lv_isub hx hb dX8_value_143 ?_
          refine g_put (v := .int ((x.1.1 40 0) - 1)) (ty := .int) (ref := "MigrantHeapModel") (C := RX8) (T := TX8) (N := 44) (ci := 8) K in_X8_value_X8 tyX8 tyX8_ok nmX8 hw 0 rfl (by decide : 0 < 1) rfl rfl 40 (by decide) (List.mem_of_getElem? (i := 1) rfl) rfl rfl (by decide +kernel) rfl rfl (Nat.le_of_ble_eq_true rfl) dX8_value_144 (eM_40 cy ad x.1 ((x.1.1 40 0) - 1)) (fun H locs hw => ?_)
          obtain ⟨S87, hS87, hm⟩ := nm_ex hm
          rw [← hS87] at hw
          refine lv_aload_n hx hb dX8_value_147 rfl (lv_at hl 1 rfl) ?_
          refine g_get (ref := "MigrantHeapModel") (C := RX8) (T := TX8) (N := 44) (ci := 8) K in_X8_value_X8 hw 0 rfl (by decide : 0 < 1) rfl rfl 41 (by decide) (List.mem_of_getElem? (i := 4) rfl) rfl rfl dX8_value_148 ?_
          refine lv_aload_n hx hb dX8_value_151 rfl (lv_at hl 1 rfl) ?_
          refine g_get (ref := "MigrantHeapModel") (C := RX8) (T := TX8) (N := 44) (ci := 8) K in_X8_value_X8 hw 0 rfl (by decide : 0 < 1) rfl rfl 40 (by decide) (List.mem_of_getElem? (i := 1) rfl) rfl rfl dX8_value_152 ?_
          refine lv_iconst (v := 1) hx hb dX8_value_155 (by decide) ?_
          refine lv_isub hx hb dX8_value_156 ?_
          refine lv_iload hx hb dX8_value_157 (lv_at hl 0 rfl) ?_
          refine lv_aload_n hx hb dX8_value_159 rfl (lv_at hl 1 rfl) ?_
          refine g_get (ref := "MigrantHeapModel") (C := RX8) (T := TX8) (N := 44) (ci := 8) K in_X8_value_X8 hw 0 rfl (by decide : 0 < 1) rfl rfl 41 (by decide) (List.mem_of_getElem? (i := 4) rfl) rfl rfl dX8_value_160 ?_
          refine lv_aload_n hx hb dX8_value_163 rfl (lv_at hl 1 rfl) ?_
          refine g_get (ref := "MigrantHeapModel") (C := RX8) (T := TX8) (N := 44) (ci := 8) K in_X8_value_X8 hw 0 rfl (by decide : 0 < 1) rfl rfl 40 (by decide) (List.mem_of_getElem? (i := 1) rfl) rfl rfl dX8_value_164 ?_
          refine lv_iconst (v := 1) hx hb dX8_value_167 (by decide) ?_
          refine lv_isub hx hb dX8_value_168 ?_
          obtain ⟨h88, hm⟩ := chkS hm
          refine g_lald K hw 32 1 rfl (by decide) rfl rfl h88 dX8_value_169 ?_
          refine lv_aload_n hx hb dX8_value_170 rfl (lv_at hl 1 rfl) ?_
          refine g_get (ref := "MigrantHeapModel") (C := RX8) (T := TX8) (N := 44) (ci := 8) K in_X8_value_X8 hw 0 rfl (by decide : 0 < 1) rfl rfl 41 (by decide) (List.mem_of_getElem? (i := 4) rfl) rfl rfl dX8_value_171 ?_
          refine lv_aload_n hx hb dX8_value_174 rfl (lv_at hl 1 rfl) ?_
          refine g_get (ref := "MigrantHeapModel") (C := RX8) (T := TX8) (N := 44) (ci := 8) K in_X8_value_X8 hw 0 rfl (by decide : 0 < 1) rfl rfl 40 (by decide) (List.mem_of_getElem? (i := 1) rfl) rfl rfl dX8_value_175 ?_
          obtain ⟨h89, hm⟩ := chkS hm
          refine g_lald K hw 32 1 rfl (by decide) rfl rfl h89 dX8_value_178 ?_
          obtain ⟨z91, hc90, hm⟩ := bindS hm
          refine g_calll (GG := GM cy ad) K hw (va_runS (As := [.int x83, .long (S87.2 41 ((S87.1 40 0) - 1).toNatClampNeg), .long (S87.2 41 (S87.1 40 0).toNatClampNeg)]) (rest := [.int ((S87.1 40 0) - 1), .ref (ad 32 0)]) (g_fix K) (c_X8_reckon l D cy ad H.size n S87 x83 (S87.2 41 ((S87.1 40 0) - 1).toNatClampNeg) (S87.2 41 (S87.1 40 0).toNatClampNeg)  hc90) (va_cwS 3 (g_hts K) gX8_value_X8_reckon rfl rfl rfl (by decide +kernel) ⟨Nat.le_of_ble_eq_true rfl, Nat.le_of_ble_eq_true rfl⟩) ⟨g_blind rides_none, g_pre (X2 := fun _ _ => True) K hw (fun _ _ _ => trivial)⟩ rfl rfl hl.1 rfl (lv_room (Nat.le_of_ble_eq_true rfl)) dX8_value_179 ⟨Nat.le_of_ble_eq_true rfl, Nat.le_of_ble_eq_true rfl⟩) (fun r u H locs hp hw => ?_)
          obtain ⟨rfl, hu⟩ := hp
          rw [hu] at hw
          obtain ⟨h92, hm⟩ := chkS hm
          refine g_last K hw 32 1 rfl (by decide) rfl rfl h92 dX8_value_182 (eM_41 cy ad S87 (((S87.1 40 0) - 1).toNatClampNeg) z91) (fun H locs hw => ?_)
          obtain ⟨S93, hS93, hm⟩ := nm_ex hm
          rw [← hS93] at hw
          obtain ⟨x94, hx94, hm⟩ := nm_ex hm
          refine lv_iinc (v := x94) (lv' := [(3, .int x94), (4, .int x83), (0, .ref (ad 0 0)), (1, .int x1), (2, .int x2)]) hx hb dX8_value_183 hl (k := 4) rfl (by rw [hx94]; rfl) (by decide) rfl (fun ls hl => ?_)
          refine lv_goto (tgt := 7) hx hb dX8_value_186 (by decide) ?_
          obtain rfl := Option.some.inj hm
          exact hg H locs hw ls (lv_sub hl [2, 3, 4, 0] rfl)
        · replace hm := (if_neg (fun h => h c86)).symm.trans hm
          refine lv_aload_n hx hb dX8_value_111 rfl (lv_at hl 1 rfl) ?_
          refine g_get (ref := "MigrantHeapModel") (C := RX8) (T := TX8) (N := 44) (ci := 8) K in_X8_value_X8 hw 0 rfl (by decide : 0 < 1) rfl rfl 41 (by decide) (List.mem_of_getElem? (i := 4) rfl) rfl rfl dX8_value_112 ?_
          refine lv_aload_n hx hb dX8_value_115 rfl (lv_at hl 1 rfl) ?_
          refine g_get (ref := "MigrantHeapModel") (C := RX8) (T := TX8) (N := 44) (ci := 8) K in_X8_value_X8 hw 0 rfl (by decide : 0 < 1) rfl rfl 40 (by decide) (List.mem_of_getElem? (i := 1) rfl) rfl rfl dX8_value_116 ?_
          refine lv_iconst (v := 1) hx hb dX8_value_119 (by decide) ?_
          refine lv_isub hx hb dX8_value_120 ?_
          refine lv_aload_n hx hb dX8_value_121 rfl (lv_at hl 1 rfl) ?_
          refine g_get (ref := "MigrantHeapModel") (C := RX8) (T := TX8) (N := 44) (ci := 8) K in_X8_value_X8 hw 0 rfl (by decide : 0 < 1) rfl rfl 41 (by decide) (List.mem_of_getElem? (i := 4) rfl) rfl rfl dX8_value_122 ?_
          refine lv_aload_n hx hb dX8_value_125 rfl (lv_at hl 1 rfl) ?_
          refine g_get (ref := "MigrantHeapModel") (C := RX8) (T := TX8) (N := 44) (ci := 8) K in_X8_value_X8 hw 0 rfl (by decide : 0 < 1) rfl rfl 40 (by decide) (List.mem_of_getElem? (i := 1) rfl) rfl rfl dX8_value_126 ?_
          refine lv_iconst (v := 1) hx hb dX8_value_129 (by decide) ?_
          refine lv_isub hx hb dX8_value_130 ?_
          obtain ⟨h95, hm⟩ := chkS hm
          refine g_lald K hw 32 1 rfl (by decide) rfl rfl h95 dX8_value_131 ?_
          refine lv_lneg hx hb dX8_value_132 ?_
          obtain ⟨h96, hm⟩ := chkS hm
          refine g_last K hw 32 1 rfl (by decide) rfl rfl h96 dX8_value_133 (eM_41 cy ad x.1 (((x.1.1 40 0) - 1).toNatClampNeg) (-(x.1.2 41 ((x.1.1 40 0) - 1).toNatClampNeg))) (fun H locs hw => ?_)
          obtain ⟨S97, hS97, hm⟩ := nm_ex hm
          rw [← hS97] at hw
          refine lv_goto (tgt := 183) hx hb dX8_value_134 (by decide) ?_
          obtain ⟨x98, hx98, hm⟩ := nm_ex hm
          refine lv_iinc (v := x98) (lv' := [(3, .int x98), (4, .int x83), (0, .ref (ad 0 0)), (1, .int x1), (2, .int x2)]) hx hb dX8_value_183 hl (k := 4) rfl (by rw [hx98]; rfl) (by decide) rfl (fun ls hl => ?_)
          refine lv_goto (tgt := 7) hx hb dX8_value_186 (by decide) ?_
          obtain rfl := Option.some.inj hm
          exact hg H locs hw ls (lv_sub hl [2, 3, 4, 0] rfl)
      · replace hm := (if_neg c85).symm.trans hm
        exact t_X8_value_J44 K n x.1 x1 x2 x.2 x83 hm hg hE0 H locs hw ls (lv_sub hl [1, 2, 3, 4, 0] rfl)
set_option maxRecDepth 100000 in
set_option maxHeartbeats 4000000 in
theorem t_X8_value_0 (K : Cx p s m args meth c D A (tysC cy) RX8 cX8_value 5 (some .int) wsX8_value (fun _ _ => True)) (n : Nat) (S : MSt) (x1 : Int32) (x2 : Int32)  {out : Int32 × MSt} (hm : m_X8_value n S x1 x2 = some out) : ∀ (H : Heap) (locs : List Loc), Wd D A s.heap (GM cy ad S) H locs → ∀ ls : Array Slot, lv_has ls 5 [(0, .ref (ad 0 0)), (1, .int x1), (2, .int x2)] → W p l e rm_X8_value s m args below meth c H locs 0 0 (MQ below (va_Qi (fun r (u : MSt) => out = (r, u)) (fun u => Pst D (tysC cy) A (GM cy ad u)) A) args s 0 0 A) (F0 m 0 ls []) := by
  intro H locs hw ls hl
  obtain ⟨hx, hb, hml, hown, hts, hr, hlo, hK, hA, hX⟩ := id K
  unfold m_X8_value at hm
  refine lv_aload_n hx hb dX8_value_0 rfl (lv_at hl 0 rfl) ?_
  refine lv_iconst (v := 0) hx hb dX8_value_1 (by decide) ?_
  refine g_put (v := .int 0) (ty := .int) (ref := "MigrantHeapModel") (C := RX8) (T := TX8) (N := 44) (ci := 8) K in_X8_value_X8 tyX8 tyX8_ok nmX8 hw 0 rfl (by decide : 0 < 1) rfl rfl 40 (by decide) (List.mem_of_getElem? (i := 1) rfl) rfl rfl (by decide +kernel) rfl rfl (Nat.le_of_ble_eq_true rfl) dX8_value_2 (eM_40 cy ad S 0) (fun H locs hw => ?_)
  obtain ⟨S99, hS99, hm⟩ := nm_ex hm
  rw [← hS99] at hw
  refine lv_iconst (v := 0) hx hb dX8_value_5 (by decide) ?_
  refine lv_istore_n (lv' := [(3, .int 0), (0, .ref (ad 0 0)), (1, .int x1), (2, .int x2)]) hx hb dX8_value_6 rfl hl (by decide) rfl (fun ls hl => ?_)
  obtain ⟨z100, hz101, hm⟩ := bindS hm
  refine t_X8_value_L7 K n x1 x2 z100 (fun w102 hww102 => ?_) ((S99, 0)) hz101 H locs hw ls (lv_sub hl [1, 2, 3, 0] rfl)
  · intro H locs hw ls hl 
    try rw [hww102] at hm
    refine lv_aload_n hx hb dX8_value_189 rfl (lv_at hl 0 rfl) ?_
    refine g_get (ref := "MigrantHeapModel") (C := RX8) (T := TX8) (N := 44) (ci := 8) K in_X8_value_X8 hw 0 rfl (by decide : 0 < 1) rfl rfl 41 (by decide) (List.mem_of_getElem? (i := 4) rfl) rfl rfl dX8_value_190 ?_
    refine lv_iconst (v := 0) hx hb dX8_value_193 (by decide) ?_
    obtain ⟨h103, hm⟩ := chkS hm
    refine g_lald K hw 32 1 rfl (by decide) rfl rfl h103 dX8_value_194 ?_
    refine lv_l2i hx hb dX8_value_195 rfl ?_
    exact g_iret (GG := GM cy ad) K hw (Option.some.inj hm).symm dX8_value_196
set_option maxRecDepth 100000 in
set_option maxHeartbeats 4000000 in
theorem c_X8_value (l : Launch) (D : va_G) (cy : Nat → ClassId) (ad : Nat → Nat → Nat) (sz n : Nat) (S : MSt) (x1 : Int32) (x2 : Int32)  {out : Int32 × MSt} (hm : m_X8_value n S x1 x2 = some out) : Met l yX8_value wsX8_value rm_X8_value (va_Pc [.ref (ad 0 0), .int x1, .int x2] (Pre D (tysC cy) (GM cy ad S) (fun _ _ => True) sz)) (va_Qi (fun r (u : MSt) => out = (r, u)) (fun u => Pst D (tysC cy) (AA (adrs (GM cy ad S)) sz) (GM cy ad u)) (AA (adrs (GM cy ad S)) sz)) 0 0 (AA (adrs (GM cy ad S)) sz) := by
  refine g_met (by decide) rfl (Nat.le_of_ble_eq_true rfl) ?_
  intro p e s m args below meth c K hw ls hl
  exact t_X8_value_0 (cy := cy) K n S x1 x2  hm _ _ hw ls hl
end W_X8_value
section W_X8_findDraft
variable {p : Program} {l : Launch} {e : Env} {s : State} {m : MethodId} {args : Array Value} {below : List Frame} {meth : Method} {c : Code} {D : va_G} {A : Nat → Prop} {cy : Nat → ClassId} {ad : Nat → Nat → Nat} {Q : State → Prop}
abbrev rm_X8_findDraft : Room := { frames := 0, cells := 0, slots := 0, locals := 0 }
theorem in_X8_findDraft_X8 : ∀ w ∈ u_ws RX8 TX8 44, w ∈ wsX8_findDraft := by decide +kernel
set_option maxRecDepth 100000 in
set_option maxHeartbeats 4000000 in
theorem t_X8_findDraft_L4 (K : Cx p s m args meth c D A (tysC cy) RX8 cX8_findDraft 4 (some .int) wsX8_findDraft (fun _ _ => True)) (n : Nat) (S : MSt) (x1 : Int32)  (z : Int32) (hE0 : ∀ w : Int32, z = w → ∀ (H : Heap) (locs : List Loc), Wd D A s.heap (GM cy ad S) H locs → ∀ ls : Array Slot, lv_has ls 4 [(2, .int w)] → W p l e rm_X8_findDraft s m args below meth c H locs 0 0 Q (F0 m 34 ls [])) : ∀ (x : (Int32 × Int32)), lpO (b_X8_findDraft_4 n S x1) n x = some z → (fun (x : (Int32 × Int32)) => ∀ (H : Heap) (locs : List Loc), Wd D A s.heap (GM cy ad S) H locs → ∀ ls : Array Slot, lv_has ls 4 [(0, .ref (ad 0 0)), (1, .int x1), (2, .int x.1), (3, .int x.2)] → W p l e rm_X8_findDraft s m args below meth c H locs 0 0 Q (F0 m 4 ls [])) x := by
  intro x hx0
  refine lpO_ind2 (P := fun (x : (Int32 × Int32)) => ∀ (H : Heap) (locs : List Loc), Wd D A s.heap (GM cy ad S) H locs → ∀ ls : Array Slot, lv_has ls 4 [(0, .ref (ad 0 0)), (1, .int x1), (2, .int x.1), (3, .int x.2)] → W p l e rm_X8_findDraft s m args below meth c H locs 0 0 Q (F0 m 4 ls [])) (z := z) ?_ n x hx0
  clear hx0 x
  intro x out hm hg H locs hw ls hl 
  obtain ⟨hx, hb, hml, hown, hts, hr, hlo, hK, hA, hX⟩ := id K
  unfold b_X8_findDraft_4 at hm
  refine lv_iload_n hx hb dX8_findDraft_4 rfl (lv_at hl 3 rfl) ?_
  refine lv_aload_n hx hb dX8_findDraft_5 rfl (lv_at hl 0 rfl) ?_
  refine g_get (ref := "MigrantHeapModel") (C := RX8) (T := TX8) (N := 44) (ci := 8) K in_X8_findDraft_X8 hw 0 rfl (by decide : 0 < 1) rfl rfl 28 (by decide) (List.mem_of_getElem? (i := 1) rfl) rfl rfl dX8_findDraft_6 ?_
  refine lv_icmp_ge (tgt := 34) hx hb dX8_findDraft_9 (by decide) (fun c9 => ?_) (fun c9 => ?_)
  · replace hm := (if_pos c9).symm.trans hm
    obtain rfl := Option.some.inj hm
    exact hE0 _ hg.symm H locs hw ls (lv_sub hl [2] rfl)
  · replace hm := (if_neg c9).symm.trans hm
    refine lv_aload_n hx hb dX8_findDraft_12 rfl (lv_at hl 0 rfl) ?_
    refine g_get (ref := "MigrantHeapModel") (C := RX8) (T := TX8) (N := 44) (ci := 8) K in_X8_findDraft_X8 hw 0 rfl (by decide : 0 < 1) rfl rfl 29 (by decide) (List.mem_of_getElem? (i := 2) rfl) rfl rfl dX8_findDraft_13 ?_
    refine lv_iload_n hx hb dX8_findDraft_16 rfl (lv_at hl 3 rfl) ?_
    obtain ⟨h10, hm⟩ := chkS hm
    refine g_iald K hw 23 0 rfl (by decide) rfl rfl h10 dX8_findDraft_17 ?_
    refine lv_iload_n hx hb dX8_findDraft_18 rfl (lv_at hl 1 rfl) ?_
    refine lv_icmp_ne (tgt := 26) hx hb dX8_findDraft_19 (by decide) (fun c11 => ?_) (fun c11 => ?_)
    · replace hm := (if_pos c11).symm.trans hm
      refine lv_iload_n hx hb dX8_findDraft_26 rfl (lv_at hl 2 rfl) ?_
      refine lv_istore_n (lv' := [(2, .int x.1), (0, .ref (ad 0 0)), (1, .int x1), (3, .int x.2)]) hx hb dX8_findDraft_27 rfl hl (by decide) rfl (fun ls hl => ?_)
      obtain ⟨x12, hx12, hm⟩ := nm_ex hm
      refine lv_iinc (v := x12) (lv' := [(3, .int x12), (2, .int x.1), (0, .ref (ad 0 0)), (1, .int x1)]) hx hb dX8_findDraft_28 hl (k := 3) rfl (by rw [hx12]; rfl) (by decide) rfl (fun ls hl => ?_)
      refine lv_goto (tgt := 4) hx hb dX8_findDraft_31 (by decide) ?_
      obtain rfl := Option.some.inj hm
      exact hg H locs hw ls (lv_sub hl [2, 3, 1, 0] rfl)
    · replace hm := (if_neg (fun h => h c11)).symm.trans hm
      refine lv_iload_n hx hb dX8_findDraft_22 rfl (lv_at hl 3 rfl) ?_
      refine lv_goto (tgt := 27) hx hb dX8_findDraft_23 (by decide) ?_
      refine lv_istore_n (lv' := [(2, .int x.2), (0, .ref (ad 0 0)), (1, .int x1), (3, .int x.2)]) hx hb dX8_findDraft_27 rfl hl (by decide) rfl (fun ls hl => ?_)
      obtain ⟨x13, hx13, hm⟩ := nm_ex hm
      refine lv_iinc (v := x13) (lv' := [(3, .int x13), (2, .int x.2), (0, .ref (ad 0 0)), (1, .int x1)]) hx hb dX8_findDraft_28 hl (k := 3) rfl (by rw [hx13]; rfl) (by decide) rfl (fun ls hl => ?_)
      refine lv_goto (tgt := 4) hx hb dX8_findDraft_31 (by decide) ?_
      obtain rfl := Option.some.inj hm
      exact hg H locs hw ls (lv_sub hl [2, 3, 1, 0] rfl)
set_option maxRecDepth 100000 in
set_option maxHeartbeats 4000000 in
theorem t_X8_findDraft_0 (K : Cx p s m args meth c D A (tysC cy) RX8 cX8_findDraft 4 (some .int) wsX8_findDraft (fun _ _ => True)) (n : Nat) (S : MSt) (x1 : Int32)  {out : Int32} (hm : m_X8_findDraft n S x1 = some out) : ∀ (H : Heap) (locs : List Loc), Wd D A s.heap (GM cy ad S) H locs → ∀ ls : Array Slot, lv_has ls 4 [(0, .ref (ad 0 0)), (1, .int x1)] → W p l e rm_X8_findDraft s m args below meth c H locs 0 0 (MQ below (va_Qi (fun r (u : MSt) => out = r ∧ u = S) (fun u => Pst D (tysC cy) A (GM cy ad u)) A) args s 0 0 A) (F0 m 0 ls []) := by
  intro H locs hw ls hl
  obtain ⟨hx, hb, hml, hown, hts, hr, hlo, hK, hA, hX⟩ := id K
  unfold m_X8_findDraft at hm
  refine lv_iconst (v := (-1)) hx hb dX8_findDraft_0 (by decide) ?_
  refine lv_istore_n (lv' := [(2, .int (-1)), (0, .ref (ad 0 0)), (1, .int x1)]) hx hb dX8_findDraft_1 rfl hl (by decide) rfl (fun ls hl => ?_)
  refine lv_iconst (v := 0) hx hb dX8_findDraft_2 (by decide) ?_
  refine lv_istore_n (lv' := [(3, .int 0), (2, .int (-1)), (0, .ref (ad 0 0)), (1, .int x1)]) hx hb dX8_findDraft_3 rfl hl (by decide) rfl (fun ls hl => ?_)
  obtain ⟨z14, hz15, hm⟩ := bindS hm
  refine t_X8_findDraft_L4 K n S x1 z14 (fun w16 hww16 => ?_) (((-1), 0)) hz15 H locs hw ls (lv_sub hl [2, 3, 1, 0] rfl)
  · intro H locs hw ls hl 
    try rw [hww16] at hm
    refine lv_iload_n hx hb dX8_findDraft_34 rfl (lv_at hl 0 rfl) ?_
    exact g_iret (GG := GM cy ad) K hw ⟨(Option.some.inj hm).symm, rfl⟩ dX8_findDraft_35
set_option maxRecDepth 100000 in
set_option maxHeartbeats 4000000 in
theorem c_X8_findDraft (l : Launch) (D : va_G) (cy : Nat → ClassId) (ad : Nat → Nat → Nat) (sz n : Nat) (S : MSt) (x1 : Int32)  {out : Int32} (hm : m_X8_findDraft n S x1 = some out) : Met l yX8_findDraft wsX8_findDraft rm_X8_findDraft (va_Pc [.ref (ad 0 0), .int x1] (Pre D (tysC cy) (GM cy ad S) (fun _ _ => True) sz)) (va_Qi (fun r (u : MSt) => out = r ∧ u = S) (fun u => Pst D (tysC cy) (AA (adrs (GM cy ad S)) sz) (GM cy ad u)) (AA (adrs (GM cy ad S)) sz)) 0 0 (AA (adrs (GM cy ad S)) sz) := by
  refine g_met (by decide) rfl (Nat.le_of_ble_eq_true rfl) ?_
  intro p e s m args below meth c K hw ls hl
  exact t_X8_findDraft_0 (cy := cy) K n S x1  hm _ _ hw ls hl
end W_X8_findDraft
section W_X8_takeField
variable {p : Program} {l : Launch} {e : Env} {s : State} {m : MethodId} {args : Array Value} {below : List Frame} {meth : Method} {c : Code} {D : va_G} {A : Nat → Prop} {cy : Nat → ClassId} {ad : Nat → Nat → Nat} {Q : State → Prop}
abbrev rm_X8_takeField : Room := { frames := 0, cells := 0, slots := 0, locals := 0 }
theorem in_X8_takeField_X8 : ∀ w ∈ u_ws RX8 TX8 44, w ∈ wsX8_takeField := by decide +kernel
set_option maxRecDepth 100000 in
set_option maxHeartbeats 4000000 in
theorem t_X8_takeField_L92 (K : Cx p s m args meth c D A (tysC cy) RX8 cX8_takeField 4 none wsX8_takeField (fun _ _ => True)) (n : Nat) (x2 : Int32)  (z : MSt) (hE0 : ∀ w : MSt, z = w → ∀ (H : Heap) (locs : List Loc), Wd D A s.heap (GM cy ad w) H locs → ∀ ls : Array Slot, lv_has ls 4 [(0, .ref (ad 0 0)), (2, .int x2)] → W p l e rm_X8_takeField s m args below meth c H locs 0 0 Q (F0 m 128 ls [])) : ∀ (x : (MSt × Int32)), lpO (b_X8_takeField_92 n x2) n x = some z → (fun (x : (MSt × Int32)) => ∀ (H : Heap) (locs : List Loc), Wd D A s.heap (GM cy ad x.1) H locs → ∀ ls : Array Slot, lv_has ls 4 [(0, .ref (ad 0 0)), (2, .int x2), (3, .int x.2)] → W p l e rm_X8_takeField s m args below meth c H locs 0 0 Q (F0 m 92 ls [])) x := by
  intro x hx0
  refine lpO_ind2 (P := fun (x : (MSt × Int32)) => ∀ (H : Heap) (locs : List Loc), Wd D A s.heap (GM cy ad x.1) H locs → ∀ ls : Array Slot, lv_has ls 4 [(0, .ref (ad 0 0)), (2, .int x2), (3, .int x.2)] → W p l e rm_X8_takeField s m args below meth c H locs 0 0 Q (F0 m 92 ls [])) (z := z) ?_ n x hx0
  clear hx0 x
  intro x out hm hg H locs hw ls hl 
  obtain ⟨hx, hb, hml, hown, hts, hr, hlo, hK, hA, hX⟩ := id K
  unfold b_X8_takeField_92 at hm
  refine lv_iload_n hx hb dX8_takeField_92 rfl (lv_at hl 2 rfl) ?_
  refine lv_bipush (v := 24) hx hb dX8_takeField_93 (by decide) ?_
  refine lv_icmp_ge (tgt := 128) hx hb dX8_takeField_95 (by decide) (fun c64 => ?_) (fun c64 => ?_)
  · replace hm := (if_pos c64).symm.trans hm
    obtain rfl := Option.some.inj hm
    exact hE0 _ hg.symm H locs hw ls (lv_sub hl [0, 1] rfl)
  · replace hm := (if_neg c64).symm.trans hm
    refine lv_aload_n hx hb dX8_takeField_98 rfl (lv_at hl 0 rfl) ?_
    refine g_get (ref := "MigrantHeapModel") (C := RX8) (T := TX8) (N := 44) (ci := 8) K in_X8_takeField_X8 hw 0 rfl (by decide : 0 < 1) rfl rfl 34 (by decide) (List.mem_of_getElem? (i := 7) rfl) rfl rfl dX8_takeField_99 ?_
    refine lv_bipush (v := 6) hx hb dX8_takeField_102 (by decide) ?_
    refine lv_iload_n hx hb dX8_takeField_104 rfl (lv_at hl 2 rfl) ?_
    refine lv_imul hx hb dX8_takeField_105 ?_
    refine lv_iload_n hx hb dX8_takeField_106 rfl (lv_at hl 1 rfl) ?_
    refine lv_iadd hx hb dX8_takeField_107 ?_
    refine lv_aload_n hx hb dX8_takeField_108 rfl (lv_at hl 0 rfl) ?_
    refine g_get (ref := "MigrantHeapModel") (C := RX8) (T := TX8) (N := 44) (ci := 8) K in_X8_takeField_X8 hw 0 rfl (by decide : 0 < 1) rfl rfl 34 (by decide) (List.mem_of_getElem? (i := 7) rfl) rfl rfl dX8_takeField_109 ?_
    refine lv_bipush (v := 6) hx hb dX8_takeField_112 (by decide) ?_
    refine lv_iload_n hx hb dX8_takeField_114 rfl (lv_at hl 2 rfl) ?_
    refine lv_imul hx hb dX8_takeField_115 ?_
    refine lv_iload_n hx hb dX8_takeField_116 rfl (lv_at hl 1 rfl) ?_
    refine lv_iadd hx hb dX8_takeField_117 ?_
    refine lv_iconst (v := 1) hx hb dX8_takeField_118 (by decide) ?_
    refine lv_iadd hx hb dX8_takeField_119 ?_
    obtain ⟨h65, hm⟩ := chkS hm
    refine g_iald K hw 28 0 rfl (by decide) rfl rfl h65 dX8_takeField_120 ?_
    obtain ⟨h66, hm⟩ := chkS hm
    refine g_iast K hw 28 0 rfl (by decide) rfl rfl h66 dX8_takeField_121 (eM_34 cy ad x.1 (((6 * x.2) + x2).toNatClampNeg) (x.1.1 34 (((6 * x.2) + x2) + 1).toNatClampNeg)) (fun H locs hw => ?_)
    obtain ⟨S67, hS67, hm⟩ := nm_ex hm
    rw [← hS67] at hw
    obtain ⟨x68, hx68, hm⟩ := nm_ex hm
    refine lv_iinc (v := x68) (lv' := [(3, .int x68), (0, .ref (ad 0 0)), (2, .int x2)]) hx hb dX8_takeField_122 hl (k := 2) rfl (by rw [hx68]; rfl) (by decide) rfl (fun ls hl => ?_)
    refine lv_goto (tgt := 92) hx hb dX8_takeField_125 (by decide) ?_
    obtain rfl := Option.some.inj hm
    exact hg H locs hw ls (lv_sub hl [1, 2, 0] rfl)
set_option maxRecDepth 100000 in
set_option maxHeartbeats 4000000 in
theorem t_X8_takeField_L12 (K : Cx p s m args meth c D A (tysC cy) RX8 cX8_takeField 4 none wsX8_takeField (fun _ _ => True)) (n : Nat)   (z : MSt) (hE0 : ∀ w : MSt, z = w → ∀ (H : Heap) (locs : List Loc), Wd D A s.heap (GM cy ad w) H locs → ∀ ls : Array Slot, lv_has ls 4 [] → W p l e rm_X8_takeField s m args below meth c H locs 0 0 Q (F0 m 134 ls [])) : ∀ (x : (MSt × Int32)), lpO (b_X8_takeField_12 n ) n x = some z → (fun (x : (MSt × Int32)) => ∀ (H : Heap) (locs : List Loc), Wd D A s.heap (GM cy ad x.1) H locs → ∀ ls : Array Slot, lv_has ls 4 [(0, .ref (ad 0 0)), (2, .int x.2)] → W p l e rm_X8_takeField s m args below meth c H locs 0 0 Q (F0 m 12 ls [])) x := by
  intro x hx0
  refine lpO_ind2 (P := fun (x : (MSt × Int32)) => ∀ (H : Heap) (locs : List Loc), Wd D A s.heap (GM cy ad x.1) H locs → ∀ ls : Array Slot, lv_has ls 4 [(0, .ref (ad 0 0)), (2, .int x.2)] → W p l e rm_X8_takeField s m args below meth c H locs 0 0 Q (F0 m 12 ls [])) (z := z) ?_ n x hx0
  clear hx0 x
  intro x out hm hg H locs hw ls hl 
  obtain ⟨hx, hb, hml, hown, hts, hr, hlo, hK, hA, hX⟩ := id K
  unfold b_X8_takeField_12 at hm
  refine lv_iload_n hx hb dX8_takeField_12 rfl (lv_at hl 1 rfl) ?_
  refine lv_aload_n hx hb dX8_takeField_13 rfl (lv_at hl 0 rfl) ?_
  refine g_get (ref := "MigrantHeapModel") (C := RX8) (T := TX8) (N := 44) (ci := 8) K in_X8_takeField_X8 hw 0 rfl (by decide : 0 < 1) rfl rfl 28 (by decide) (List.mem_of_getElem? (i := 1) rfl) rfl rfl dX8_takeField_14 ?_
  refine lv_icmp_ge (tgt := 134) hx hb dX8_takeField_17 (by decide) (fun c69 => ?_) (fun c69 => ?_)
  · replace hm := (if_pos c69).symm.trans hm
    obtain rfl := Option.some.inj hm
    exact hE0 _ hg.symm H locs hw ls (lv_sub hl [] rfl)
  · replace hm := (if_neg c69).symm.trans hm
    refine lv_aload_n hx hb dX8_takeField_20 rfl (lv_at hl 0 rfl) ?_
    refine g_get (ref := "MigrantHeapModel") (C := RX8) (T := TX8) (N := 44) (ci := 8) K in_X8_takeField_X8 hw 0 rfl (by decide : 0 < 1) rfl rfl 29 (by decide) (List.mem_of_getElem? (i := 2) rfl) rfl rfl dX8_takeField_21 ?_
    refine lv_iload_n hx hb dX8_takeField_24 rfl (lv_at hl 1 rfl) ?_
    refine lv_aload_n hx hb dX8_takeField_25 rfl (lv_at hl 0 rfl) ?_
    refine g_get (ref := "MigrantHeapModel") (C := RX8) (T := TX8) (N := 44) (ci := 8) K in_X8_takeField_X8 hw 0 rfl (by decide : 0 < 1) rfl rfl 29 (by decide) (List.mem_of_getElem? (i := 2) rfl) rfl rfl dX8_takeField_26 ?_
    refine lv_iload_n hx hb dX8_takeField_29 rfl (lv_at hl 1 rfl) ?_
    refine lv_iconst (v := 1) hx hb dX8_takeField_30 (by decide) ?_
    refine lv_iadd hx hb dX8_takeField_31 ?_
    obtain ⟨h70, hm⟩ := chkS hm
    refine g_iald K hw 23 0 rfl (by decide) rfl rfl h70 dX8_takeField_32 ?_
    obtain ⟨h71, hm⟩ := chkS hm
    refine g_iast K hw 23 0 rfl (by decide) rfl rfl h71 dX8_takeField_33 (eM_29 cy ad x.1 x.2.toNatClampNeg (x.1.1 29 (x.2 + 1).toNatClampNeg)) (fun H locs hw => ?_)
    obtain ⟨S72, hS72, hm⟩ := nm_ex hm
    rw [← hS72] at hw
    refine lv_aload_n hx hb dX8_takeField_34 rfl (lv_at hl 0 rfl) ?_
    refine g_get (ref := "MigrantHeapModel") (C := RX8) (T := TX8) (N := 44) (ci := 8) K in_X8_takeField_X8 hw 0 rfl (by decide : 0 < 1) rfl rfl 30 (by decide) (List.mem_of_getElem? (i := 3) rfl) rfl rfl dX8_takeField_35 ?_
    refine lv_iload_n hx hb dX8_takeField_38 rfl (lv_at hl 1 rfl) ?_
    refine lv_aload_n hx hb dX8_takeField_39 rfl (lv_at hl 0 rfl) ?_
    refine g_get (ref := "MigrantHeapModel") (C := RX8) (T := TX8) (N := 44) (ci := 8) K in_X8_takeField_X8 hw 0 rfl (by decide : 0 < 1) rfl rfl 30 (by decide) (List.mem_of_getElem? (i := 3) rfl) rfl rfl dX8_takeField_40 ?_
    refine lv_iload_n hx hb dX8_takeField_43 rfl (lv_at hl 1 rfl) ?_
    refine lv_iconst (v := 1) hx hb dX8_takeField_44 (by decide) ?_
    refine lv_iadd hx hb dX8_takeField_45 ?_
    obtain ⟨h73, hm⟩ := chkS hm
    refine g_iald K hw 24 0 rfl (by decide) rfl rfl h73 dX8_takeField_46 ?_
    obtain ⟨h74, hm⟩ := chkS hm
    refine g_iast K hw 24 0 rfl (by decide) rfl rfl h74 dX8_takeField_47 (eM_30 cy ad S72 x.2.toNatClampNeg (S72.1 30 (x.2 + 1).toNatClampNeg)) (fun H locs hw => ?_)
    obtain ⟨S75, hS75, hm⟩ := nm_ex hm
    rw [← hS75] at hw
    refine lv_aload_n hx hb dX8_takeField_48 rfl (lv_at hl 0 rfl) ?_
    refine g_get (ref := "MigrantHeapModel") (C := RX8) (T := TX8) (N := 44) (ci := 8) K in_X8_takeField_X8 hw 0 rfl (by decide : 0 < 1) rfl rfl 31 (by decide) (List.mem_of_getElem? (i := 4) rfl) rfl rfl dX8_takeField_49 ?_
    refine lv_iload_n hx hb dX8_takeField_52 rfl (lv_at hl 1 rfl) ?_
    refine lv_aload_n hx hb dX8_takeField_53 rfl (lv_at hl 0 rfl) ?_
    refine g_get (ref := "MigrantHeapModel") (C := RX8) (T := TX8) (N := 44) (ci := 8) K in_X8_takeField_X8 hw 0 rfl (by decide : 0 < 1) rfl rfl 31 (by decide) (List.mem_of_getElem? (i := 4) rfl) rfl rfl dX8_takeField_54 ?_
    refine lv_iload_n hx hb dX8_takeField_57 rfl (lv_at hl 1 rfl) ?_
    refine lv_iconst (v := 1) hx hb dX8_takeField_58 (by decide) ?_
    refine lv_iadd hx hb dX8_takeField_59 ?_
    obtain ⟨h76, hm⟩ := chkS hm
    refine g_iald K hw 25 0 rfl (by decide) rfl rfl h76 dX8_takeField_60 ?_
    obtain ⟨h77, hm⟩ := chkS hm
    refine g_iast K hw 25 0 rfl (by decide) rfl rfl h77 dX8_takeField_61 (eM_31 cy ad S75 x.2.toNatClampNeg (S75.1 31 (x.2 + 1).toNatClampNeg)) (fun H locs hw => ?_)
    obtain ⟨S78, hS78, hm⟩ := nm_ex hm
    rw [← hS78] at hw
    refine lv_aload_n hx hb dX8_takeField_62 rfl (lv_at hl 0 rfl) ?_
    refine g_get (ref := "MigrantHeapModel") (C := RX8) (T := TX8) (N := 44) (ci := 8) K in_X8_takeField_X8 hw 0 rfl (by decide : 0 < 1) rfl rfl 32 (by decide) (List.mem_of_getElem? (i := 5) rfl) rfl rfl dX8_takeField_63 ?_
    refine lv_iload_n hx hb dX8_takeField_66 rfl (lv_at hl 1 rfl) ?_
    refine lv_aload_n hx hb dX8_takeField_67 rfl (lv_at hl 0 rfl) ?_
    refine g_get (ref := "MigrantHeapModel") (C := RX8) (T := TX8) (N := 44) (ci := 8) K in_X8_takeField_X8 hw 0 rfl (by decide : 0 < 1) rfl rfl 32 (by decide) (List.mem_of_getElem? (i := 5) rfl) rfl rfl dX8_takeField_68 ?_
    refine lv_iload_n hx hb dX8_takeField_71 rfl (lv_at hl 1 rfl) ?_
    refine lv_iconst (v := 1) hx hb dX8_takeField_72 (by decide) ?_
    refine lv_iadd hx hb dX8_takeField_73 ?_
    obtain ⟨h79, hm⟩ := chkS hm
    refine g_iald K hw 26 0 rfl (by decide) rfl rfl h79 dX8_takeField_74 ?_
    obtain ⟨h80, hm⟩ := chkS hm
    refine g_iast K hw 26 0 rfl (by decide) rfl rfl h80 dX8_takeField_75 (eM_32 cy ad S78 x.2.toNatClampNeg (S78.1 32 (x.2 + 1).toNatClampNeg)) (fun H locs hw => ?_)
    obtain ⟨S81, hS81, hm⟩ := nm_ex hm
    rw [← hS81] at hw
    refine lv_aload_n hx hb dX8_takeField_76 rfl (lv_at hl 0 rfl) ?_
    refine g_get (ref := "MigrantHeapModel") (C := RX8) (T := TX8) (N := 44) (ci := 8) K in_X8_takeField_X8 hw 0 rfl (by decide : 0 < 1) rfl rfl 33 (by decide) (List.mem_of_getElem? (i := 6) rfl) rfl rfl dX8_takeField_77 ?_
    refine lv_iload_n hx hb dX8_takeField_80 rfl (lv_at hl 1 rfl) ?_
    refine lv_aload_n hx hb dX8_takeField_81 rfl (lv_at hl 0 rfl) ?_
    refine g_get (ref := "MigrantHeapModel") (C := RX8) (T := TX8) (N := 44) (ci := 8) K in_X8_takeField_X8 hw 0 rfl (by decide : 0 < 1) rfl rfl 33 (by decide) (List.mem_of_getElem? (i := 6) rfl) rfl rfl dX8_takeField_82 ?_
    refine lv_iload_n hx hb dX8_takeField_85 rfl (lv_at hl 1 rfl) ?_
    refine lv_iconst (v := 1) hx hb dX8_takeField_86 (by decide) ?_
    refine lv_iadd hx hb dX8_takeField_87 ?_
    obtain ⟨h82, hm⟩ := chkS hm
    refine g_iald K hw 27 0 rfl (by decide) rfl rfl h82 dX8_takeField_88 ?_
    obtain ⟨h83, hm⟩ := chkS hm
    refine g_iast K hw 27 0 rfl (by decide) rfl rfl h83 dX8_takeField_89 (eM_33 cy ad S81 x.2.toNatClampNeg (S81.1 33 (x.2 + 1).toNatClampNeg)) (fun H locs hw => ?_)
    obtain ⟨S84, hS84, hm⟩ := nm_ex hm
    rw [← hS84] at hw
    refine lv_iconst (v := 0) hx hb dX8_takeField_90 (by decide) ?_
    refine lv_istore_n (lv' := [(3, .int 0), (0, .ref (ad 0 0)), (2, .int x.2)]) hx hb dX8_takeField_91 rfl hl (by decide) rfl (fun ls hl => ?_)
    obtain ⟨z85, hz86, hm⟩ := bindS hm
    refine t_X8_takeField_L92 K n x.2 z85 (fun w87 hww87 => ?_) ((S84, 0)) hz86 H locs hw ls (lv_sub hl [1, 2, 0] rfl)
    · intro H locs hw ls hl 
      try rw [hww87] at hm
      obtain ⟨x88, hx88, hm⟩ := nm_ex hm
      refine lv_iinc (v := x88) (lv' := [(2, .int x88), (0, .ref (ad 0 0))]) hx hb dX8_takeField_128 hl (k := 1) rfl (by rw [hx88]; rfl) (by decide) rfl (fun ls hl => ?_)
      refine lv_goto (tgt := 12) hx hb dX8_takeField_131 (by decide) ?_
      obtain rfl := Option.some.inj hm
      exact hg H locs hw ls (lv_sub hl [1, 0] rfl)
set_option maxRecDepth 100000 in
set_option maxHeartbeats 4000000 in
theorem t_X8_takeField_0 (K : Cx p s m args meth c D A (tysC cy) RX8 cX8_takeField 4 none wsX8_takeField (fun _ _ => True)) (n : Nat) (S : MSt) (x1 : Int32)  {out : MSt} (hm : m_X8_takeField n S x1 = some out) : ∀ (H : Heap) (locs : List Loc), Wd D A s.heap (GM cy ad S) H locs → ∀ ls : Array Slot, lv_has ls 4 [(0, .ref (ad 0 0)), (1, .int x1)] → W p l e rm_X8_takeField s m args below meth c H locs 0 0 (MQ below (va_Qv (fun (u : MSt) => out = u) (fun u => Pst D (tysC cy) A (GM cy ad u)) A) args s 0 0 A) (F0 m 0 ls []) := by
  intro H locs hw ls hl
  obtain ⟨hx, hb, hml, hown, hts, hr, hlo, hK, hA, hX⟩ := id K
  unfold m_X8_takeField at hm
  refine lv_aload_n hx hb dX8_takeField_0 rfl (lv_at hl 0 rfl) ?_
  refine lv_dup hx hb dX8_takeField_1 rfl ?_
  refine g_get (ref := "MigrantHeapModel") (C := RX8) (T := TX8) (N := 44) (ci := 8) K in_X8_takeField_X8 hw 0 rfl (by decide : 0 < 1) rfl rfl 28 (by decide) (List.mem_of_getElem? (i := 1) rfl) rfl rfl dX8_takeField_2 ?_
  refine lv_iconst (v := 1) hx hb dX8_takeField_5 (by decide) ?_
  refine lv_isub hx hb dX8_takeField_6 ?_
  refine g_put (v := .int ((S.1 28 0) - 1)) (ty := .int) (ref := "MigrantHeapModel") (C := RX8) (T := TX8) (N := 44) (ci := 8) K in_X8_takeField_X8 tyX8 tyX8_ok nmX8 hw 0 rfl (by decide : 0 < 1) rfl rfl 28 (by decide) (List.mem_of_getElem? (i := 1) rfl) rfl rfl (by decide +kernel) rfl rfl (Nat.le_of_ble_eq_true rfl) dX8_takeField_7 (eM_28 cy ad S ((S.1 28 0) - 1)) (fun H locs hw => ?_)
  obtain ⟨S89, hS89, hm⟩ := nm_ex hm
  rw [← hS89] at hw
  refine lv_iload_n hx hb dX8_takeField_10 rfl (lv_at hl 1 rfl) ?_
  refine lv_istore_n (lv' := [(2, .int x1), (0, .ref (ad 0 0)), (1, .int x1)]) hx hb dX8_takeField_11 rfl hl (by decide) rfl (fun ls hl => ?_)
  obtain ⟨z90, hz91, hm⟩ := bindS hm
  refine t_X8_takeField_L12 K n  z90 (fun w92 hww92 => ?_) ((S89, x1)) hz91 H locs hw ls (lv_sub hl [1, 0] rfl)
  · intro H locs hw ls hl 
    try rw [hww92] at hm
    exact g_vret (GG := GM cy ad) K hw (Option.some.inj hm).symm dX8_takeField_134
set_option maxRecDepth 100000 in
set_option maxHeartbeats 4000000 in
theorem c_X8_takeField (l : Launch) (D : va_G) (cy : Nat → ClassId) (ad : Nat → Nat → Nat) (sz n : Nat) (S : MSt) (x1 : Int32)  {out : MSt} (hm : m_X8_takeField n S x1 = some out) : Met l yX8_takeField wsX8_takeField rm_X8_takeField (va_Pc [.ref (ad 0 0), .int x1] (Pre D (tysC cy) (GM cy ad S) (fun _ _ => True) sz)) (va_Qv (fun (u : MSt) => out = u) (fun u => Pst D (tysC cy) (AA (adrs (GM cy ad S)) sz) (GM cy ad u)) (AA (adrs (GM cy ad S)) sz)) 0 0 (AA (adrs (GM cy ad S)) sz) := by
  refine g_met (by decide) rfl (Nat.le_of_ble_eq_true rfl) ?_
  intro p e s m args below meth c K hw ls hl
  exact t_X8_takeField_0 (cy := cy) K n S x1  hm _ _ hw ls hl
end W_X8_takeField
