section W_X8_step
variable {p : Program} {l : Launch} {e : Env} {s : State} {m : MethodId} {args : Array Value} {below : List Frame} {meth : Method} {c : Code} {D : va_G} {A : Nat → Prop} {cy : Nat → ClassId} {ad : Nat → Nat → Nat} {Q : State → Prop}
abbrev rm_X8_step : Room := { frames := 2, cells := 0, slots := 0, locals := 50 }
theorem in_X8_step_X8 : ∀ w ∈ u_ws RX8 TX8 44, w ∈ wsX8_step := by decide +kernel
set_option maxRecDepth 100000 in
set_option maxHeartbeats 4000000 in
theorem t_X8_step_J118 (K : Cx p s m args meth c D A (tysC cy) RX8 cX8_step 7 (some .int) wsX8_step (fun _ _ => True)) (n : Nat) (S : MSt) (x1 : Int32) (x2 : Int32) (x3 : Int32) (x4 : Int32) (x5 : Int32) {out : Int32 × MSt} (hm : m_X8_step_J118 n S x1 x2 x3 x4 x5 = some out) : ∀ (H : Heap) (locs : List Loc), Wd D A s.heap (GM cy ad S) H locs → ∀ ls : Array Slot, lv_has ls 7 [(0, .ref (ad 0 0)), (1, .int x1), (2, .int x2), (3, .int x3), (4, .int x4), (5, .int x5)] → W p l e rm_X8_step s m args below meth c H locs 0 0 (MQ below (va_Qi (fun r (u : MSt) => out = (r, u)) (fun u => Pst D (tysC cy) A (GM cy ad u)) A) args s 0 0 A) (F0 m 118 ls []) := by
  intro H locs hw ls hl 
  obtain ⟨hx, hb, hml, hown, hts, hr, hlo, hK, hA, hX⟩ := id K
  unfold m_X8_step_J118 at hm
  refine lv_aload_n hx hb dX8_step_118 rfl (lv_at hl 0 rfl) ?_
  refine g_get (ref := "MigrantHeapModel") (C := RX8) (T := TX8) (N := 44) (ci := 8) K in_X8_step_X8 hw 0 rfl (by decide : 0 < 1) rfl rfl 23 (by decide) (List.mem_of_getElem? (i := 7) rfl) rfl rfl dX8_step_119 ?_
  refine lv_iconst (v := 5) hx hb dX8_step_122 (by decide) ?_
  refine lv_aload_n hx hb dX8_step_123 rfl (lv_at hl 0 rfl) ?_
  refine g_get (ref := "MigrantHeapModel") (C := RX8) (T := TX8) (N := 44) (ci := 8) K in_X8_step_X8 hw 0 rfl (by decide : 0 < 1) rfl rfl 22 (by decide) (List.mem_of_getElem? (i := 1) rfl) rfl rfl dX8_step_124 ?_
  refine lv_imul hx hb dX8_step_127 ?_
  refine lv_iload_n hx hb dX8_step_128 rfl (lv_at hl 1 rfl) ?_
  obtain ⟨h70, hm⟩ := chkS hm
  refine g_iast K hw 20 0 rfl (by decide) rfl rfl h70 dX8_step_129 (eM_23 cy ad S ((5 * (S.1 22 0)).toNatClampNeg) x1) (fun H locs hw => ?_)
  obtain ⟨S71, hS71, hm⟩ := nm_ex hm
  rw [← hS71] at hw
  refine lv_aload_n hx hb dX8_step_130 rfl (lv_at hl 0 rfl) ?_
  refine g_get (ref := "MigrantHeapModel") (C := RX8) (T := TX8) (N := 44) (ci := 8) K in_X8_step_X8 hw 0 rfl (by decide : 0 < 1) rfl rfl 23 (by decide) (List.mem_of_getElem? (i := 7) rfl) rfl rfl dX8_step_131 ?_
  refine lv_iconst (v := 5) hx hb dX8_step_134 (by decide) ?_
  refine lv_aload_n hx hb dX8_step_135 rfl (lv_at hl 0 rfl) ?_
  refine g_get (ref := "MigrantHeapModel") (C := RX8) (T := TX8) (N := 44) (ci := 8) K in_X8_step_X8 hw 0 rfl (by decide : 0 < 1) rfl rfl 22 (by decide) (List.mem_of_getElem? (i := 1) rfl) rfl rfl dX8_step_136 ?_
  refine lv_imul hx hb dX8_step_139 ?_
  refine lv_iconst (v := 1) hx hb dX8_step_140 (by decide) ?_
  refine lv_iadd hx hb dX8_step_141 ?_
  refine lv_iload_n hx hb dX8_step_142 rfl (lv_at hl 2 rfl) ?_
  obtain ⟨h72, hm⟩ := chkS hm
  refine g_iast K hw 20 0 rfl (by decide) rfl rfl h72 dX8_step_143 (eM_23 cy ad S71 (((5 * (S71.1 22 0)) + 1).toNatClampNeg) x2) (fun H locs hw => ?_)
  obtain ⟨S73, hS73, hm⟩ := nm_ex hm
  rw [← hS73] at hw
  refine lv_aload_n hx hb dX8_step_144 rfl (lv_at hl 0 rfl) ?_
  refine g_get (ref := "MigrantHeapModel") (C := RX8) (T := TX8) (N := 44) (ci := 8) K in_X8_step_X8 hw 0 rfl (by decide : 0 < 1) rfl rfl 23 (by decide) (List.mem_of_getElem? (i := 7) rfl) rfl rfl dX8_step_145 ?_
  refine lv_iconst (v := 5) hx hb dX8_step_148 (by decide) ?_
  refine lv_aload_n hx hb dX8_step_149 rfl (lv_at hl 0 rfl) ?_
  refine g_get (ref := "MigrantHeapModel") (C := RX8) (T := TX8) (N := 44) (ci := 8) K in_X8_step_X8 hw 0 rfl (by decide : 0 < 1) rfl rfl 22 (by decide) (List.mem_of_getElem? (i := 1) rfl) rfl rfl dX8_step_150 ?_
  refine lv_imul hx hb dX8_step_153 ?_
  refine lv_iconst (v := 2) hx hb dX8_step_154 (by decide) ?_
  refine lv_iadd hx hb dX8_step_155 ?_
  refine lv_iload_n hx hb dX8_step_156 rfl (lv_at hl 3 rfl) ?_
  obtain ⟨h74, hm⟩ := chkS hm
  refine g_iast K hw 20 0 rfl (by decide) rfl rfl h74 dX8_step_157 (eM_23 cy ad S73 (((5 * (S73.1 22 0)) + 2).toNatClampNeg) x3) (fun H locs hw => ?_)
  obtain ⟨S75, hS75, hm⟩ := nm_ex hm
  rw [← hS75] at hw
  refine lv_aload_n hx hb dX8_step_158 rfl (lv_at hl 0 rfl) ?_
  refine g_get (ref := "MigrantHeapModel") (C := RX8) (T := TX8) (N := 44) (ci := 8) K in_X8_step_X8 hw 0 rfl (by decide : 0 < 1) rfl rfl 23 (by decide) (List.mem_of_getElem? (i := 7) rfl) rfl rfl dX8_step_159 ?_
  refine lv_iconst (v := 5) hx hb dX8_step_162 (by decide) ?_
  refine lv_aload_n hx hb dX8_step_163 rfl (lv_at hl 0 rfl) ?_
  refine g_get (ref := "MigrantHeapModel") (C := RX8) (T := TX8) (N := 44) (ci := 8) K in_X8_step_X8 hw 0 rfl (by decide : 0 < 1) rfl rfl 22 (by decide) (List.mem_of_getElem? (i := 1) rfl) rfl rfl dX8_step_164 ?_
  refine lv_imul hx hb dX8_step_167 ?_
  refine lv_iconst (v := 3) hx hb dX8_step_168 (by decide) ?_
  refine lv_iadd hx hb dX8_step_169 ?_
  refine lv_iload hx hb dX8_step_170 (lv_at hl 4 rfl) ?_
  obtain ⟨h76, hm⟩ := chkS hm
  refine g_iast K hw 20 0 rfl (by decide) rfl rfl h76 dX8_step_172 (eM_23 cy ad S75 (((5 * (S75.1 22 0)) + 3).toNatClampNeg) x4) (fun H locs hw => ?_)
  obtain ⟨S77, hS77, hm⟩ := nm_ex hm
  rw [← hS77] at hw
  refine lv_aload_n hx hb dX8_step_173 rfl (lv_at hl 0 rfl) ?_
  refine g_get (ref := "MigrantHeapModel") (C := RX8) (T := TX8) (N := 44) (ci := 8) K in_X8_step_X8 hw 0 rfl (by decide : 0 < 1) rfl rfl 23 (by decide) (List.mem_of_getElem? (i := 7) rfl) rfl rfl dX8_step_174 ?_
  refine lv_iconst (v := 5) hx hb dX8_step_177 (by decide) ?_
  refine lv_aload_n hx hb dX8_step_178 rfl (lv_at hl 0 rfl) ?_
  refine g_get (ref := "MigrantHeapModel") (C := RX8) (T := TX8) (N := 44) (ci := 8) K in_X8_step_X8 hw 0 rfl (by decide : 0 < 1) rfl rfl 22 (by decide) (List.mem_of_getElem? (i := 1) rfl) rfl rfl dX8_step_179 ?_
  refine lv_imul hx hb dX8_step_182 ?_
  refine lv_iconst (v := 4) hx hb dX8_step_183 (by decide) ?_
  refine lv_iadd hx hb dX8_step_184 ?_
  refine lv_iload hx hb dX8_step_185 (lv_at hl 5 rfl) ?_
  obtain ⟨h78, hm⟩ := chkS hm
  refine g_iast K hw 20 0 rfl (by decide) rfl rfl h78 dX8_step_187 (eM_23 cy ad S77 (((5 * (S77.1 22 0)) + 4).toNatClampNeg) x5) (fun H locs hw => ?_)
  obtain ⟨S79, hS79, hm⟩ := nm_ex hm
  rw [← hS79] at hw
  refine lv_aload_n hx hb dX8_step_188 rfl (lv_at hl 0 rfl) ?_
  refine lv_dup hx hb dX8_step_189 rfl ?_
  refine g_get (ref := "MigrantHeapModel") (C := RX8) (T := TX8) (N := 44) (ci := 8) K in_X8_step_X8 hw 0 rfl (by decide : 0 < 1) rfl rfl 22 (by decide) (List.mem_of_getElem? (i := 1) rfl) rfl rfl dX8_step_190 ?_
  refine lv_iconst (v := 1) hx hb dX8_step_193 (by decide) ?_
  refine lv_iadd hx hb dX8_step_194 ?_
  refine g_put (v := .int ((S79.1 22 0) + 1)) (ty := .int) (ref := "MigrantHeapModel") (C := RX8) (T := TX8) (N := 44) (ci := 8) K in_X8_step_X8 tyX8 tyX8_ok nmX8 hw 0 rfl (by decide : 0 < 1) rfl rfl 22 (by decide) (List.mem_of_getElem? (i := 1) rfl) rfl rfl (by decide +kernel) rfl rfl (Nat.le_of_ble_eq_true rfl) dX8_step_195 (eM_22 cy ad S79 ((S79.1 22 0) + 1)) (fun H locs hw => ?_)
  obtain ⟨S80, hS80, hm⟩ := nm_ex hm
  rw [← hS80] at hw
  refine lv_aload_n hx hb dX8_step_198 rfl (lv_at hl 0 rfl) ?_
  refine g_get (ref := "MigrantHeapModel") (C := RX8) (T := TX8) (N := 44) (ci := 8) K in_X8_step_X8 hw 0 rfl (by decide : 0 < 1) rfl rfl 22 (by decide) (List.mem_of_getElem? (i := 1) rfl) rfl rfl dX8_step_199 ?_
  exact g_iret (GG := GM cy ad) K hw (Option.some.inj hm).symm dX8_step_202
set_option maxRecDepth 100000 in
set_option maxHeartbeats 4000000 in
theorem t_X8_step_L63 (K : Cx p s m args meth c D A (tysC cy) RX8 cX8_step 7 (some .int) wsX8_step (fun _ _ => True)) (n : Nat) (x1 : Int32) (x2 : Int32) (x3 : Int32) (x4 : Int32) (x5 : Int32)  (z : MSt) (hE0 : ∀ w : MSt, z = w → ∀ (H : Heap) (locs : List Loc), Wd D A s.heap (GM cy ad w) H locs → ∀ ls : Array Slot, lv_has ls 7 [(0, .ref (ad 0 0)), (1, .int x1), (2, .int x2), (3, .int x3), (4, .int x4), (5, .int x5)] → W p l e rm_X8_step s m args below meth c H locs 0 0 Q (F0 m 100 ls [])) : ∀ (x : (MSt × Int32)), lpO (b_X8_step_63 n x1 x2 x3 x4 x5) n x = some z → (fun (x : (MSt × Int32)) => ∀ (H : Heap) (locs : List Loc), Wd D A s.heap (GM cy ad x.1) H locs → ∀ ls : Array Slot, lv_has ls 7 [(0, .ref (ad 0 0)), (1, .int x1), (2, .int x2), (3, .int x3), (4, .int x4), (5, .int x5), (6, .int x.2)] → W p l e rm_X8_step s m args below meth c H locs 0 0 Q (F0 m 63 ls [])) x := by
  intro x hx0
  refine lpO_ind2 (P := fun (x : (MSt × Int32)) => ∀ (H : Heap) (locs : List Loc), Wd D A s.heap (GM cy ad x.1) H locs → ∀ ls : Array Slot, lv_has ls 7 [(0, .ref (ad 0 0)), (1, .int x1), (2, .int x2), (3, .int x3), (4, .int x4), (5, .int x5), (6, .int x.2)] → W p l e rm_X8_step s m args below meth c H locs 0 0 Q (F0 m 63 ls [])) (z := z) ?_ n x hx0
  clear hx0 x
  intro x out hm hg H locs hw ls hl 
  obtain ⟨hx, hb, hml, hown, hts, hr, hlo, hK, hA, hX⟩ := id K
  unfold b_X8_step_63 at hm
  refine lv_iload hx hb dX8_step_63 (lv_at hl 6 rfl) ?_
  refine lv_aload_n hx hb dX8_step_65 rfl (lv_at hl 0 rfl) ?_
  refine g_get (ref := "MigrantHeapModel") (C := RX8) (T := TX8) (N := 44) (ci := 8) K in_X8_step_X8 hw 0 rfl (by decide : 0 < 1) rfl rfl 20 (by decide) (List.mem_of_getElem? (i := 4) rfl) rfl rfl dX8_step_66 ?_
  refine lv_icmp_ge (tgt := 100) hx hb dX8_step_69 (by decide) (fun c81 => ?_) (fun c81 => ?_)
  · replace hm := (if_pos c81).symm.trans hm
    obtain rfl := Option.some.inj hm
    exact hE0 _ hg.symm H locs hw ls (lv_sub hl [0, 1, 2, 3, 4, 5] rfl)
  · replace hm := (if_neg c81).symm.trans hm
    refine lv_aload_n hx hb dX8_step_72 rfl (lv_at hl 0 rfl) ?_
    refine g_get (ref := "MigrantHeapModel") (C := RX8) (T := TX8) (N := 44) (ci := 8) K in_X8_step_X8 hw 0 rfl (by decide : 0 < 1) rfl rfl 25 (by decide) (List.mem_of_getElem? (i := 5) rfl) rfl rfl dX8_step_73 ?_
    refine lv_bipush (v := 12) hx hb dX8_step_76 (by decide) ?_
    refine lv_aload_n hx hb dX8_step_78 rfl (lv_at hl 0 rfl) ?_
    refine g_get (ref := "MigrantHeapModel") (C := RX8) (T := TX8) (N := 44) (ci := 8) K in_X8_step_X8 hw 0 rfl (by decide : 0 < 1) rfl rfl 22 (by decide) (List.mem_of_getElem? (i := 1) rfl) rfl rfl dX8_step_79 ?_
    refine lv_imul hx hb dX8_step_82 ?_
    refine lv_iload hx hb dX8_step_83 (lv_at hl 6 rfl) ?_
    refine lv_iadd hx hb dX8_step_85 ?_
    refine lv_aload_n hx hb dX8_step_86 rfl (lv_at hl 0 rfl) ?_
    refine g_get (ref := "MigrantHeapModel") (C := RX8) (T := TX8) (N := 44) (ci := 8) K in_X8_step_X8 hw 0 rfl (by decide : 0 < 1) rfl rfl 21 (by decide) (List.mem_of_getElem? (i := 6) rfl) rfl rfl dX8_step_87 ?_
    refine lv_iload hx hb dX8_step_90 (lv_at hl 6 rfl) ?_
    obtain ⟨h82, hm⟩ := chkS hm
    refine g_iald K hw 19 0 rfl (by decide) rfl rfl h82 dX8_step_92 ?_
    obtain ⟨h83, hm⟩ := chkS hm
    refine g_iast K hw 22 0 rfl (by decide) rfl rfl h83 dX8_step_93 (eM_25 cy ad x.1 (((12 * (x.1.1 22 0)) + x.2).toNatClampNeg) (x.1.1 21 x.2.toNatClampNeg)) (fun H locs hw => ?_)
    obtain ⟨S84, hS84, hm⟩ := nm_ex hm
    rw [← hS84] at hw
    obtain ⟨x85, hx85, hm⟩ := nm_ex hm
    refine lv_iinc (v := x85) (lv' := [(6, .int x85), (0, .ref (ad 0 0)), (1, .int x1), (2, .int x2), (3, .int x3), (4, .int x4), (5, .int x5)]) hx hb dX8_step_94 hl (k := 6) rfl (by rw [hx85]; rfl) (by decide) rfl (fun ls hl => ?_)
    refine lv_goto (tgt := 63) hx hb dX8_step_97 (by decide) ?_
    obtain rfl := Option.some.inj hm
    exact hg H locs hw ls (lv_sub hl [1, 2, 3, 4, 5, 6, 0] rfl)
set_option maxRecDepth 100000 in
set_option maxHeartbeats 4000000 in
theorem t_X8_step_J33 (K : Cx p s m args meth c D A (tysC cy) RX8 cX8_step 7 (some .int) wsX8_step (fun _ _ => True)) (n : Nat) (S : MSt) (x1 : Int32) (x2 : Int32) (x3 : Int32) (x4 : Int32) (x5 : Int32) (y1 : Int32) {out : Int32 × MSt} (hm : m_X8_step_J33 n S x1 x2 x3 x4 x5 y1 = some out) : ∀ (H : Heap) (locs : List Loc), Wd D A s.heap (GM cy ad S) H locs → ∀ ls : Array Slot, lv_has ls 7 [(0, .ref (ad 0 0)), (1, .int x1), (2, .int x2), (3, .int x3), (4, .int x4), (5, .int x5)] → W p l e rm_X8_step s m args below meth c H locs 0 0 (MQ below (va_Qi (fun r (u : MSt) => out = (r, u)) (fun u => Pst D (tysC cy) A (GM cy ad u)) A) args s 0 0 A) (F0 m 33 ls [.int y1, .ref (ad 0 0)]) := by
  intro H locs hw ls hl 
  obtain ⟨hx, hb, hml, hown, hts, hr, hlo, hK, hA, hX⟩ := id K
  unfold m_X8_step_J33 at hm
  refine g_put (v := .int y1) (ty := .int) (ref := "MigrantHeapModel") (C := RX8) (T := TX8) (N := 44) (ci := 8) K in_X8_step_X8 tyX8 tyX8_ok nmX8 hw 0 rfl (by decide : 0 < 1) rfl rfl 0 (by decide) (List.mem_of_getElem? (i := 2) rfl) rfl rfl (by decide +kernel) rfl rfl (Nat.le_of_ble_eq_true rfl) dX8_step_33 (eM_0 cy ad S y1) (fun H locs hw => ?_)
  obtain ⟨S86, hS86, hm⟩ := nm_ex hm
  rw [← hS86] at hw
  refine lv_aload_n hx hb dX8_step_36 rfl (lv_at hl 0 rfl) ?_
  refine g_get (ref := "MigrantHeapModel") (C := RX8) (T := TX8) (N := 44) (ci := 8) K in_X8_step_X8 hw 0 rfl (by decide : 0 < 1) rfl rfl 0 (by decide) (List.mem_of_getElem? (i := 2) rfl) rfl rfl dX8_step_37 ?_
  refine lv_if_le (tgt := 45) hx hb dX8_step_40 (by decide) (fun c87 => ?_) (fun c87 => ?_)
  · replace hm := (if_pos c87).symm.trans hm
    refine lv_aload_n hx hb dX8_step_45 rfl (lv_at hl 0 rfl) ?_
    refine g_get (ref := "MigrantHeapModel") (C := RX8) (T := TX8) (N := 44) (ci := 8) K in_X8_step_X8 hw 0 rfl (by decide : 0 < 1) rfl rfl 24 (by decide) (List.mem_of_getElem? (i := 3) rfl) rfl rfl dX8_step_46 ?_
    refine lv_aload_n hx hb dX8_step_49 rfl (lv_at hl 0 rfl) ?_
    refine g_get (ref := "MigrantHeapModel") (C := RX8) (T := TX8) (N := 44) (ci := 8) K in_X8_step_X8 hw 0 rfl (by decide : 0 < 1) rfl rfl 22 (by decide) (List.mem_of_getElem? (i := 1) rfl) rfl rfl dX8_step_50 ?_
    refine lv_iconst (v := 0) hx hb dX8_step_53 (by decide) ?_
    obtain ⟨h88, hm⟩ := chkS hm
    refine g_iast K hw 21 0 rfl (by decide) rfl rfl h88 dX8_step_54 (eM_24 cy ad S86 ((S86.1 22 0).toNatClampNeg) 0) (fun H locs hw => ?_)
    obtain ⟨S89, hS89, hm⟩ := nm_ex hm
    rw [← hS89] at hw
    refine lv_iload_n hx hb dX8_step_55 rfl (lv_at hl 1 rfl) ?_
    refine lv_iconst (v := 2) hx hb dX8_step_56 (by decide) ?_
    refine lv_icmp_ne (tgt := 118) hx hb dX8_step_57 (by decide) (fun c90 => ?_) (fun c90 => ?_)
    · replace hm := (if_pos c90).symm.trans hm
      exact t_X8_step_J118 K n S89 x1 x2 x3 x4 x5 hm H locs hw ls (lv_sub hl [0, 1, 2, 3, 4, 5] rfl)
    · replace hm := (if_neg (fun h => h c90)).symm.trans hm
      refine lv_iconst (v := 0) hx hb dX8_step_60 (by decide) ?_
      refine lv_istore (lv' := [(6, .int 0), (0, .ref (ad 0 0)), (1, .int x1), (2, .int x2), (3, .int x3), (4, .int x4), (5, .int x5)]) hx hb dX8_step_61 hl (by decide) rfl (fun ls hl => ?_)
      obtain ⟨z91, hz92, hm⟩ := bindS hm
      refine t_X8_step_L63 K n x1 x2 x3 x4 x5 z91 (fun w93 hww93 => ?_) ((S89, 0)) hz92 H locs hw ls (lv_sub hl [1, 2, 3, 4, 5, 6, 0] rfl)
      · intro H locs hw ls hl 
        try rw [hww93] at hm
        refine lv_aload_n hx hb dX8_step_100 rfl (lv_at hl 0 rfl) ?_
        refine g_get (ref := "MigrantHeapModel") (C := RX8) (T := TX8) (N := 44) (ci := 8) K in_X8_step_X8 hw 0 rfl (by decide : 0 < 1) rfl rfl 24 (by decide) (List.mem_of_getElem? (i := 3) rfl) rfl rfl dX8_step_101 ?_
        refine lv_aload_n hx hb dX8_step_104 rfl (lv_at hl 0 rfl) ?_
        refine g_get (ref := "MigrantHeapModel") (C := RX8) (T := TX8) (N := 44) (ci := 8) K in_X8_step_X8 hw 0 rfl (by decide : 0 < 1) rfl rfl 22 (by decide) (List.mem_of_getElem? (i := 1) rfl) rfl rfl dX8_step_105 ?_
        refine lv_aload_n hx hb dX8_step_108 rfl (lv_at hl 0 rfl) ?_
        refine g_get (ref := "MigrantHeapModel") (C := RX8) (T := TX8) (N := 44) (ci := 8) K in_X8_step_X8 hw 0 rfl (by decide : 0 < 1) rfl rfl 20 (by decide) (List.mem_of_getElem? (i := 4) rfl) rfl rfl dX8_step_109 ?_
        obtain ⟨h94, hm⟩ := chkS hm
        refine g_iast K hw 21 0 rfl (by decide) rfl rfl h94 dX8_step_112 (eM_24 cy ad w93 ((w93.1 22 0).toNatClampNeg) (w93.1 20 0)) (fun H locs hw => ?_)
        obtain ⟨S95, hS95, hm⟩ := nm_ex hm
        rw [← hS95] at hw
        refine lv_aload_n hx hb dX8_step_113 rfl (lv_at hl 0 rfl) ?_
        refine lv_iconst (v := 0) hx hb dX8_step_114 (by decide) ?_
        refine g_put (v := .int 0) (ty := .int) (ref := "MigrantHeapModel") (C := RX8) (T := TX8) (N := 44) (ci := 8) K in_X8_step_X8 tyX8 tyX8_ok nmX8 hw 0 rfl (by decide : 0 < 1) rfl rfl 20 (by decide) (List.mem_of_getElem? (i := 4) rfl) rfl rfl (by decide +kernel) rfl rfl (Nat.le_of_ble_eq_true rfl) dX8_step_115 (eM_20 cy ad S95 0) (fun H locs hw => ?_)
        obtain ⟨S96, hS96, hm⟩ := nm_ex hm
        rw [← hS96] at hw
        exact t_X8_step_J118 K n S96 x1 x2 x3 x4 x5 hm H locs hw ls (lv_sub hl [0, 1, 2, 3, 4, 5] rfl)
  · replace hm := (if_neg c87).symm.trans hm
    refine lv_iconst (v := 0) hx hb dX8_step_43 (by decide) ?_
    exact g_iret (GG := GM cy ad) K hw (Option.some.inj hm).symm dX8_step_44
set_option maxRecDepth 100000 in
set_option maxHeartbeats 4000000 in
theorem t_X8_step_0 (K : Cx p s m args meth c D A (tysC cy) RX8 cX8_step 7 (some .int) wsX8_step (fun _ _ => True)) (n : Nat) (S : MSt) (x1 : Int32) (x2 : Int32) (x3 : Int32) (x4 : Int32) (x5 : Int32)  {out : Int32 × MSt} (hm : m_X8_step n S x1 x2 x3 x4 x5 = some out) : ∀ (H : Heap) (locs : List Loc), Wd D A s.heap (GM cy ad S) H locs → ∀ ls : Array Slot, lv_has ls 7 [(0, .ref (ad 0 0)), (1, .int x1), (2, .int x2), (3, .int x3), (4, .int x4), (5, .int x5)] → W p l e rm_X8_step s m args below meth c H locs 0 0 (MQ below (va_Qi (fun r (u : MSt) => out = (r, u)) (fun u => Pst D (tysC cy) A (GM cy ad u)) A) args s 0 0 A) (F0 m 0 ls []) := by
  intro H locs hw ls hl
  obtain ⟨hx, hb, hml, hown, hts, hr, hlo, hK, hA, hX⟩ := id K
  unfold m_X8_step at hm
  refine lv_aload_n hx hb dX8_step_0 rfl (lv_at hl 0 rfl) ?_
  refine lv_aload_n hx hb dX8_step_1 rfl (lv_at hl 0 rfl) ?_
  refine lv_iload_n hx hb dX8_step_2 rfl (lv_at hl 1 rfl) ?_
  refine lv_iload_n hx hb dX8_step_3 rfl (lv_at hl 2 rfl) ?_
  refine lv_iload_n hx hb dX8_step_4 rfl (lv_at hl 3 rfl) ?_
  refine lv_iload hx hb dX8_step_5 (lv_at hl 4 rfl) ?_
  refine lv_iload hx hb dX8_step_7 (lv_at hl 5 rfl) ?_
  obtain ⟨z98, hc97, hm⟩ := bindS hm
  refine g_calli (GG := GM cy ad) K hw (va_runV (As := [.int x1, .int x2, .int x3, .int x4, .int x5]) (rest := [.ref (ad 0 0)]) (g_fix K) (c_X8_isStep l D cy ad H.size n S x1 x2 x3 x4 x5  hc97) (cwV 5 (g_hts K) gX8_step_X8_isStep rfl rfl rfl (by decide +kernel) ⟨Nat.le_of_ble_eq_true rfl, Nat.le_of_ble_eq_true rfl⟩) ⟨g_blind rides_none, g_recv K hw 0 rfl (by decide : 0 < 1) rfl rfl, g_pre (X2 := fun _ _ => True) K hw (fun _ _ _ => trivial)⟩ rfl rfl hl.1 rfl (lv_room (Nat.le_of_ble_eq_true rfl)) dX8_step_9 ⟨Nat.le_of_ble_eq_true rfl, Nat.le_of_ble_eq_true rfl⟩) (fun r u H locs hp hw => ?_)
  obtain ⟨rfl, hu⟩ := hp
  rw [hu] at hw
  refine lv_if_ne (tgt := 19) hx hb dX8_step_12 (by decide) (fun c99 => ?_) (fun c99 => ?_)
  · replace hm := (if_pos c99).symm.trans hm
    refine lv_aload_n hx hb dX8_step_19 rfl (lv_at hl 0 rfl) ?_
    refine g_get (ref := "MigrantHeapModel") (C := RX8) (T := TX8) (N := 44) (ci := 8) K in_X8_step_X8 hw 0 rfl (by decide : 0 < 1) rfl rfl 22 (by decide) (List.mem_of_getElem? (i := 1) rfl) rfl rfl dX8_step_20 ?_
    refine lv_bipush (v := 6) hx hb dX8_step_23 (by decide) ?_
    refine lv_icmp_ne (tgt := 32) hx hb dX8_step_25 (by decide) (fun c100 => ?_) (fun c100 => ?_)
    · replace hm := (if_pos c100).symm.trans hm
      refine lv_iconst (v := 0) hx hb dX8_step_32 (by decide) ?_
      exact t_X8_step_J33 K n S x1 x2 x3 x4 x5 0 hm H locs hw ls (lv_sub hl [0, 1, 2, 3, 4, 5] rfl)
    · replace hm := (if_neg (fun h => h c100)).symm.trans hm
      refine lv_iconst (v := 2) hx hb dX8_step_28 (by decide) ?_
      refine lv_goto (tgt := 33) hx hb dX8_step_29 (by decide) ?_
      exact t_X8_step_J33 K n S x1 x2 x3 x4 x5 2 hm H locs hw ls (lv_sub hl [0, 1, 2, 3, 4, 5] rfl)
  · replace hm := (if_neg (fun h => h c99)).symm.trans hm
    refine lv_iconst (v := 1) hx hb dX8_step_15 (by decide) ?_
    refine lv_goto (tgt := 33) hx hb dX8_step_16 (by decide) ?_
    exact t_X8_step_J33 K n S x1 x2 x3 x4 x5 1 hm H locs hw ls (lv_sub hl [0, 1, 2, 3, 4, 5] rfl)
set_option maxRecDepth 100000 in
set_option maxHeartbeats 4000000 in
theorem c_X8_step (l : Launch) (D : va_G) (cy : Nat → ClassId) (ad : Nat → Nat → Nat) (sz n : Nat) (S : MSt) (x1 : Int32) (x2 : Int32) (x3 : Int32) (x4 : Int32) (x5 : Int32)  {out : Int32 × MSt} (hm : m_X8_step n S x1 x2 x3 x4 x5 = some out) : Met l yX8_step wsX8_step rm_X8_step (va_Pc [.ref (ad 0 0), .int x1, .int x2, .int x3, .int x4, .int x5] (Pre D (tysC cy) (GM cy ad S) (fun _ _ => True) sz)) (va_Qi (fun r (u : MSt) => out = (r, u)) (fun u => Pst D (tysC cy) (AA (adrs (GM cy ad S)) sz) (GM cy ad u)) (AA (adrs (GM cy ad S)) sz)) 0 0 (AA (adrs (GM cy ad S)) sz) := by
  refine g_met (by decide) rfl (Nat.le_of_ble_eq_true rfl) ?_
  intro p e s m args below meth c K hw ls hl
  exact t_X8_step_0 (cy := cy) K n S x1 x2 x3 x4 x5  hm _ _ hw ls hl
end W_X8_step
section W_X8_reckon
variable {p : Program} {l : Launch} {e : Env} {s : State} {m : MethodId} {args : Array Value} {below : List Frame} {meth : Method} {c : Code} {D : va_G} {A : Nat → Prop} {cy : Nat → ClassId} {ad : Nat → Nat → Nat} {Q : State → Prop}
abbrev rm_X8_reckon : Room := { frames := 0, cells := 0, slots := 0, locals := 0 }
set_option maxRecDepth 100000 in
set_option maxHeartbeats 4000000 in
theorem t_X8_reckon_0 (K : Cx p s m args meth c D A (tysC cy) RX8 cX8_reckon 5 (some .long) wsX8_reckon (fun _ _ => True)) (n : Nat) (S : MSt) (x0 : Int32) (x1 : Int64) (x3 : Int64)  {out : Int64} (hm : m_X8_reckon n S x0 x1 x3 = some out) : ∀ (H : Heap) (locs : List Loc), Wd D A s.heap (GM cy ad S) H locs → ∀ ls : Array Slot, lv_has ls 5 [(0, .int x0), (1, .long x1), (3, .long x3)] → W p l e rm_X8_reckon s m args below meth c H locs 0 0 (MQ below (va_Ql (fun r (u : MSt) => out = r ∧ u = S) (fun u => Pst D (tysC cy) A (GM cy ad u)) A) args s 0 0 A) (F0 m 0 ls []) := by
  intro H locs hw ls hl
  obtain ⟨hx, hb, hml, hown, hts, hr, hlo, hK, hA, hX⟩ := id K
  unfold m_X8_reckon at hm
  refine lv_iload_n hx hb dX8_reckon_0 rfl (lv_at hl 0 rfl) ?_
  by_cases c1 : x0 = 10
  · replace hm := (if_pos c1).symm.trans hm
    refine lv_tableIn (off := 35) (tgt := 36) hx hb dX8_reckon_1 (by rw [c1]; decide) (by rw [c1]; decide) (by rw [c1]; rfl) (by decide) ?_
    refine lv_lload_n hx hb dX8_reckon_36 rfl (lv_at hl 1 rfl) ?_
    refine lv_lload_n hx hb dX8_reckon_37 rfl (lv_at hl 2 rfl) ?_
    refine lv_ladd hx hb dX8_reckon_38 ?_
    exact g_lret (GG := GM cy ad) K hw ⟨(Option.some.inj hm).symm, rfl⟩ dX8_reckon_39
  · replace hm := (if_neg c1).symm.trans hm
    by_cases c2 : x0 = 11
    · replace hm := (if_pos c2).symm.trans hm
      refine lv_tableIn (off := 39) (tgt := 40) hx hb dX8_reckon_1 (by rw [c2]; decide) (by rw [c2]; decide) (by rw [c2]; rfl) (by decide) ?_
      refine lv_lload_n hx hb dX8_reckon_40 rfl (lv_at hl 1 rfl) ?_
      refine lv_lload_n hx hb dX8_reckon_41 rfl (lv_at hl 2 rfl) ?_
      refine lv_lsub hx hb dX8_reckon_42 ?_
      exact g_lret (GG := GM cy ad) K hw ⟨(Option.some.inj hm).symm, rfl⟩ dX8_reckon_43
    · replace hm := (if_neg c2).symm.trans hm
      by_cases c3 : x0 = 12
      · replace hm := (if_pos c3).symm.trans hm
        refine lv_tableIn (off := 43) (tgt := 44) hx hb dX8_reckon_1 (by rw [c3]; decide) (by rw [c3]; decide) (by rw [c3]; rfl) (by decide) ?_
        refine lv_lload_n hx hb dX8_reckon_44 rfl (lv_at hl 1 rfl) ?_
        refine lv_lload_n hx hb dX8_reckon_45 rfl (lv_at hl 2 rfl) ?_
        refine lv_lmul hx hb dX8_reckon_46 ?_
        exact g_lret (GG := GM cy ad) K hw ⟨(Option.some.inj hm).symm, rfl⟩ dX8_reckon_47
      · replace hm := (if_neg c3).symm.trans hm
        by_cases c4 : x0 = 13
        · replace hm := (if_pos c4).symm.trans hm
          refine lv_tableIn (off := 47) (tgt := 48) hx hb dX8_reckon_1 (by rw [c4]; decide) (by rw [c4]; decide) (by rw [c4]; rfl) (by decide) ?_
          refine lv_lload_n hx hb dX8_reckon_48 rfl (lv_at hl 1 rfl) ?_
          refine lv_lload_n hx hb dX8_reckon_49 rfl (lv_at hl 2 rfl) ?_
          obtain ⟨h5, hm⟩ := chkS hm
          refine lv_ldiv hx hb dX8_reckon_50 (of_decide_eq_true h5) ?_
          exact g_lret (GG := GM cy ad) K hw ⟨(Option.some.inj hm).symm, rfl⟩ dX8_reckon_51
        · replace hm := (if_neg c4).symm.trans hm
          by_cases c6 : x0 = 14
          · replace hm := (if_pos c6).symm.trans hm
            refine lv_tableIn (off := 51) (tgt := 52) hx hb dX8_reckon_1 (by rw [c6]; decide) (by rw [c6]; decide) (by rw [c6]; rfl) (by decide) ?_
            refine lv_lload_n hx hb dX8_reckon_52 rfl (lv_at hl 1 rfl) ?_
            refine lv_lload_n hx hb dX8_reckon_53 rfl (lv_at hl 2 rfl) ?_
            refine W.lcmp hx hb dX8_reckon_54 ?_
            refine lv_if_ge (tgt := 62) hx hb dX8_reckon_55 (by decide) (fun c7 => ?_) (fun c7 => ?_)
            · replace hm := (if_pos c7).symm.trans hm
              refine lv_lload_n hx hb dX8_reckon_62 rfl (lv_at hl 2 rfl) ?_
              exact g_lret (GG := GM cy ad) K hw ⟨(Option.some.inj hm).symm, rfl⟩ dX8_reckon_63
            · replace hm := (if_neg c7).symm.trans hm
              refine lv_lload_n hx hb dX8_reckon_58 rfl (lv_at hl 1 rfl) ?_
              refine lv_goto (tgt := 63) hx hb dX8_reckon_59 (by decide) ?_
              exact g_lret (GG := GM cy ad) K hw ⟨(Option.some.inj hm).symm, rfl⟩ dX8_reckon_63
          · replace hm := (if_neg c6).symm.trans hm
            have hsw9 : Int32.toInt x0 < 10 ∨ 14 < Int32.toInt x0 := by
              refine sw_out (fun k h1 h2 => ?_)
              rcases (show k = 10 ∨ k = 11 ∨ k = 12 ∨ k = 13 ∨ k = 14 by omega) with rfl | rfl | rfl | rfl | rfl
              · exact c1
              · exact c2
              · exact c3
              · exact c4
              · exact c6
            refine lv_tableOut (tgt := 64) hx hb dX8_reckon_1 hsw9 (by decide) ?_
            refine lv_lload_n hx hb dX8_reckon_64 rfl (lv_at hl 1 rfl) ?_
            refine lv_lload_n hx hb dX8_reckon_65 rfl (lv_at hl 2 rfl) ?_
            refine W.lcmp hx hb dX8_reckon_66 ?_
            refine lv_if_le (tgt := 74) hx hb dX8_reckon_67 (by decide) (fun c8 => ?_) (fun c8 => ?_)
            · replace hm := (if_pos c8).symm.trans hm
              refine lv_lload_n hx hb dX8_reckon_74 rfl (lv_at hl 2 rfl) ?_
              exact g_lret (GG := GM cy ad) K hw ⟨(Option.some.inj hm).symm, rfl⟩ dX8_reckon_75
            · replace hm := (if_neg c8).symm.trans hm
              refine lv_lload_n hx hb dX8_reckon_70 rfl (lv_at hl 1 rfl) ?_
              refine lv_goto (tgt := 75) hx hb dX8_reckon_71 (by decide) ?_
              exact g_lret (GG := GM cy ad) K hw ⟨(Option.some.inj hm).symm, rfl⟩ dX8_reckon_75
set_option maxRecDepth 100000 in
set_option maxHeartbeats 4000000 in
theorem c_X8_reckon (l : Launch) (D : va_G) (cy : Nat → ClassId) (ad : Nat → Nat → Nat) (sz n : Nat) (S : MSt) (x0 : Int32) (x1 : Int64) (x3 : Int64)  {out : Int64} (hm : m_X8_reckon n S x0 x1 x3 = some out) : Met l yX8_reckon wsX8_reckon rm_X8_reckon (va_Pc [.int x0, .long x1, .long x3] (Pre D (tysC cy) (GM cy ad S) (fun _ _ => True) sz)) (va_Ql (fun r (u : MSt) => out = r ∧ u = S) (fun u => Pst D (tysC cy) (AA (adrs (GM cy ad S)) sz) (GM cy ad u)) (AA (adrs (GM cy ad S)) sz)) 0 0 (AA (adrs (GM cy ad S)) sz) := by
  refine g_met (by decide) rfl (Nat.le_of_ble_eq_true rfl) ?_
  intro p e s m args below meth c K hw ls hl
  exact t_X8_reckon_0 (cy := cy) K n S x0 x1 x3  hm _ _ hw ls hl
end W_X8_reckon
section W_X8_size
variable {p : Program} {l : Launch} {e : Env} {s : State} {m : MethodId} {args : Array Value} {below : List Frame} {meth : Method} {c : Code} {D : va_G} {A : Nat → Prop} {cy : Nat → ClassId} {ad : Nat → Nat → Nat} {Q : State → Prop}
abbrev rm_X8_size : Room := { frames := 0, cells := 0, slots := 0, locals := 0 }
set_option maxRecDepth 100000 in
set_option maxHeartbeats 4000000 in
theorem t_X8_size_0 (K : Cx p s m args meth c D A (tysC cy) RX8 cX8_size 2 (some .long) wsX8_size (fun _ _ => True)) (n : Nat) (S : MSt) (x0 : Int64)  {out : Int64} (hm : m_X8_size n S x0 = some out) : ∀ (H : Heap) (locs : List Loc), Wd D A s.heap (GM cy ad S) H locs → ∀ ls : Array Slot, lv_has ls 2 [(0, .long x0)] → W p l e rm_X8_size s m args below meth c H locs 0 0 (MQ below (va_Ql (fun r (u : MSt) => out = r ∧ u = S) (fun u => Pst D (tysC cy) A (GM cy ad u)) A) args s 0 0 A) (F0 m 0 ls []) := by
  intro H locs hw ls hl
  obtain ⟨hx, hb, hml, hown, hts, hr, hlo, hK, hA, hX⟩ := id K
  unfold m_X8_size at hm
  refine lv_lload_n hx hb dX8_size_0 rfl (lv_at hl 0 rfl) ?_
  refine lv_lconst (v := 0) hx hb dX8_size_1 (by decide) ?_
  refine W.lcmp hx hb dX8_size_2 ?_
  refine lv_if_ge (tgt := 11) hx hb dX8_size_3 (by decide) (fun c1 => ?_) (fun c1 => ?_)
  · replace hm := (if_pos c1).symm.trans hm
    refine lv_lload_n hx hb dX8_size_11 rfl (lv_at hl 0 rfl) ?_
    exact g_lret (GG := GM cy ad) K hw ⟨(Option.some.inj hm).symm, rfl⟩ dX8_size_12
  · replace hm := (if_neg c1).symm.trans hm
    refine lv_lload_n hx hb dX8_size_6 rfl (lv_at hl 0 rfl) ?_
    refine lv_lneg hx hb dX8_size_7 ?_
    refine lv_goto (tgt := 12) hx hb dX8_size_8 (by decide) ?_
    exact g_lret (GG := GM cy ad) K hw ⟨(Option.some.inj hm).symm, rfl⟩ dX8_size_12
set_option maxRecDepth 100000 in
set_option maxHeartbeats 4000000 in
theorem c_X8_size (l : Launch) (D : va_G) (cy : Nat → ClassId) (ad : Nat → Nat → Nat) (sz n : Nat) (S : MSt) (x0 : Int64)  {out : Int64} (hm : m_X8_size n S x0 = some out) : Met l yX8_size wsX8_size rm_X8_size (va_Pc [.long x0] (Pre D (tysC cy) (GM cy ad S) (fun _ _ => True) sz)) (va_Ql (fun r (u : MSt) => out = r ∧ u = S) (fun u => Pst D (tysC cy) (AA (adrs (GM cy ad S)) sz) (GM cy ad u)) (AA (adrs (GM cy ad S)) sz)) 0 0 (AA (adrs (GM cy ad S)) sz) := by
  refine g_met (by decide) rfl (Nat.le_of_ble_eq_true rfl) ?_
  intro p e s m args below meth c K hw ls hl
  exact t_X8_size_0 (cy := cy) K n S x0  hm _ _ hw ls hl
end W_X8_size
section W_X8_isFar
variable {p : Program} {l : Launch} {e : Env} {s : State} {m : MethodId} {args : Array Value} {below : List Frame} {meth : Method} {c : Code} {D : va_G} {A : Nat → Prop} {cy : Nat → ClassId} {ad : Nat → Nat → Nat} {Q : State → Prop}
abbrev rm_X8_isFar : Room := { frames := 1, cells := 0, slots := 0, locals := 21 }
set_option maxRecDepth 100000 in
set_option maxHeartbeats 4000000 in
theorem t_X8_isFar_0 (K : Cx p s m args meth c D A (tysC cy) RX8 cX8_isFar 4 (some .boolean) wsX8_isFar (fun _ _ => True)) (n : Nat) (S : MSt) (x0 : Int64) (x2 : Int64)  {out : Int32} (hm : m_X8_isFar n S x0 x2 = some out) : ∀ (H : Heap) (locs : List Loc), Wd D A s.heap (GM cy ad S) H locs → ∀ ls : Array Slot, lv_has ls 4 [(0, .long x0), (2, .long x2)] → W p l e rm_X8_isFar s m args below meth c H locs 0 0 (MQ below (va_Qi (fun r (u : MSt) => out = r ∧ u = S) (fun u => Pst D (tysC cy) A (GM cy ad u)) A) args s 0 0 A) (F0 m 0 ls []) := by
  intro H locs hw ls hl
  obtain ⟨hx, hb, hml, hown, hts, hr, hlo, hK, hA, hX⟩ := id K
  unfold m_X8_isFar at hm
  refine lv_lload_n hx hb dX8_isFar_0 rfl (lv_at hl 0 rfl) ?_
  refine lv_lconst (v := 0) hx hb dX8_isFar_1 (by decide) ?_
  refine W.lcmp hx hb dX8_isFar_2 ?_
  refine lv_if_eq (tgt := 26) hx hb dX8_isFar_3 (by decide) (fun c9 => ?_) (fun c9 => ?_)
  · replace hm := (if_pos c9).symm.trans hm
    refine lv_iconst (v := 0) hx hb dX8_isFar_26 (by decide) ?_
    exact g_zret (GG := GM cy ad) K hw rfl ⟨(Option.some.inj hm).symm, rfl⟩ dX8_isFar_27
  · replace hm := (if_neg c9).symm.trans hm
    refine lv_lload_n hx hb dX8_isFar_6 rfl (lv_at hl 1 rfl) ?_
    obtain ⟨z11, hc10, hm⟩ := bindS hm
    refine g_calll (GG := GM cy ad) K hw (va_runS (As := [.long x2]) (rest := []) (g_fix K) (c_X8_size l D cy ad H.size n S x2  hc10) (va_cwS 1 (g_hts K) gX8_isFar_X8_size rfl rfl rfl (by decide +kernel) ⟨Nat.le_of_ble_eq_true rfl, Nat.le_of_ble_eq_true rfl⟩) ⟨g_blind rides_none, g_pre (X2 := fun _ _ => True) K hw (fun _ _ _ => trivial)⟩ rfl rfl hl.1 rfl (lv_room (Nat.le_of_ble_eq_true rfl)) dX8_isFar_7 ⟨Nat.le_of_ble_eq_true rfl, Nat.le_of_ble_eq_true rfl⟩) (fun r u H locs hp hw => ?_)
    obtain ⟨rfl, hu⟩ := hp
    rw [hu] at hw
    refine lv_ldc2 (v := 1000000000000) hx hb hown (hts _ (List.mem_of_getElem? (i := 1) rfl)) dX8_isFar_10 ?_
    refine lv_lload_n hx hb dX8_isFar_13 rfl (lv_at hl 0 rfl) ?_
    obtain ⟨z13, hc12, hm⟩ := bindS hm
    refine g_calll (GG := GM cy ad) K hw (va_runS (As := [.long x0]) (rest := [.long 1000000000000, .long z11]) (g_fix K) (c_X8_size l D cy ad H.size n S x0  hc12) (va_cwS 1 (g_hts K) gX8_isFar_X8_size rfl rfl rfl (by decide +kernel) ⟨Nat.le_of_ble_eq_true rfl, Nat.le_of_ble_eq_true rfl⟩) ⟨g_blind rides_none, g_pre (X2 := fun _ _ => True) K hw (fun _ _ _ => trivial)⟩ rfl rfl hl.1 rfl (lv_room (Nat.le_of_ble_eq_true rfl)) dX8_isFar_14 ⟨Nat.le_of_ble_eq_true rfl, Nat.le_of_ble_eq_true rfl⟩) (fun r u H locs hp hw => ?_)
    obtain ⟨rfl, hu⟩ := hp
    rw [hu] at hw
    obtain ⟨h14, hm⟩ := chkS hm
    refine lv_ldiv hx hb dX8_isFar_17 (of_decide_eq_true h14) ?_
    refine W.lcmp hx hb dX8_isFar_18 ?_
    refine lv_if_le (tgt := 26) hx hb dX8_isFar_19 (by decide) (fun c15 => ?_) (fun c15 => ?_)
    · replace hm := (if_pos c15).symm.trans hm
      refine lv_iconst (v := 0) hx hb dX8_isFar_26 (by decide) ?_
      exact g_zret (GG := GM cy ad) K hw rfl ⟨(Option.some.inj hm).symm, rfl⟩ dX8_isFar_27
    · replace hm := (if_neg c15).symm.trans hm
      refine lv_iconst (v := 1) hx hb dX8_isFar_22 (by decide) ?_
      refine lv_goto (tgt := 27) hx hb dX8_isFar_23 (by decide) ?_
      exact g_zret (GG := GM cy ad) K hw rfl ⟨(Option.some.inj hm).symm, rfl⟩ dX8_isFar_27
set_option maxRecDepth 100000 in
set_option maxHeartbeats 4000000 in
theorem c_X8_isFar (l : Launch) (D : va_G) (cy : Nat → ClassId) (ad : Nat → Nat → Nat) (sz n : Nat) (S : MSt) (x0 : Int64) (x2 : Int64)  {out : Int32} (hm : m_X8_isFar n S x0 x2 = some out) : Met l yX8_isFar wsX8_isFar rm_X8_isFar (va_Pc [.long x0, .long x2] (Pre D (tysC cy) (GM cy ad S) (fun _ _ => True) sz)) (va_Qi (fun r (u : MSt) => out = r ∧ u = S) (fun u => Pst D (tysC cy) (AA (adrs (GM cy ad S)) sz) (GM cy ad u)) (AA (adrs (GM cy ad S)) sz)) 0 0 (AA (adrs (GM cy ad S)) sz) := by
  refine g_met (by decide) rfl (Nat.le_of_ble_eq_true rfl) ?_
  intro p e s m args below meth c K hw ls hl
  exact t_X8_isFar_0 (cy := cy) K n S x0 x2  hm _ _ hw ls hl
end W_X8_isFar
section W_X8_pair
variable {p : Program} {l : Launch} {e : Env} {s : State} {m : MethodId} {args : Array Value} {below : List Frame} {meth : Method} {c : Code} {D : va_G} {A : Nat → Prop} {cy : Nat → ClassId} {ad : Nat → Nat → Nat} {Q : State → Prop}
abbrev rm_X8_pair : Room := { frames := 2, cells := 0, slots := 0, locals := 44 }
theorem in_X8_pair_X8 : ∀ w ∈ u_ws RX8 TX8 44, w ∈ wsX8_pair := by decide +kernel
set_option maxRecDepth 100000 in
set_option maxHeartbeats 4000000 in
theorem t_X8_pair_J133 (K : Cx p s m args meth c D A (tysC cy) RX8 cX8_pair 20 (some .boolean) wsX8_pair (fun _ _ => True)) (n : Nat) (S : MSt) (x1 : Int32) (x2 : Int64) (x4 : Int64) (x6 : Int64) (x8 : Int64) (x10 : Int32) (y0 : Int32) {out : Int32 × MSt} (hm : m_X8_pair_J133 n S x1 x2 x4 x6 x8 x10 y0 = some out) : ∀ (H : Heap) (locs : List Loc), Wd D A s.heap (GM cy ad S) H locs → ∀ ls : Array Slot, lv_has ls 20 [(0, .ref (ad 0 0)), (1, .int x1), (2, .long x2), (4, .long x4), (6, .long x6), (8, .long x8), (10, .int x10)] → W p l e rm_X8_pair s m args below meth c H locs 0 0 (MQ below (va_Qi (fun r (u : MSt) => out = (r, u)) (fun u => Pst D (tysC cy) A (GM cy ad u)) A) args s 0 0 A) (F0 m 133 ls [.int y0]) := by
  intro H locs hw ls hl 
  obtain ⟨hx, hb, hml, hown, hts, hr, hlo, hK, hA, hX⟩ := id K
  unfold m_X8_pair_J133 at hm
  refine lv_istore (lv' := [(11, .int y0), (0, .ref (ad 0 0)), (1, .int x1), (2, .long x2), (4, .long x4), (6, .long x6), (8, .long x8), (10, .int x10)]) hx hb dX8_pair_133 hl (by decide) rfl (fun ls hl => ?_)
  refine lv_iload hx hb dX8_pair_135 (lv_at hl 7 rfl) ?_
  refine lv_if_ne (tgt := 145) hx hb dX8_pair_137 (by decide) (fun c127 => ?_) (fun c127 => ?_)
  · replace hm := (if_pos c127).symm.trans hm
    refine lv_iconst (v := 0) hx hb dX8_pair_145 (by decide) ?_
    exact g_zret (GG := GM cy ad) K hw rfl (Option.some.inj hm).symm dX8_pair_146
  · replace hm := (if_neg (fun h => h c127)).symm.trans hm
    refine lv_iload hx hb dX8_pair_140 (lv_at hl 0 rfl) ?_
    refine lv_if_eq (tgt := 147) hx hb dX8_pair_142 (by decide) (fun c128 => ?_) (fun c128 => ?_)
    · replace hm := (if_pos c128).symm.trans hm
      refine lv_iload_n hx hb dX8_pair_147 rfl (lv_at hl 2 rfl) ?_
      refine lv_lload_n hx hb dX8_pair_148 rfl (lv_at hl 3 rfl) ?_
      refine lv_lload hx hb dX8_pair_149 (lv_at hl 5 rfl) ?_
      obtain ⟨z130, hc129, hm⟩ := bindS hm
      refine g_calll (GG := GM cy ad) K hw (va_runS (As := [.int x1, .long x2, .long x6]) (rest := []) (g_fix K) (c_X8_reckon l D cy ad H.size n S x1 x2 x6  hc129) (va_cwS 3 (g_hts K) gX8_pair_X8_reckon rfl rfl rfl (by decide +kernel) ⟨Nat.le_of_ble_eq_true rfl, Nat.le_of_ble_eq_true rfl⟩) ⟨g_blind rides_none, g_pre (X2 := fun _ _ => True) K hw (fun _ _ _ => trivial)⟩ rfl rfl hl.1 rfl (lv_room (Nat.le_of_ble_eq_true rfl)) dX8_pair_151 ⟨Nat.le_of_ble_eq_true rfl, Nat.le_of_ble_eq_true rfl⟩) (fun r u H locs hp hw => ?_)
      obtain ⟨rfl, hu⟩ := hp
      rw [hu] at hw
      refine lv_lstore (lv' := [(12, .long z130), (11, .int y0), (0, .ref (ad 0 0)), (1, .int x1), (2, .long x2), (4, .long x4), (6, .long x6), (8, .long x8), (10, .int x10)]) hx hb dX8_pair_154 hl (by decide) rfl (fun ls hl => ?_)
      refine lv_iload_n hx hb dX8_pair_156 rfl (lv_at hl 3 rfl) ?_
      refine lv_lload_n hx hb dX8_pair_157 rfl (lv_at hl 4 rfl) ?_
      refine lv_lload hx hb dX8_pair_158 (lv_at hl 7 rfl) ?_
      obtain ⟨z132, hc131, hm⟩ := bindS hm
      refine g_calll (GG := GM cy ad) K hw (va_runS (As := [.int x1, .long x2, .long x8]) (rest := []) (g_fix K) (c_X8_reckon l D cy ad H.size n S x1 x2 x8  hc131) (va_cwS 3 (g_hts K) gX8_pair_X8_reckon rfl rfl rfl (by decide +kernel) ⟨Nat.le_of_ble_eq_true rfl, Nat.le_of_ble_eq_true rfl⟩) ⟨g_blind rides_none, g_pre (X2 := fun _ _ => True) K hw (fun _ _ _ => trivial)⟩ rfl rfl hl.1 rfl (lv_room (Nat.le_of_ble_eq_true rfl)) dX8_pair_160 ⟨Nat.le_of_ble_eq_true rfl, Nat.le_of_ble_eq_true rfl⟩) (fun r u H locs hp hw => ?_)
      obtain ⟨rfl, hu⟩ := hp
      rw [hu] at hw
      refine lv_lstore (lv' := [(14, .long z132), (12, .long z130), (11, .int y0), (0, .ref (ad 0 0)), (1, .int x1), (2, .long x2), (4, .long x4), (6, .long x6), (8, .long x8), (10, .int x10)]) hx hb dX8_pair_163 hl (by decide) rfl (fun ls hl => ?_)
      refine lv_iload_n hx hb dX8_pair_165 rfl (lv_at hl 4 rfl) ?_
      refine lv_lload hx hb dX8_pair_166 (lv_at hl 6 rfl) ?_
      refine lv_lload hx hb dX8_pair_168 (lv_at hl 7 rfl) ?_
      obtain ⟨z134, hc133, hm⟩ := bindS hm
      refine g_calll (GG := GM cy ad) K hw (va_runS (As := [.int x1, .long x4, .long x6]) (rest := []) (g_fix K) (c_X8_reckon l D cy ad H.size n S x1 x4 x6  hc133) (va_cwS 3 (g_hts K) gX8_pair_X8_reckon rfl rfl rfl (by decide +kernel) ⟨Nat.le_of_ble_eq_true rfl, Nat.le_of_ble_eq_true rfl⟩) ⟨g_blind rides_none, g_pre (X2 := fun _ _ => True) K hw (fun _ _ _ => trivial)⟩ rfl rfl hl.1 rfl (lv_room (Nat.le_of_ble_eq_true rfl)) dX8_pair_170 ⟨Nat.le_of_ble_eq_true rfl, Nat.le_of_ble_eq_true rfl⟩) (fun r u H locs hp hw => ?_)
      obtain ⟨rfl, hu⟩ := hp
      rw [hu] at hw
      refine lv_lstore (lv' := [(16, .long z134), (14, .long z132), (12, .long z130), (11, .int y0), (0, .ref (ad 0 0)), (1, .int x1), (2, .long x2), (4, .long x4), (6, .long x6), (8, .long x8), (10, .int x10)]) hx hb dX8_pair_173 hl (by decide) rfl (fun ls hl => ?_)
      refine lv_iload_n hx hb dX8_pair_175 rfl (lv_at hl 5 rfl) ?_
      refine lv_lload hx hb dX8_pair_176 (lv_at hl 7 rfl) ?_
      refine lv_lload hx hb dX8_pair_178 (lv_at hl 9 rfl) ?_
      obtain ⟨z136, hc135, hm⟩ := bindS hm
      refine g_calll (GG := GM cy ad) K hw (va_runS (As := [.int x1, .long x4, .long x8]) (rest := []) (g_fix K) (c_X8_reckon l D cy ad H.size n S x1 x4 x8  hc135) (va_cwS 3 (g_hts K) gX8_pair_X8_reckon rfl rfl rfl (by decide +kernel) ⟨Nat.le_of_ble_eq_true rfl, Nat.le_of_ble_eq_true rfl⟩) ⟨g_blind rides_none, g_pre (X2 := fun _ _ => True) K hw (fun _ _ _ => trivial)⟩ rfl rfl hl.1 rfl (lv_room (Nat.le_of_ble_eq_true rfl)) dX8_pair_180 ⟨Nat.le_of_ble_eq_true rfl, Nat.le_of_ble_eq_true rfl⟩) (fun r u H locs hp hw => ?_)
      obtain ⟨rfl, hu⟩ := hp
      rw [hu] at hw
      refine lv_lstore (lv' := [(18, .long z136), (16, .long z134), (14, .long z132), (12, .long z130), (11, .int y0), (0, .ref (ad 0 0)), (1, .int x1), (2, .long x2), (4, .long x4), (6, .long x6), (8, .long x8), (10, .int x10)]) hx hb dX8_pair_183 hl (by decide) rfl (fun ls hl => ?_)
      refine lv_aload_n hx hb dX8_pair_185 rfl (lv_at hl 5 rfl) ?_
      refine g_get (ref := "MigrantHeapModel") (C := RX8) (T := TX8) (N := 44) (ci := 8) K in_X8_pair_X8 hw 0 rfl (by decide : 0 < 1) rfl rfl 41 (by decide) (List.mem_of_getElem? (i := 2) rfl) rfl rfl dX8_pair_186 ?_
      refine lv_aload_n hx hb dX8_pair_189 rfl (lv_at hl 5 rfl) ?_
      refine g_get (ref := "MigrantHeapModel") (C := RX8) (T := TX8) (N := 44) (ci := 8) K in_X8_pair_X8 hw 0 rfl (by decide : 0 < 1) rfl rfl 40 (by decide) (List.mem_of_getElem? (i := 1) rfl) rfl rfl dX8_pair_190 ?_
      refine lv_bipush (v := 14) hx hb dX8_pair_193 (by decide) ?_
      refine lv_bipush (v := 14) hx hb dX8_pair_195 (by decide) ?_
      refine lv_lload hx hb dX8_pair_197 (lv_at hl 3 rfl) ?_
      refine lv_lload hx hb dX8_pair_199 (lv_at hl 2 rfl) ?_
      obtain ⟨z138, hc137, hm⟩ := bindS hm
      refine g_calll (GG := GM cy ad) K hw (va_runS (As := [.int 14, .long z130, .long z132]) (rest := [.int 14, .int (S.1 40 0), .ref (ad 32 0)]) (g_fix K) (c_X8_reckon l D cy ad H.size n S 14 z130 z132  hc137) (va_cwS 3 (g_hts K) gX8_pair_X8_reckon rfl rfl rfl (by decide +kernel) ⟨Nat.le_of_ble_eq_true rfl, Nat.le_of_ble_eq_true rfl⟩) ⟨g_blind rides_none, g_pre (X2 := fun _ _ => True) K hw (fun _ _ _ => trivial)⟩ rfl rfl hl.1 rfl (lv_room (Nat.le_of_ble_eq_true rfl)) dX8_pair_201 ⟨Nat.le_of_ble_eq_true rfl, Nat.le_of_ble_eq_true rfl⟩) (fun r u H locs hp hw => ?_)
      obtain ⟨rfl, hu⟩ := hp
      rw [hu] at hw
      refine lv_bipush (v := 14) hx hb dX8_pair_204 (by decide) ?_
      refine lv_lload hx hb dX8_pair_206 (lv_at hl 1 rfl) ?_
      refine lv_lload hx hb dX8_pair_208 (lv_at hl 0 rfl) ?_
      obtain ⟨z140, hc139, hm⟩ := bindS hm
      refine g_calll (GG := GM cy ad) K hw (va_runS (As := [.int 14, .long z134, .long z136]) (rest := [.long z138, .int 14, .int (S.1 40 0), .ref (ad 32 0)]) (g_fix K) (c_X8_reckon l D cy ad H.size n S 14 z134 z136  hc139) (va_cwS 3 (g_hts K) gX8_pair_X8_reckon rfl rfl rfl (by decide +kernel) ⟨Nat.le_of_ble_eq_true rfl, Nat.le_of_ble_eq_true rfl⟩) ⟨g_blind rides_none, g_pre (X2 := fun _ _ => True) K hw (fun _ _ _ => trivial)⟩ rfl rfl hl.1 rfl (lv_room (Nat.le_of_ble_eq_true rfl)) dX8_pair_210 ⟨Nat.le_of_ble_eq_true rfl, Nat.le_of_ble_eq_true rfl⟩) (fun r u H locs hp hw => ?_)
      obtain ⟨rfl, hu⟩ := hp
      rw [hu] at hw
      obtain ⟨z142, hc141, hm⟩ := bindS hm
      refine g_calll (GG := GM cy ad) K hw (va_runS (As := [.int 14, .long z138, .long z140]) (rest := [.int (S.1 40 0), .ref (ad 32 0)]) (g_fix K) (c_X8_reckon l D cy ad H.size n S 14 z138 z140  hc141) (va_cwS 3 (g_hts K) gX8_pair_X8_reckon rfl rfl rfl (by decide +kernel) ⟨Nat.le_of_ble_eq_true rfl, Nat.le_of_ble_eq_true rfl⟩) ⟨g_blind rides_none, g_pre (X2 := fun _ _ => True) K hw (fun _ _ _ => trivial)⟩ rfl rfl hl.1 rfl (lv_room (Nat.le_of_ble_eq_true rfl)) dX8_pair_213 ⟨Nat.le_of_ble_eq_true rfl, Nat.le_of_ble_eq_true rfl⟩) (fun r u H locs hp hw => ?_)
      obtain ⟨rfl, hu⟩ := hp
      rw [hu] at hw
      obtain ⟨h143, hm⟩ := chkS hm
      refine g_last K hw 32 1 rfl (by decide) rfl rfl h143 dX8_pair_216 (eM_41 cy ad S ((S.1 40 0).toNatClampNeg) z142) (fun H locs hw => ?_)
      obtain ⟨S144, hS144, hm⟩ := nm_ex hm
      rw [← hS144] at hw
      refine lv_aload_n hx hb dX8_pair_217 rfl (lv_at hl 5 rfl) ?_
      refine g_get (ref := "MigrantHeapModel") (C := RX8) (T := TX8) (N := 44) (ci := 8) K in_X8_pair_X8 hw 0 rfl (by decide : 0 < 1) rfl rfl 42 (by decide) (List.mem_of_getElem? (i := 3) rfl) rfl rfl dX8_pair_218 ?_
      refine lv_aload_n hx hb dX8_pair_221 rfl (lv_at hl 5 rfl) ?_
      refine g_get (ref := "MigrantHeapModel") (C := RX8) (T := TX8) (N := 44) (ci := 8) K in_X8_pair_X8 hw 0 rfl (by decide : 0 < 1) rfl rfl 40 (by decide) (List.mem_of_getElem? (i := 1) rfl) rfl rfl dX8_pair_222 ?_
      refine lv_bipush (v := 15) hx hb dX8_pair_225 (by decide) ?_
      refine lv_bipush (v := 15) hx hb dX8_pair_227 (by decide) ?_
      refine lv_lload hx hb dX8_pair_229 (lv_at hl 3 rfl) ?_
      refine lv_lload hx hb dX8_pair_231 (lv_at hl 2 rfl) ?_
      obtain ⟨z146, hc145, hm⟩ := bindS hm
      refine g_calll (GG := GM cy ad) K hw (va_runS (As := [.int 15, .long z130, .long z132]) (rest := [.int 15, .int (S144.1 40 0), .ref (ad 33 0)]) (g_fix K) (c_X8_reckon l D cy ad H.size n S144 15 z130 z132  hc145) (va_cwS 3 (g_hts K) gX8_pair_X8_reckon rfl rfl rfl (by decide +kernel) ⟨Nat.le_of_ble_eq_true rfl, Nat.le_of_ble_eq_true rfl⟩) ⟨g_blind rides_none, g_pre (X2 := fun _ _ => True) K hw (fun _ _ _ => trivial)⟩ rfl rfl hl.1 rfl (lv_room (Nat.le_of_ble_eq_true rfl)) dX8_pair_233 ⟨Nat.le_of_ble_eq_true rfl, Nat.le_of_ble_eq_true rfl⟩) (fun r u H locs hp hw => ?_)
      obtain ⟨rfl, hu⟩ := hp
      rw [hu] at hw
      refine lv_bipush (v := 15) hx hb dX8_pair_236 (by decide) ?_
      refine lv_lload hx hb dX8_pair_238 (lv_at hl 1 rfl) ?_
      refine lv_lload hx hb dX8_pair_240 (lv_at hl 0 rfl) ?_
      obtain ⟨z148, hc147, hm⟩ := bindS hm
      refine g_calll (GG := GM cy ad) K hw (va_runS (As := [.int 15, .long z134, .long z136]) (rest := [.long z146, .int 15, .int (S144.1 40 0), .ref (ad 33 0)]) (g_fix K) (c_X8_reckon l D cy ad H.size n S144 15 z134 z136  hc147) (va_cwS 3 (g_hts K) gX8_pair_X8_reckon rfl rfl rfl (by decide +kernel) ⟨Nat.le_of_ble_eq_true rfl, Nat.le_of_ble_eq_true rfl⟩) ⟨g_blind rides_none, g_pre (X2 := fun _ _ => True) K hw (fun _ _ _ => trivial)⟩ rfl rfl hl.1 rfl (lv_room (Nat.le_of_ble_eq_true rfl)) dX8_pair_242 ⟨Nat.le_of_ble_eq_true rfl, Nat.le_of_ble_eq_true rfl⟩) (fun r u H locs hp hw => ?_)
      obtain ⟨rfl, hu⟩ := hp
      rw [hu] at hw
      obtain ⟨z150, hc149, hm⟩ := bindS hm
      refine g_calll (GG := GM cy ad) K hw (va_runS (As := [.int 15, .long z146, .long z148]) (rest := [.int (S144.1 40 0), .ref (ad 33 0)]) (g_fix K) (c_X8_reckon l D cy ad H.size n S144 15 z146 z148  hc149) (va_cwS 3 (g_hts K) gX8_pair_X8_reckon rfl rfl rfl (by decide +kernel) ⟨Nat.le_of_ble_eq_true rfl, Nat.le_of_ble_eq_true rfl⟩) ⟨g_blind rides_none, g_pre (X2 := fun _ _ => True) K hw (fun _ _ _ => trivial)⟩ rfl rfl hl.1 rfl (lv_room (Nat.le_of_ble_eq_true rfl)) dX8_pair_245 ⟨Nat.le_of_ble_eq_true rfl, Nat.le_of_ble_eq_true rfl⟩) (fun r u H locs hp hw => ?_)
      obtain ⟨rfl, hu⟩ := hp
      rw [hu] at hw
      obtain ⟨h151, hm⟩ := chkS hm
      refine g_last K hw 33 1 rfl (by decide) rfl rfl h151 dX8_pair_248 (eM_42 cy ad S144 ((S144.1 40 0).toNatClampNeg) z150) (fun H locs hw => ?_)
      obtain ⟨S152, hS152, hm⟩ := nm_ex hm
      rw [← hS152] at hw
      refine lv_aload_n hx hb dX8_pair_249 rfl (lv_at hl 5 rfl) ?_
      refine lv_dup hx hb dX8_pair_250 rfl ?_
      refine g_get (ref := "MigrantHeapModel") (C := RX8) (T := TX8) (N := 44) (ci := 8) K in_X8_pair_X8 hw 0 rfl (by decide : 0 < 1) rfl rfl 40 (by decide) (List.mem_of_getElem? (i := 1) rfl) rfl rfl dX8_pair_251 ?_
      refine lv_iconst (v := 1) hx hb dX8_pair_254 (by decide) ?_
      refine lv_iadd hx hb dX8_pair_255 ?_
      refine g_put (v := .int ((S152.1 40 0) + 1)) (ty := .int) (ref := "MigrantHeapModel") (C := RX8) (T := TX8) (N := 44) (ci := 8) K in_X8_pair_X8 tyX8 tyX8_ok nmX8 hw 0 rfl (by decide : 0 < 1) rfl rfl 40 (by decide) (List.mem_of_getElem? (i := 1) rfl) rfl rfl (by decide +kernel) rfl rfl (Nat.le_of_ble_eq_true rfl) dX8_pair_256 (eM_40 cy ad S152 ((S152.1 40 0) + 1)) (fun H locs hw => ?_)
      obtain ⟨S153, hS153, hm⟩ := nm_ex hm
      rw [← hS153] at hw
      refine lv_iconst (v := 1) hx hb dX8_pair_259 (by decide) ?_
      exact g_zret (GG := GM cy ad) K hw rfl (Option.some.inj hm).symm dX8_pair_260
    · replace hm := (if_neg c128).symm.trans hm
      refine lv_iconst (v := 0) hx hb dX8_pair_145 (by decide) ?_
      exact g_zret (GG := GM cy ad) K hw rfl (Option.some.inj hm).symm dX8_pair_146
set_option maxRecDepth 100000 in
set_option maxHeartbeats 4000000 in
theorem t_X8_pair_J132 (K : Cx p s m args meth c D A (tysC cy) RX8 cX8_pair 20 (some .boolean) wsX8_pair (fun _ _ => True)) (n : Nat) (S : MSt) (x1 : Int32) (x2 : Int64) (x4 : Int64) (x6 : Int64) (x8 : Int64) (x10 : Int32) {out : Int32 × MSt} (hm : m_X8_pair_J132 n S x1 x2 x4 x6 x8 x10 = some out) : ∀ (H : Heap) (locs : List Loc), Wd D A s.heap (GM cy ad S) H locs → ∀ ls : Array Slot, lv_has ls 20 [(0, .ref (ad 0 0)), (1, .int x1), (2, .long x2), (4, .long x4), (6, .long x6), (8, .long x8), (10, .int x10)] → W p l e rm_X8_pair s m args below meth c H locs 0 0 (MQ below (va_Qi (fun r (u : MSt) => out = (r, u)) (fun u => Pst D (tysC cy) A (GM cy ad u)) A) args s 0 0 A) (F0 m 132 ls []) := by
  intro H locs hw ls hl 
  obtain ⟨hx, hb, hml, hown, hts, hr, hlo, hK, hA, hX⟩ := id K
  unfold m_X8_pair_J132 at hm
  refine lv_iconst (v := 0) hx hb dX8_pair_132 (by decide) ?_
  exact t_X8_pair_J133 K n S x1 x2 x4 x6 x8 x10 0 hm H locs hw ls (lv_sub hl [0, 1, 2, 3, 4, 5, 6] rfl)
set_option maxRecDepth 100000 in
set_option maxHeartbeats 4000000 in
theorem t_X8_pair_J128 (K : Cx p s m args meth c D A (tysC cy) RX8 cX8_pair 20 (some .boolean) wsX8_pair (fun _ _ => True)) (n : Nat) (S : MSt) (x1 : Int32) (x2 : Int64) (x4 : Int64) (x6 : Int64) (x8 : Int64) (x10 : Int32) {out : Int32 × MSt} (hm : m_X8_pair_J128 n S x1 x2 x4 x6 x8 x10 = some out) : ∀ (H : Heap) (locs : List Loc), Wd D A s.heap (GM cy ad S) H locs → ∀ ls : Array Slot, lv_has ls 20 [(0, .ref (ad 0 0)), (1, .int x1), (2, .long x2), (4, .long x4), (6, .long x6), (8, .long x8), (10, .int x10)] → W p l e rm_X8_pair s m args below meth c H locs 0 0 (MQ below (va_Qi (fun r (u : MSt) => out = (r, u)) (fun u => Pst D (tysC cy) A (GM cy ad u)) A) args s 0 0 A) (F0 m 128 ls []) := by
  intro H locs hw ls hl 
  obtain ⟨hx, hb, hml, hown, hts, hr, hlo, hK, hA, hX⟩ := id K
  unfold m_X8_pair_J128 at hm
  refine lv_iconst (v := 1) hx hb dX8_pair_128 (by decide) ?_
  refine lv_goto (tgt := 133) hx hb dX8_pair_129 (by decide) ?_
  exact t_X8_pair_J133 K n S x1 x2 x4 x6 x8 x10 1 hm H locs hw ls (lv_sub hl [0, 1, 2, 3, 4, 5, 6] rfl)
set_option maxRecDepth 100000 in
set_option maxHeartbeats 4000000 in
theorem t_X8_pair_J82 (K : Cx p s m args meth c D A (tysC cy) RX8 cX8_pair 20 (some .boolean) wsX8_pair (fun _ _ => True)) (n : Nat) (S : MSt) (x1 : Int32) (x2 : Int64) (x4 : Int64) (x6 : Int64) (x8 : Int64) (y0 : Int32) {out : Int32 × MSt} (hm : m_X8_pair_J82 n S x1 x2 x4 x6 x8 y0 = some out) : ∀ (H : Heap) (locs : List Loc), Wd D A s.heap (GM cy ad S) H locs → ∀ ls : Array Slot, lv_has ls 20 [(0, .ref (ad 0 0)), (1, .int x1), (2, .long x2), (4, .long x4), (6, .long x6), (8, .long x8)] → W p l e rm_X8_pair s m args below meth c H locs 0 0 (MQ below (va_Qi (fun r (u : MSt) => out = (r, u)) (fun u => Pst D (tysC cy) A (GM cy ad u)) A) args s 0 0 A) (F0 m 82 ls [.int y0]) := by
  intro H locs hw ls hl 
  obtain ⟨hx, hb, hml, hown, hts, hr, hlo, hK, hA, hX⟩ := id K
  unfold m_X8_pair_J82 at hm
  refine lv_istore (lv' := [(10, .int y0), (0, .ref (ad 0 0)), (1, .int x1), (2, .long x2), (4, .long x4), (6, .long x6), (8, .long x8)]) hx hb dX8_pair_82 hl (by decide) rfl (fun ls hl => ?_)
  refine lv_iload_n hx hb dX8_pair_84 rfl (lv_at hl 2 rfl) ?_
  refine lv_bipush (v := 12) hx hb dX8_pair_85 (by decide) ?_
  refine lv_icmp_ne (tgt := 132) hx hb dX8_pair_87 (by decide) (fun c154 => ?_) (fun c154 => ?_)
  · replace hm := (if_pos c154).symm.trans hm
    exact t_X8_pair_J132 K n S x1 x2 x4 x6 x8 y0 hm H locs hw ls (lv_sub hl [1, 2, 3, 4, 5, 6, 0] rfl)
  · replace hm := (if_neg (fun h => h c154)).symm.trans hm
    refine lv_lload_n hx hb dX8_pair_90 rfl (lv_at hl 3 rfl) ?_
    refine lv_lload hx hb dX8_pair_91 (lv_at hl 5 rfl) ?_
    obtain ⟨z156, hc155, hm⟩ := bindS hm
    refine g_calli (GG := GM cy ad) K hw (va_runS (As := [.long x2, .long x6]) (rest := []) (g_fix K) (c_X8_isFar l D cy ad H.size n S x2 x6  hc155) (va_cwS 2 (g_hts K) gX8_pair_X8_isFar rfl rfl rfl (by decide +kernel) ⟨Nat.le_of_ble_eq_true rfl, Nat.le_of_ble_eq_true rfl⟩) ⟨g_blind rides_none, g_pre (X2 := fun _ _ => True) K hw (fun _ _ _ => trivial)⟩ rfl rfl hl.1 rfl (lv_room (Nat.le_of_ble_eq_true rfl)) dX8_pair_93 ⟨Nat.le_of_ble_eq_true rfl, Nat.le_of_ble_eq_true rfl⟩) (fun r u H locs hp hw => ?_)
    obtain ⟨rfl, hu⟩ := hp
    rw [hu] at hw
    refine lv_if_ne (tgt := 128) hx hb dX8_pair_96 (by decide) (fun c157 => ?_) (fun c157 => ?_)
    · replace hm := (if_pos c157).symm.trans hm
      exact t_X8_pair_J128 K n S x1 x2 x4 x6 x8 y0 hm H locs hw ls (lv_sub hl [1, 2, 3, 4, 5, 6, 0] rfl)
    · replace hm := (if_neg (fun h => h c157)).symm.trans hm
      refine lv_lload_n hx hb dX8_pair_99 rfl (lv_at hl 3 rfl) ?_
      refine lv_lload hx hb dX8_pair_100 (lv_at hl 6 rfl) ?_
      obtain ⟨z159, hc158, hm⟩ := bindS hm
      refine g_calli (GG := GM cy ad) K hw (va_runS (As := [.long x2, .long x8]) (rest := []) (g_fix K) (c_X8_isFar l D cy ad H.size n S x2 x8  hc158) (va_cwS 2 (g_hts K) gX8_pair_X8_isFar rfl rfl rfl (by decide +kernel) ⟨Nat.le_of_ble_eq_true rfl, Nat.le_of_ble_eq_true rfl⟩) ⟨g_blind rides_none, g_pre (X2 := fun _ _ => True) K hw (fun _ _ _ => trivial)⟩ rfl rfl hl.1 rfl (lv_room (Nat.le_of_ble_eq_true rfl)) dX8_pair_102 ⟨Nat.le_of_ble_eq_true rfl, Nat.le_of_ble_eq_true rfl⟩) (fun r u H locs hp hw => ?_)
      obtain ⟨rfl, hu⟩ := hp
      rw [hu] at hw
      refine lv_if_ne (tgt := 128) hx hb dX8_pair_105 (by decide) (fun c160 => ?_) (fun c160 => ?_)
      · replace hm := (if_pos c160).symm.trans hm
        exact t_X8_pair_J128 K n S x1 x2 x4 x6 x8 y0 hm H locs hw ls (lv_sub hl [1, 2, 3, 4, 5, 6, 0] rfl)
      · replace hm := (if_neg (fun h => h c160)).symm.trans hm
        refine lv_lload hx hb dX8_pair_108 (lv_at hl 4 rfl) ?_
        refine lv_lload hx hb dX8_pair_110 (lv_at hl 5 rfl) ?_
        obtain ⟨z162, hc161, hm⟩ := bindS hm
        refine g_calli (GG := GM cy ad) K hw (va_runS (As := [.long x4, .long x6]) (rest := []) (g_fix K) (c_X8_isFar l D cy ad H.size n S x4 x6  hc161) (va_cwS 2 (g_hts K) gX8_pair_X8_isFar rfl rfl rfl (by decide +kernel) ⟨Nat.le_of_ble_eq_true rfl, Nat.le_of_ble_eq_true rfl⟩) ⟨g_blind rides_none, g_pre (X2 := fun _ _ => True) K hw (fun _ _ _ => trivial)⟩ rfl rfl hl.1 rfl (lv_room (Nat.le_of_ble_eq_true rfl)) dX8_pair_112 ⟨Nat.le_of_ble_eq_true rfl, Nat.le_of_ble_eq_true rfl⟩) (fun r u H locs hp hw => ?_)
        obtain ⟨rfl, hu⟩ := hp
        rw [hu] at hw
        refine lv_if_ne (tgt := 128) hx hb dX8_pair_115 (by decide) (fun c163 => ?_) (fun c163 => ?_)
        · replace hm := (if_pos c163).symm.trans hm
          exact t_X8_pair_J128 K n S x1 x2 x4 x6 x8 y0 hm H locs hw ls (lv_sub hl [1, 2, 3, 4, 5, 6, 0] rfl)
        · replace hm := (if_neg (fun h => h c163)).symm.trans hm
          refine lv_lload hx hb dX8_pair_118 (lv_at hl 4 rfl) ?_
          refine lv_lload hx hb dX8_pair_120 (lv_at hl 6 rfl) ?_
          obtain ⟨z165, hc164, hm⟩ := bindS hm
          refine g_calli (GG := GM cy ad) K hw (va_runS (As := [.long x4, .long x8]) (rest := []) (g_fix K) (c_X8_isFar l D cy ad H.size n S x4 x8  hc164) (va_cwS 2 (g_hts K) gX8_pair_X8_isFar rfl rfl rfl (by decide +kernel) ⟨Nat.le_of_ble_eq_true rfl, Nat.le_of_ble_eq_true rfl⟩) ⟨g_blind rides_none, g_pre (X2 := fun _ _ => True) K hw (fun _ _ _ => trivial)⟩ rfl rfl hl.1 rfl (lv_room (Nat.le_of_ble_eq_true rfl)) dX8_pair_122 ⟨Nat.le_of_ble_eq_true rfl, Nat.le_of_ble_eq_true rfl⟩) (fun r u H locs hp hw => ?_)
          obtain ⟨rfl, hu⟩ := hp
          rw [hu] at hw
          refine lv_if_eq (tgt := 132) hx hb dX8_pair_125 (by decide) (fun c166 => ?_) (fun c166 => ?_)
          · replace hm := (if_pos c166).symm.trans hm
            exact t_X8_pair_J132 K n S x1 x2 x4 x6 x8 y0 hm H locs hw ls (lv_sub hl [1, 2, 3, 4, 5, 6, 0] rfl)
          · replace hm := (if_neg c166).symm.trans hm
            exact t_X8_pair_J128 K n S x1 x2 x4 x6 x8 y0 hm H locs hw ls (lv_sub hl [1, 2, 3, 4, 5, 6, 0] rfl)
set_option maxRecDepth 100000 in
set_option maxHeartbeats 4000000 in
theorem t_X8_pair_J81 (K : Cx p s m args meth c D A (tysC cy) RX8 cX8_pair 20 (some .boolean) wsX8_pair (fun _ _ => True)) (n : Nat) (S : MSt) (x1 : Int32) (x2 : Int64) (x4 : Int64) (x6 : Int64) (x8 : Int64) {out : Int32 × MSt} (hm : m_X8_pair_J81 n S x1 x2 x4 x6 x8 = some out) : ∀ (H : Heap) (locs : List Loc), Wd D A s.heap (GM cy ad S) H locs → ∀ ls : Array Slot, lv_has ls 20 [(0, .ref (ad 0 0)), (1, .int x1), (2, .long x2), (4, .long x4), (6, .long x6), (8, .long x8)] → W p l e rm_X8_pair s m args below meth c H locs 0 0 (MQ below (va_Qi (fun r (u : MSt) => out = (r, u)) (fun u => Pst D (tysC cy) A (GM cy ad u)) A) args s 0 0 A) (F0 m 81 ls []) := by
  intro H locs hw ls hl 
  obtain ⟨hx, hb, hml, hown, hts, hr, hlo, hK, hA, hX⟩ := id K
  unfold m_X8_pair_J81 at hm
  refine lv_iconst (v := 0) hx hb dX8_pair_81 (by decide) ?_
  exact t_X8_pair_J82 K n S x1 x2 x4 x6 x8 0 hm H locs hw ls (lv_sub hl [0, 1, 2, 3, 4, 5] rfl)
set_option maxRecDepth 100000 in
set_option maxHeartbeats 4000000 in
theorem t_X8_pair_0 (K : Cx p s m args meth c D A (tysC cy) RX8 cX8_pair 20 (some .boolean) wsX8_pair (fun _ _ => True)) (n : Nat) (S : MSt) (x1 : Int32)  {out : Int32 × MSt} (hm : m_X8_pair n S x1 = some out) : ∀ (H : Heap) (locs : List Loc), Wd D A s.heap (GM cy ad S) H locs → ∀ ls : Array Slot, lv_has ls 20 [(0, .ref (ad 0 0)), (1, .int x1)] → W p l e rm_X8_pair s m args below meth c H locs 0 0 (MQ below (va_Qi (fun r (u : MSt) => out = (r, u)) (fun u => Pst D (tysC cy) A (GM cy ad u)) A) args s 0 0 A) (F0 m 0 ls []) := by
  intro H locs hw ls hl
  obtain ⟨hx, hb, hml, hown, hts, hr, hlo, hK, hA, hX⟩ := id K
  unfold m_X8_pair at hm
  refine lv_aload_n hx hb dX8_pair_0 rfl (lv_at hl 0 rfl) ?_
  refine lv_aload_n hx hb dX8_pair_1 rfl (lv_at hl 0 rfl) ?_
  refine g_get (ref := "MigrantHeapModel") (C := RX8) (T := TX8) (N := 44) (ci := 8) K in_X8_pair_X8 hw 0 rfl (by decide : 0 < 1) rfl rfl 40 (by decide) (List.mem_of_getElem? (i := 1) rfl) rfl rfl dX8_pair_2 ?_
  refine lv_iconst (v := 2) hx hb dX8_pair_5 (by decide) ?_
  refine lv_isub hx hb dX8_pair_6 ?_
  refine g_put (v := .int ((S.1 40 0) - 2)) (ty := .int) (ref := "MigrantHeapModel") (C := RX8) (T := TX8) (N := 44) (ci := 8) K in_X8_pair_X8 tyX8 tyX8_ok nmX8 hw 0 rfl (by decide : 0 < 1) rfl rfl 40 (by decide) (List.mem_of_getElem? (i := 1) rfl) rfl rfl (by decide +kernel) rfl rfl (Nat.le_of_ble_eq_true rfl) dX8_pair_7 (eM_40 cy ad S ((S.1 40 0) - 2)) (fun H locs hw => ?_)
  obtain ⟨S167, hS167, hm⟩ := nm_ex hm
  rw [← hS167] at hw
  refine lv_aload_n hx hb dX8_pair_10 rfl (lv_at hl 0 rfl) ?_
  refine g_get (ref := "MigrantHeapModel") (C := RX8) (T := TX8) (N := 44) (ci := 8) K in_X8_pair_X8 hw 0 rfl (by decide : 0 < 1) rfl rfl 41 (by decide) (List.mem_of_getElem? (i := 2) rfl) rfl rfl dX8_pair_11 ?_
  refine lv_aload_n hx hb dX8_pair_14 rfl (lv_at hl 0 rfl) ?_
  refine g_get (ref := "MigrantHeapModel") (C := RX8) (T := TX8) (N := 44) (ci := 8) K in_X8_pair_X8 hw 0 rfl (by decide : 0 < 1) rfl rfl 40 (by decide) (List.mem_of_getElem? (i := 1) rfl) rfl rfl dX8_pair_15 ?_
  obtain ⟨h168, hm⟩ := chkS hm
  refine g_lald K hw 32 1 rfl (by decide) rfl rfl h168 dX8_pair_18 ?_
  obtain ⟨x169, hx169, hm⟩ := nm_ex hm
  refine W.eq (g2 := F0 m 19 ls (.long x169 :: [])) (by rw [hx169]) ?_
  refine lv_lstore_n (lv' := [(2, .long x169), (0, .ref (ad 0 0)), (1, .int x1)]) hx hb dX8_pair_19 rfl hl (by decide) rfl (fun ls hl => ?_)
  refine lv_aload_n hx hb dX8_pair_20 rfl (lv_at hl 1 rfl) ?_
  refine g_get (ref := "MigrantHeapModel") (C := RX8) (T := TX8) (N := 44) (ci := 8) K in_X8_pair_X8 hw 0 rfl (by decide : 0 < 1) rfl rfl 42 (by decide) (List.mem_of_getElem? (i := 3) rfl) rfl rfl dX8_pair_21 ?_
  refine lv_aload_n hx hb dX8_pair_24 rfl (lv_at hl 1 rfl) ?_
  refine g_get (ref := "MigrantHeapModel") (C := RX8) (T := TX8) (N := 44) (ci := 8) K in_X8_pair_X8 hw 0 rfl (by decide : 0 < 1) rfl rfl 40 (by decide) (List.mem_of_getElem? (i := 1) rfl) rfl rfl dX8_pair_25 ?_
  obtain ⟨h170, hm⟩ := chkS hm
  refine g_lald K hw 33 1 rfl (by decide) rfl rfl h170 dX8_pair_28 ?_
  obtain ⟨x171, hx171, hm⟩ := nm_ex hm
  refine W.eq (g2 := F0 m 29 ls (.long x171 :: [])) (by rw [hx171]) ?_
  refine lv_lstore (lv' := [(4, .long x171), (2, .long x169), (0, .ref (ad 0 0)), (1, .int x1)]) hx hb dX8_pair_29 hl (by decide) rfl (fun ls hl => ?_)
  refine lv_aload_n hx hb dX8_pair_31 rfl (lv_at hl 2 rfl) ?_
  refine g_get (ref := "MigrantHeapModel") (C := RX8) (T := TX8) (N := 44) (ci := 8) K in_X8_pair_X8 hw 0 rfl (by decide : 0 < 1) rfl rfl 41 (by decide) (List.mem_of_getElem? (i := 2) rfl) rfl rfl dX8_pair_32 ?_
  refine lv_aload_n hx hb dX8_pair_35 rfl (lv_at hl 2 rfl) ?_
  refine g_get (ref := "MigrantHeapModel") (C := RX8) (T := TX8) (N := 44) (ci := 8) K in_X8_pair_X8 hw 0 rfl (by decide : 0 < 1) rfl rfl 40 (by decide) (List.mem_of_getElem? (i := 1) rfl) rfl rfl dX8_pair_36 ?_
  refine lv_iconst (v := 1) hx hb dX8_pair_39 (by decide) ?_
  refine lv_iadd hx hb dX8_pair_40 ?_
  obtain ⟨h172, hm⟩ := chkS hm
  refine g_lald K hw 32 1 rfl (by decide) rfl rfl h172 dX8_pair_41 ?_
  obtain ⟨x173, hx173, hm⟩ := nm_ex hm
  refine W.eq (g2 := F0 m 42 ls (.long x173 :: [])) (by rw [hx173]) ?_
  refine lv_lstore (lv' := [(6, .long x173), (4, .long x171), (2, .long x169), (0, .ref (ad 0 0)), (1, .int x1)]) hx hb dX8_pair_42 hl (by decide) rfl (fun ls hl => ?_)
  refine lv_aload_n hx hb dX8_pair_44 rfl (lv_at hl 3 rfl) ?_
  refine g_get (ref := "MigrantHeapModel") (C := RX8) (T := TX8) (N := 44) (ci := 8) K in_X8_pair_X8 hw 0 rfl (by decide : 0 < 1) rfl rfl 42 (by decide) (List.mem_of_getElem? (i := 3) rfl) rfl rfl dX8_pair_45 ?_
  refine lv_aload_n hx hb dX8_pair_48 rfl (lv_at hl 3 rfl) ?_
  refine g_get (ref := "MigrantHeapModel") (C := RX8) (T := TX8) (N := 44) (ci := 8) K in_X8_pair_X8 hw 0 rfl (by decide : 0 < 1) rfl rfl 40 (by decide) (List.mem_of_getElem? (i := 1) rfl) rfl rfl dX8_pair_49 ?_
  refine lv_iconst (v := 1) hx hb dX8_pair_52 (by decide) ?_
  refine lv_iadd hx hb dX8_pair_53 ?_
  obtain ⟨h174, hm⟩ := chkS hm
  refine g_lald K hw 33 1 rfl (by decide) rfl rfl h174 dX8_pair_54 ?_
  obtain ⟨x175, hx175, hm⟩ := nm_ex hm
  refine W.eq (g2 := F0 m 55 ls (.long x175 :: [])) (by rw [hx175]) ?_
  refine lv_lstore (lv' := [(8, .long x175), (6, .long x173), (4, .long x171), (2, .long x169), (0, .ref (ad 0 0)), (1, .int x1)]) hx hb dX8_pair_55 hl (by decide) rfl (fun ls hl => ?_)
  refine lv_iload_n hx hb dX8_pair_57 rfl (lv_at hl 5 rfl) ?_
  refine lv_bipush (v := 13) hx hb dX8_pair_58 (by decide) ?_
  refine lv_icmp_ne (tgt := 81) hx hb dX8_pair_60 (by decide) (fun c176 => ?_) (fun c176 => ?_)
  · replace hm := (if_pos c176).symm.trans hm
    exact t_X8_pair_J81 K n S167 x1 x169 x171 x173 x175 hm H locs hw ls (lv_sub hl [4, 5, 3, 2, 1, 0] rfl)
  · replace hm := (if_neg (fun h => h c176)).symm.trans hm
    refine lv_lload hx hb dX8_pair_63 (lv_at hl 1 rfl) ?_
    refine lv_lconst (v := 0) hx hb dX8_pair_65 (by decide) ?_
    refine W.lcmp hx hb dX8_pair_66 ?_
    refine lv_if_gt (tgt := 81) hx hb dX8_pair_67 (by decide) (fun c177 => ?_) (fun c177 => ?_)
    · replace hm := (if_pos c177).symm.trans hm
      exact t_X8_pair_J81 K n S167 x1 x169 x171 x173 x175 hm H locs hw ls (lv_sub hl [4, 5, 3, 2, 1, 0] rfl)
    · replace hm := (if_neg c177).symm.trans hm
      refine lv_lload hx hb dX8_pair_70 (lv_at hl 0 rfl) ?_
      refine lv_lconst (v := 0) hx hb dX8_pair_72 (by decide) ?_
      refine W.lcmp hx hb dX8_pair_73 ?_
      refine lv_if_lt (tgt := 81) hx hb dX8_pair_74 (by decide) (fun c178 => ?_) (fun c178 => ?_)
      · replace hm := (if_pos c178).symm.trans hm
        exact t_X8_pair_J81 K n S167 x1 x169 x171 x173 x175 hm H locs hw ls (lv_sub hl [4, 5, 3, 2, 1, 0] rfl)
      · replace hm := (if_neg c178).symm.trans hm
        refine lv_iconst (v := 1) hx hb dX8_pair_77 (by decide) ?_
        refine lv_goto (tgt := 82) hx hb dX8_pair_78 (by decide) ?_
        exact t_X8_pair_J82 K n S167 x1 x169 x171 x173 x175 1 hm H locs hw ls (lv_sub hl [4, 5, 3, 2, 1, 0] rfl)
set_option maxRecDepth 100000 in
set_option maxHeartbeats 4000000 in
theorem c_X8_pair (l : Launch) (D : va_G) (cy : Nat → ClassId) (ad : Nat → Nat → Nat) (sz n : Nat) (S : MSt) (x1 : Int32)  {out : Int32 × MSt} (hm : m_X8_pair n S x1 = some out) : Met l yX8_pair wsX8_pair rm_X8_pair (va_Pc [.ref (ad 0 0), .int x1] (Pre D (tysC cy) (GM cy ad S) (fun _ _ => True) sz)) (va_Qi (fun r (u : MSt) => out = (r, u)) (fun u => Pst D (tysC cy) (AA (adrs (GM cy ad S)) sz) (GM cy ad u)) (AA (adrs (GM cy ad S)) sz)) 0 0 (AA (adrs (GM cy ad S)) sz) := by
  refine g_met (by decide) rfl (Nat.le_of_ble_eq_true rfl) ?_
  intro p e s m args below meth c K hw ls hl
  exact t_X8_pair_0 (cy := cy) K n S x1  hm _ _ hw ls hl
end W_X8_pair
