section W_X8_takeBack
variable {p : Program} {l : Launch} {e : Env} {s : State} {m : MethodId} {args : Array Value} {below : List Frame} {meth : Method} {c : Code} {D : va_G} {A : Nat → Prop} {cy : Nat → ClassId} {ad : Nat → Nat → Nat} {Q : State → Prop}
abbrev rm_X8_takeBack : Room := { frames := 1, cells := 0, slots := 0, locals := 21 }
theorem in_X8_takeBack_X8 : ∀ w ∈ u_ws RX8 TX8 44, w ∈ wsX8_takeBack := by decide +kernel
set_option maxRecDepth 100000 in
set_option maxHeartbeats 4000000 in
theorem t_X8_takeBack_L168 (K : Cx p s m args meth c D A (tysC cy) RX8 cX8_takeBack 5 (some .int) wsX8_takeBack (fun _ _ => True)) (n : Nat) (x1 : Int32) (x2 : Int32)  (z : MSt) (hE0 : ∀ w : MSt, z = w → ∀ (H : Heap) (locs : List Loc), Wd D A s.heap (GM cy ad w) H locs → ∀ ls : Array Slot, lv_has ls 5 [(0, .ref (ad 0 0)), (1, .int x1), (2, .int x2)] → W p l e rm_X8_takeBack s m args below meth c H locs 0 0 Q (F0 m 268 ls [])) : ∀ (x : (MSt × Int32)), lpO (b_X8_takeBack_168 n x1 x2) n x = some z → (fun (x : (MSt × Int32)) => ∀ (H : Heap) (locs : List Loc), Wd D A s.heap (GM cy ad x.1) H locs → ∀ ls : Array Slot, lv_has ls 5 [(0, .ref (ad 0 0)), (1, .int x1), (2, .int x2), (3, .int x.2)] → W p l e rm_X8_takeBack s m args below meth c H locs 0 0 Q (F0 m 168 ls [])) x := by
  intro x hx0
  refine lpO_ind2 (P := fun (x : (MSt × Int32)) => ∀ (H : Heap) (locs : List Loc), Wd D A s.heap (GM cy ad x.1) H locs → ∀ ls : Array Slot, lv_has ls 5 [(0, .ref (ad 0 0)), (1, .int x1), (2, .int x2), (3, .int x.2)] → W p l e rm_X8_takeBack s m args below meth c H locs 0 0 Q (F0 m 168 ls [])) (z := z) ?_ n x hx0
  clear hx0 x
  intro x out hm hg H locs hw ls hl 
  obtain ⟨hx, hb, hml, hown, hts, hr, hlo, hK, hA, hX⟩ := id K
  unfold b_X8_takeBack_168 at hm
  refine lv_iload_n hx hb dX8_takeBack_168 rfl (lv_at hl 3 rfl) ?_
  refine lv_bipush (v := 6) hx hb dX8_takeBack_169 (by decide) ?_
  refine lv_icmp_ge (tgt := 268) hx hb dX8_takeBack_171 (by decide) (fun c124 => ?_) (fun c124 => ?_)
  · replace hm := (if_pos c124).symm.trans hm
    obtain rfl := Option.some.inj hm
    exact hE0 _ hg.symm H locs hw ls (lv_sub hl [0, 1, 2] rfl)
  · replace hm := (if_neg c124).symm.trans hm
    refine lv_aload_n hx hb dX8_takeBack_174 rfl (lv_at hl 0 rfl) ?_
    refine g_get (ref := "MigrantHeapModel") (C := RX8) (T := TX8) (N := 44) (ci := 8) K in_X8_takeBack_X8 hw 0 rfl (by decide : 0 < 1) rfl rfl 5 (by decide) (List.mem_of_getElem? (i := 8) rfl) rfl rfl dX8_takeBack_175 ?_
    refine lv_bipush (v := 6) hx hb dX8_takeBack_178 (by decide) ?_
    refine lv_iload_n hx hb dX8_takeBack_180 rfl (lv_at hl 1 rfl) ?_
    refine lv_imul hx hb dX8_takeBack_181 ?_
    refine lv_iload_n hx hb dX8_takeBack_182 rfl (lv_at hl 3 rfl) ?_
    refine lv_iadd hx hb dX8_takeBack_183 ?_
    refine lv_aload_n hx hb dX8_takeBack_184 rfl (lv_at hl 0 rfl) ?_
    refine g_get (ref := "MigrantHeapModel") (C := RX8) (T := TX8) (N := 44) (ci := 8) K in_X8_takeBack_X8 hw 0 rfl (by decide : 0 < 1) rfl rfl 10 (by decide) (List.mem_of_getElem? (i := 9) rfl) rfl rfl dX8_takeBack_185 ?_
    refine lv_bipush (v := 6) hx hb dX8_takeBack_188 (by decide) ?_
    refine lv_iload_n hx hb dX8_takeBack_190 rfl (lv_at hl 1 rfl) ?_
    refine lv_imul hx hb dX8_takeBack_191 ?_
    refine lv_iload_n hx hb dX8_takeBack_192 rfl (lv_at hl 3 rfl) ?_
    refine lv_iadd hx hb dX8_takeBack_193 ?_
    obtain ⟨h125, hm⟩ := chkS hm
    refine g_iald K hw 9 0 rfl (by decide) rfl rfl h125 dX8_takeBack_194 ?_
    obtain ⟨h126, hm⟩ := chkS hm
    refine g_iast K hw 4 0 rfl (by decide) rfl rfl h126 dX8_takeBack_195 (eM_5 cy ad x.1 (((6 * x1) + x.2).toNatClampNeg) (x.1.1 10 ((6 * x1) + x.2).toNatClampNeg)) (fun H locs hw => ?_)
    obtain ⟨S127, hS127, hm⟩ := nm_ex hm
    rw [← hS127] at hw
    refine lv_aload_n hx hb dX8_takeBack_196 rfl (lv_at hl 0 rfl) ?_
    refine g_get (ref := "MigrantHeapModel") (C := RX8) (T := TX8) (N := 44) (ci := 8) K in_X8_takeBack_X8 hw 0 rfl (by decide : 0 < 1) rfl rfl 6 (by decide) (List.mem_of_getElem? (i := 10) rfl) rfl rfl dX8_takeBack_197 ?_
    refine lv_bipush (v := 6) hx hb dX8_takeBack_200 (by decide) ?_
    refine lv_iload_n hx hb dX8_takeBack_202 rfl (lv_at hl 1 rfl) ?_
    refine lv_imul hx hb dX8_takeBack_203 ?_
    refine lv_iload_n hx hb dX8_takeBack_204 rfl (lv_at hl 3 rfl) ?_
    refine lv_iadd hx hb dX8_takeBack_205 ?_
    refine lv_aload_n hx hb dX8_takeBack_206 rfl (lv_at hl 0 rfl) ?_
    refine g_get (ref := "MigrantHeapModel") (C := RX8) (T := TX8) (N := 44) (ci := 8) K in_X8_takeBack_X8 hw 0 rfl (by decide : 0 < 1) rfl rfl 11 (by decide) (List.mem_of_getElem? (i := 11) rfl) rfl rfl dX8_takeBack_207 ?_
    refine lv_bipush (v := 6) hx hb dX8_takeBack_210 (by decide) ?_
    refine lv_iload_n hx hb dX8_takeBack_212 rfl (lv_at hl 1 rfl) ?_
    refine lv_imul hx hb dX8_takeBack_213 ?_
    refine lv_iload_n hx hb dX8_takeBack_214 rfl (lv_at hl 3 rfl) ?_
    refine lv_iadd hx hb dX8_takeBack_215 ?_
    obtain ⟨h128, hm⟩ := chkS hm
    refine g_iald K hw 10 0 rfl (by decide) rfl rfl h128 dX8_takeBack_216 ?_
    obtain ⟨h129, hm⟩ := chkS hm
    refine g_iast K hw 5 0 rfl (by decide) rfl rfl h129 dX8_takeBack_217 (eM_6 cy ad S127 (((6 * x1) + x.2).toNatClampNeg) (S127.1 11 ((6 * x1) + x.2).toNatClampNeg)) (fun H locs hw => ?_)
    obtain ⟨S130, hS130, hm⟩ := nm_ex hm
    rw [← hS130] at hw
    refine lv_aload_n hx hb dX8_takeBack_218 rfl (lv_at hl 0 rfl) ?_
    refine g_get (ref := "MigrantHeapModel") (C := RX8) (T := TX8) (N := 44) (ci := 8) K in_X8_takeBack_X8 hw 0 rfl (by decide : 0 < 1) rfl rfl 7 (by decide) (List.mem_of_getElem? (i := 12) rfl) rfl rfl dX8_takeBack_219 ?_
    refine lv_bipush (v := 6) hx hb dX8_takeBack_222 (by decide) ?_
    refine lv_iload_n hx hb dX8_takeBack_224 rfl (lv_at hl 1 rfl) ?_
    refine lv_imul hx hb dX8_takeBack_225 ?_
    refine lv_iload_n hx hb dX8_takeBack_226 rfl (lv_at hl 3 rfl) ?_
    refine lv_iadd hx hb dX8_takeBack_227 ?_
    refine lv_aload_n hx hb dX8_takeBack_228 rfl (lv_at hl 0 rfl) ?_
    refine g_get (ref := "MigrantHeapModel") (C := RX8) (T := TX8) (N := 44) (ci := 8) K in_X8_takeBack_X8 hw 0 rfl (by decide : 0 < 1) rfl rfl 12 (by decide) (List.mem_of_getElem? (i := 13) rfl) rfl rfl dX8_takeBack_229 ?_
    refine lv_bipush (v := 6) hx hb dX8_takeBack_232 (by decide) ?_
    refine lv_iload_n hx hb dX8_takeBack_234 rfl (lv_at hl 1 rfl) ?_
    refine lv_imul hx hb dX8_takeBack_235 ?_
    refine lv_iload_n hx hb dX8_takeBack_236 rfl (lv_at hl 3 rfl) ?_
    refine lv_iadd hx hb dX8_takeBack_237 ?_
    obtain ⟨h131, hm⟩ := chkS hm
    refine g_iald K hw 11 0 rfl (by decide) rfl rfl h131 dX8_takeBack_238 ?_
    obtain ⟨h132, hm⟩ := chkS hm
    refine g_iast K hw 6 0 rfl (by decide) rfl rfl h132 dX8_takeBack_239 (eM_7 cy ad S130 (((6 * x1) + x.2).toNatClampNeg) (S130.1 12 ((6 * x1) + x.2).toNatClampNeg)) (fun H locs hw => ?_)
    obtain ⟨S133, hS133, hm⟩ := nm_ex hm
    rw [← hS133] at hw
    refine lv_aload_n hx hb dX8_takeBack_240 rfl (lv_at hl 0 rfl) ?_
    refine g_get (ref := "MigrantHeapModel") (C := RX8) (T := TX8) (N := 44) (ci := 8) K in_X8_takeBack_X8 hw 0 rfl (by decide : 0 < 1) rfl rfl 8 (by decide) (List.mem_of_getElem? (i := 14) rfl) rfl rfl dX8_takeBack_241 ?_
    refine lv_bipush (v := 6) hx hb dX8_takeBack_244 (by decide) ?_
    refine lv_iload_n hx hb dX8_takeBack_246 rfl (lv_at hl 1 rfl) ?_
    refine lv_imul hx hb dX8_takeBack_247 ?_
    refine lv_iload_n hx hb dX8_takeBack_248 rfl (lv_at hl 3 rfl) ?_
    refine lv_iadd hx hb dX8_takeBack_249 ?_
    refine lv_aload_n hx hb dX8_takeBack_250 rfl (lv_at hl 0 rfl) ?_
    refine g_get (ref := "MigrantHeapModel") (C := RX8) (T := TX8) (N := 44) (ci := 8) K in_X8_takeBack_X8 hw 0 rfl (by decide : 0 < 1) rfl rfl 13 (by decide) (List.mem_of_getElem? (i := 15) rfl) rfl rfl dX8_takeBack_251 ?_
    refine lv_bipush (v := 6) hx hb dX8_takeBack_254 (by decide) ?_
    refine lv_iload_n hx hb dX8_takeBack_256 rfl (lv_at hl 1 rfl) ?_
    refine lv_imul hx hb dX8_takeBack_257 ?_
    refine lv_iload_n hx hb dX8_takeBack_258 rfl (lv_at hl 3 rfl) ?_
    refine lv_iadd hx hb dX8_takeBack_259 ?_
    obtain ⟨h134, hm⟩ := chkS hm
    refine g_iald K hw 12 0 rfl (by decide) rfl rfl h134 dX8_takeBack_260 ?_
    obtain ⟨h135, hm⟩ := chkS hm
    refine g_iast K hw 7 0 rfl (by decide) rfl rfl h135 dX8_takeBack_261 (eM_8 cy ad S133 (((6 * x1) + x.2).toNatClampNeg) (S133.1 13 ((6 * x1) + x.2).toNatClampNeg)) (fun H locs hw => ?_)
    obtain ⟨S136, hS136, hm⟩ := nm_ex hm
    rw [← hS136] at hw
    obtain ⟨x137, hx137, hm⟩ := nm_ex hm
    refine lv_iinc (v := x137) (lv' := [(3, .int x137), (0, .ref (ad 0 0)), (1, .int x1), (2, .int x2)]) hx hb dX8_takeBack_262 hl (k := 3) rfl (by rw [hx137]; rfl) (by decide) rfl (fun ls hl => ?_)
    refine lv_goto (tgt := 168) hx hb dX8_takeBack_265 (by decide) ?_
    obtain rfl := Option.some.inj hm
    exact hg H locs hw ls (lv_sub hl [1, 2, 3, 0] rfl)
set_option maxRecDepth 100000 in
set_option maxHeartbeats 4000000 in
theorem t_X8_takeBack_L123 (K : Cx p s m args meth c D A (tysC cy) RX8 cX8_takeBack 5 (some .int) wsX8_takeBack (fun _ _ => True)) (n : Nat) (x1 : Int32) (x2 : Int32) (x3 : Int32)  (z : MSt) (hE0 : ∀ w : MSt, z = w → ∀ (H : Heap) (locs : List Loc), Wd D A s.heap (GM cy ad w) H locs → ∀ ls : Array Slot, lv_has ls 5 [(0, .ref (ad 0 0)), (1, .int x1), (2, .int x2), (3, .int x3)] → W p l e rm_X8_takeBack s m args below meth c H locs 0 0 Q (F0 m 160 ls [])) : ∀ (x : (MSt × Int32)), lpO (b_X8_takeBack_123 n x1 x2 x3) n x = some z → (fun (x : (MSt × Int32)) => ∀ (H : Heap) (locs : List Loc), Wd D A s.heap (GM cy ad x.1) H locs → ∀ ls : Array Slot, lv_has ls 5 [(0, .ref (ad 0 0)), (1, .int x1), (2, .int x2), (3, .int x3), (4, .int x.2)] → W p l e rm_X8_takeBack s m args below meth c H locs 0 0 Q (F0 m 123 ls [])) x := by
  intro x hx0
  refine lpO_ind2 (P := fun (x : (MSt × Int32)) => ∀ (H : Heap) (locs : List Loc), Wd D A s.heap (GM cy ad x.1) H locs → ∀ ls : Array Slot, lv_has ls 5 [(0, .ref (ad 0 0)), (1, .int x1), (2, .int x2), (3, .int x3), (4, .int x.2)] → W p l e rm_X8_takeBack s m args below meth c H locs 0 0 Q (F0 m 123 ls [])) (z := z) ?_ n x hx0
  clear hx0 x
  intro x out hm hg H locs hw ls hl 
  obtain ⟨hx, hb, hml, hown, hts, hr, hlo, hK, hA, hX⟩ := id K
  unfold b_X8_takeBack_123 at hm
  refine lv_iload hx hb dX8_takeBack_123 (lv_at hl 4 rfl) ?_
  refine lv_bipush (v := 6) hx hb dX8_takeBack_125 (by decide) ?_
  refine lv_icmp_ge (tgt := 160) hx hb dX8_takeBack_127 (by decide) (fun c138 => ?_) (fun c138 => ?_)
  · replace hm := (if_pos c138).symm.trans hm
    obtain rfl := Option.some.inj hm
    exact hE0 _ hg.symm H locs hw ls (lv_sub hl [0, 1, 2, 3] rfl)
  · replace hm := (if_neg c138).symm.trans hm
    refine lv_aload_n hx hb dX8_takeBack_130 rfl (lv_at hl 0 rfl) ?_
    refine g_get (ref := "MigrantHeapModel") (C := RX8) (T := TX8) (N := 44) (ci := 8) K in_X8_takeBack_X8 hw 0 rfl (by decide : 0 < 1) rfl rfl 16 (by decide) (List.mem_of_getElem? (i := 6) rfl) rfl rfl dX8_takeBack_131 ?_
    refine lv_bipush (v := 6) hx hb dX8_takeBack_134 (by decide) ?_
    refine lv_iload_n hx hb dX8_takeBack_136 rfl (lv_at hl 3 rfl) ?_
    refine lv_imul hx hb dX8_takeBack_137 ?_
    refine lv_iload hx hb dX8_takeBack_138 (lv_at hl 4 rfl) ?_
    refine lv_iadd hx hb dX8_takeBack_140 ?_
    refine lv_aload_n hx hb dX8_takeBack_141 rfl (lv_at hl 0 rfl) ?_
    refine g_get (ref := "MigrantHeapModel") (C := RX8) (T := TX8) (N := 44) (ci := 8) K in_X8_takeBack_X8 hw 0 rfl (by decide : 0 < 1) rfl rfl 17 (by decide) (List.mem_of_getElem? (i := 7) rfl) rfl rfl dX8_takeBack_142 ?_
    refine lv_bipush (v := 6) hx hb dX8_takeBack_145 (by decide) ?_
    refine lv_iload_n hx hb dX8_takeBack_147 rfl (lv_at hl 3 rfl) ?_
    refine lv_imul hx hb dX8_takeBack_148 ?_
    refine lv_iload hx hb dX8_takeBack_149 (lv_at hl 4 rfl) ?_
    refine lv_iadd hx hb dX8_takeBack_151 ?_
    obtain ⟨h139, hm⟩ := chkS hm
    refine g_iald K hw 16 0 rfl (by decide) rfl rfl h139 dX8_takeBack_152 ?_
    obtain ⟨h140, hm⟩ := chkS hm
    refine g_iast K hw 15 0 rfl (by decide) rfl rfl h140 dX8_takeBack_153 (eM_16 cy ad x.1 (((6 * x3) + x.2).toNatClampNeg) (x.1.1 17 ((6 * x3) + x.2).toNatClampNeg)) (fun H locs hw => ?_)
    obtain ⟨S141, hS141, hm⟩ := nm_ex hm
    rw [← hS141] at hw
    obtain ⟨x142, hx142, hm⟩ := nm_ex hm
    refine lv_iinc (v := x142) (lv' := [(4, .int x142), (0, .ref (ad 0 0)), (1, .int x1), (2, .int x2), (3, .int x3)]) hx hb dX8_takeBack_154 hl (k := 4) rfl (by rw [hx142]; rfl) (by decide) rfl (fun ls hl => ?_)
    refine lv_goto (tgt := 123) hx hb dX8_takeBack_157 (by decide) ?_
    obtain rfl := Option.some.inj hm
    exact hg H locs hw ls (lv_sub hl [1, 2, 3, 4, 0] rfl)
set_option maxRecDepth 100000 in
set_option maxHeartbeats 4000000 in
theorem t_X8_takeBack_J119 (K : Cx p s m args meth c D A (tysC cy) RX8 cX8_takeBack 5 (some .int) wsX8_takeBack (fun _ _ => True)) (n : Nat) (S : MSt) (x1 : Int32) (x2 : Int32) (x3 : Int32) (y1 : Int32) (y2 : Int32) {out : (MSt × Int32 × Int32) ⊕ (MSt × Int32)} {z : (MSt × Int32)} (hm : m_X8_takeBack_J119 n S x1 x2 x3 y1 y2 = some out) (hg : Gd (fun (x : (MSt × Int32 × Int32)) => ∀ (H : Heap) (locs : List Loc), Wd D A s.heap (GM cy ad x.1) H locs → ∀ ls : Array Slot, lv_has ls 5 [(0, .ref (ad 0 0)), (1, .int x1), (2, .int x.2.1), (3, .int x.2.2)] → W p l e rm_X8_takeBack s m args below meth c H locs 0 0 Q (F0 m 43 ls [])) z out) (hE0 : ∀ w : (MSt × Int32), z = w → ∀ (H : Heap) (locs : List Loc), Wd D A s.heap (GM cy ad w.1) H locs → ∀ ls : Array Slot, lv_has ls 5 [(0, .ref (ad 0 0)), (1, .int x1), (2, .int w.2)] → W p l e rm_X8_takeBack s m args below meth c H locs 0 0 Q (F0 m 166 ls [])) : ∀ (H : Heap) (locs : List Loc), Wd D A s.heap (GM cy ad S) H locs → ∀ ls : Array Slot, lv_has ls 5 [(0, .ref (ad 0 0)), (1, .int x1), (2, .int x2), (3, .int x3)] → W p l e rm_X8_takeBack s m args below meth c H locs 0 0 Q (F0 m 119 ls [.int y2, .int y1, .ref (ad 14 0)]) := by
  intro H locs hw ls hl 
  obtain ⟨hx, hb, hml, hown, hts, hr, hlo, hK, hA, hX⟩ := id K
  unfold m_X8_takeBack_J119 at hm
  obtain ⟨h143, hm⟩ := chkS hm
  refine g_iast K hw 14 0 rfl (by decide) rfl rfl h143 dX8_takeBack_119 (eM_15 cy ad S y1.toNatClampNeg y2) (fun H locs hw => ?_)
  obtain ⟨S144, hS144, hm⟩ := nm_ex hm
  rw [← hS144] at hw
  refine lv_iconst (v := 0) hx hb dX8_takeBack_120 (by decide) ?_
  refine lv_istore (lv' := [(4, .int 0), (0, .ref (ad 0 0)), (1, .int x1), (2, .int x2), (3, .int x3)]) hx hb dX8_takeBack_121 hl (by decide) rfl (fun ls hl => ?_)
  obtain ⟨z145, hz146, hm⟩ := bindS hm
  refine t_X8_takeBack_L123 K n x1 x2 x3 z145 (fun w147 hww147 => ?_) ((S144, 0)) hz146 H locs hw ls (lv_sub hl [1, 2, 3, 4, 0] rfl)
  · intro H locs hw ls hl 
    try rw [hww147] at hm
    obtain ⟨x148, hx148, hm⟩ := nm_ex hm
    refine lv_iinc (v := x148) (lv' := [(3, .int x148), (0, .ref (ad 0 0)), (1, .int x1), (2, .int x2)]) hx hb dX8_takeBack_160 hl (k := 3) rfl (by rw [hx148]; rfl) (by decide) rfl (fun ls hl => ?_)
    refine lv_goto (tgt := 43) hx hb dX8_takeBack_163 (by decide) ?_
    obtain rfl := Option.some.inj hm
    exact hg H locs hw ls (lv_sub hl [1, 2, 3, 0] rfl)
set_option maxRecDepth 100000 in
set_option maxHeartbeats 4000000 in
theorem t_X8_takeBack_J80 (K : Cx p s m args meth c D A (tysC cy) RX8 cX8_takeBack 5 (some .int) wsX8_takeBack (fun _ _ => True)) (n : Nat) (S : MSt) (x1 : Int32) (x3 : Int32) (y0 : Int32) (y1 : Int32) {out : (MSt × Int32 × Int32) ⊕ (MSt × Int32)} {z : (MSt × Int32)} (hm : m_X8_takeBack_J80 n S x1 x3 y0 y1 = some out) (hg : Gd (fun (x : (MSt × Int32 × Int32)) => ∀ (H : Heap) (locs : List Loc), Wd D A s.heap (GM cy ad x.1) H locs → ∀ ls : Array Slot, lv_has ls 5 [(0, .ref (ad 0 0)), (1, .int x1), (2, .int x.2.1), (3, .int x.2.2)] → W p l e rm_X8_takeBack s m args below meth c H locs 0 0 Q (F0 m 43 ls [])) z out) (hE0 : ∀ w : (MSt × Int32), z = w → ∀ (H : Heap) (locs : List Loc), Wd D A s.heap (GM cy ad w.1) H locs → ∀ ls : Array Slot, lv_has ls 5 [(0, .ref (ad 0 0)), (1, .int x1), (2, .int w.2)] → W p l e rm_X8_takeBack s m args below meth c H locs 0 0 Q (F0 m 166 ls [])) : ∀ (H : Heap) (locs : List Loc), Wd D A s.heap (GM cy ad S) H locs → ∀ ls : Array Slot, lv_has ls 5 [(0, .ref (ad 0 0)), (1, .int x1), (3, .int x3)] → W p l e rm_X8_takeBack s m args below meth c H locs 0 0 Q (F0 m 80 ls [.int y1, .int y0]) := by
  intro H locs hw ls hl 
  obtain ⟨hx, hb, hml, hown, hts, hr, hlo, hK, hA, hX⟩ := id K
  unfold m_X8_takeBack_J80 at hm
  refine lv_iadd hx hb dX8_takeBack_80 ?_
  obtain ⟨x149, hx149, hm⟩ := nm_ex hm
  refine W.eq (g2 := F0 m 81 ls (.int x149 :: [])) (by rw [hx149]) ?_
  refine lv_istore_n (lv' := [(2, .int x149), (0, .ref (ad 0 0)), (1, .int x1), (3, .int x3)]) hx hb dX8_takeBack_81 rfl hl (by decide) rfl (fun ls hl => ?_)
  refine lv_aload_n hx hb dX8_takeBack_82 rfl (lv_at hl 1 rfl) ?_
  refine g_get (ref := "MigrantHeapModel") (C := RX8) (T := TX8) (N := 44) (ci := 8) K in_X8_takeBack_X8 hw 0 rfl (by decide : 0 < 1) rfl rfl 15 (by decide) (List.mem_of_getElem? (i := 4) rfl) rfl rfl dX8_takeBack_83 ?_
  refine lv_iload_n hx hb dX8_takeBack_86 rfl (lv_at hl 3 rfl) ?_
  refine lv_aload_n hx hb dX8_takeBack_87 rfl (lv_at hl 1 rfl) ?_
  refine g_get (ref := "MigrantHeapModel") (C := RX8) (T := TX8) (N := 44) (ci := 8) K in_X8_takeBack_X8 hw 0 rfl (by decide : 0 < 1) rfl rfl 15 (by decide) (List.mem_of_getElem? (i := 4) rfl) rfl rfl dX8_takeBack_88 ?_
  refine lv_iload_n hx hb dX8_takeBack_91 rfl (lv_at hl 3 rfl) ?_
  obtain ⟨h150, hm⟩ := chkS hm
  refine g_iald K hw 14 0 rfl (by decide) rfl rfl h150 dX8_takeBack_92 ?_
  refine lv_aload_n hx hb dX8_takeBack_93 rfl (lv_at hl 1 rfl) ?_
  refine g_get (ref := "MigrantHeapModel") (C := RX8) (T := TX8) (N := 44) (ci := 8) K in_X8_takeBack_X8 hw 0 rfl (by decide : 0 < 1) rfl rfl 2 (by decide) (List.mem_of_getElem? (i := 5) rfl) rfl rfl dX8_takeBack_94 ?_
  refine lv_iload_n hx hb dX8_takeBack_97 rfl (lv_at hl 2 rfl) ?_
  obtain ⟨h151, hm⟩ := chkS hm
  refine g_iald K hw 1 0 rfl (by decide) rfl rfl h151 dX8_takeBack_98 ?_
  refine lv_icmp_ne (tgt := 113) hx hb dX8_takeBack_99 (by decide) (fun c152 => ?_) (fun c152 => ?_)
  · replace hm := (if_pos c152).symm.trans hm
    refine lv_aload_n hx hb dX8_takeBack_113 rfl (lv_at hl 1 rfl) ?_
    refine g_get (ref := "MigrantHeapModel") (C := RX8) (T := TX8) (N := 44) (ci := 8) K in_X8_takeBack_X8 hw 0 rfl (by decide : 0 < 1) rfl rfl 15 (by decide) (List.mem_of_getElem? (i := 4) rfl) rfl rfl dX8_takeBack_114 ?_
    refine lv_iload_n hx hb dX8_takeBack_117 rfl (lv_at hl 3 rfl) ?_
    obtain ⟨h153, hm⟩ := chkS hm
    refine g_iald K hw 14 0 rfl (by decide) rfl rfl h153 dX8_takeBack_118 ?_
    exact t_X8_takeBack_J119 K n S x1 x149 x3 x3 (S.1 15 x3.toNatClampNeg) hm hg hE0 H locs hw ls (lv_sub hl [1, 2, 0, 3] rfl)
  · replace hm := (if_neg (fun h => h c152)).symm.trans hm
    refine lv_aload_n hx hb dX8_takeBack_102 rfl (lv_at hl 1 rfl) ?_
    refine g_get (ref := "MigrantHeapModel") (C := RX8) (T := TX8) (N := 44) (ci := 8) K in_X8_takeBack_X8 hw 0 rfl (by decide : 0 < 1) rfl rfl 15 (by decide) (List.mem_of_getElem? (i := 4) rfl) rfl rfl dX8_takeBack_103 ?_
    refine lv_iload_n hx hb dX8_takeBack_106 rfl (lv_at hl 3 rfl) ?_
    obtain ⟨h154, hm⟩ := chkS hm
    refine g_iald K hw 14 0 rfl (by decide) rfl rfl h154 dX8_takeBack_107 ?_
    refine lv_iconst (v := 1) hx hb dX8_takeBack_108 (by decide) ?_
    refine lv_isub hx hb dX8_takeBack_109 ?_
    refine lv_goto (tgt := 119) hx hb dX8_takeBack_110 (by decide) ?_
    exact t_X8_takeBack_J119 K n S x1 x149 x3 x3 ((S.1 15 x3.toNatClampNeg) - 1) hm hg hE0 H locs hw ls (lv_sub hl [1, 2, 0, 3] rfl)
set_option maxRecDepth 100000 in
set_option maxHeartbeats 4000000 in
theorem t_X8_takeBack_L43 (K : Cx p s m args meth c D A (tysC cy) RX8 cX8_takeBack 5 (some .int) wsX8_takeBack (fun _ _ => True)) (n : Nat) (x1 : Int32)  (z : (MSt × Int32)) (hE0 : ∀ w : (MSt × Int32), z = w → ∀ (H : Heap) (locs : List Loc), Wd D A s.heap (GM cy ad w.1) H locs → ∀ ls : Array Slot, lv_has ls 5 [(0, .ref (ad 0 0)), (1, .int x1), (2, .int w.2)] → W p l e rm_X8_takeBack s m args below meth c H locs 0 0 Q (F0 m 166 ls [])) : ∀ (x : (MSt × Int32 × Int32)), lpO (b_X8_takeBack_43 n x1) n x = some z → (fun (x : (MSt × Int32 × Int32)) => ∀ (H : Heap) (locs : List Loc), Wd D A s.heap (GM cy ad x.1) H locs → ∀ ls : Array Slot, lv_has ls 5 [(0, .ref (ad 0 0)), (1, .int x1), (2, .int x.2.1), (3, .int x.2.2)] → W p l e rm_X8_takeBack s m args below meth c H locs 0 0 Q (F0 m 43 ls [])) x := by
  intro x hx0
  refine lpO_ind2 (P := fun (x : (MSt × Int32 × Int32)) => ∀ (H : Heap) (locs : List Loc), Wd D A s.heap (GM cy ad x.1) H locs → ∀ ls : Array Slot, lv_has ls 5 [(0, .ref (ad 0 0)), (1, .int x1), (2, .int x.2.1), (3, .int x.2.2)] → W p l e rm_X8_takeBack s m args below meth c H locs 0 0 Q (F0 m 43 ls [])) (z := z) ?_ n x hx0
  clear hx0 x
  intro x out hm hg H locs hw ls hl 
  obtain ⟨hx, hb, hml, hown, hts, hr, hlo, hK, hA, hX⟩ := id K
  unfold b_X8_takeBack_43 at hm
  refine lv_iload_n hx hb dX8_takeBack_43 rfl (lv_at hl 3 rfl) ?_
  refine lv_bipush (v := 24) hx hb dX8_takeBack_44 (by decide) ?_
  refine lv_icmp_ge (tgt := 166) hx hb dX8_takeBack_46 (by decide) (fun c155 => ?_) (fun c155 => ?_)
  · replace hm := (if_pos c155).symm.trans hm
    obtain rfl := Option.some.inj hm
    exact hE0 _ hg.symm H locs hw ls (lv_sub hl [0, 1, 2] rfl)
  · replace hm := (if_neg c155).symm.trans hm
    refine lv_aload_n hx hb dX8_takeBack_49 rfl (lv_at hl 0 rfl) ?_
    refine g_get (ref := "MigrantHeapModel") (C := RX8) (T := TX8) (N := 44) (ci := 8) K in_X8_takeBack_X8 hw 0 rfl (by decide : 0 < 1) rfl rfl 14 (by decide) (List.mem_of_getElem? (i := 3) rfl) rfl rfl dX8_takeBack_50 ?_
    refine lv_iload_n hx hb dX8_takeBack_53 rfl (lv_at hl 3 rfl) ?_
    obtain ⟨h156, hm⟩ := chkS hm
    refine g_iald K hw 13 0 rfl (by decide) rfl rfl h156 dX8_takeBack_54 ?_
    refine lv_iload_n hx hb dX8_takeBack_55 rfl (lv_at hl 1 rfl) ?_
    refine lv_icmp_ne (tgt := 160) hx hb dX8_takeBack_56 (by decide) (fun c157 => ?_) (fun c157 => ?_)
    · replace hm := (if_pos c157).symm.trans hm
      obtain ⟨x158, hx158, hm⟩ := nm_ex hm
      refine lv_iinc (v := x158) (lv' := [(3, .int x158), (0, .ref (ad 0 0)), (1, .int x1), (2, .int x.2.1)]) hx hb dX8_takeBack_160 hl (k := 3) rfl (by rw [hx158]; rfl) (by decide) rfl (fun ls hl => ?_)
      refine lv_goto (tgt := 43) hx hb dX8_takeBack_163 (by decide) ?_
      obtain rfl := Option.some.inj hm
      exact hg H locs hw ls (lv_sub hl [1, 2, 3, 0] rfl)
    · replace hm := (if_neg (fun h => h c157)).symm.trans hm
      refine lv_iload_n hx hb dX8_takeBack_59 rfl (lv_at hl 2 rfl) ?_
      refine lv_aload_n hx hb dX8_takeBack_60 rfl (lv_at hl 0 rfl) ?_
      refine g_get (ref := "MigrantHeapModel") (C := RX8) (T := TX8) (N := 44) (ci := 8) K in_X8_takeBack_X8 hw 0 rfl (by decide : 0 < 1) rfl rfl 15 (by decide) (List.mem_of_getElem? (i := 4) rfl) rfl rfl dX8_takeBack_61 ?_
      refine lv_iload_n hx hb dX8_takeBack_64 rfl (lv_at hl 3 rfl) ?_
      obtain ⟨h159, hm⟩ := chkS hm
      refine g_iald K hw 14 0 rfl (by decide) rfl rfl h159 dX8_takeBack_65 ?_
      refine lv_aload_n hx hb dX8_takeBack_66 rfl (lv_at hl 0 rfl) ?_
      refine g_get (ref := "MigrantHeapModel") (C := RX8) (T := TX8) (N := 44) (ci := 8) K in_X8_takeBack_X8 hw 0 rfl (by decide : 0 < 1) rfl rfl 2 (by decide) (List.mem_of_getElem? (i := 5) rfl) rfl rfl dX8_takeBack_67 ?_
      refine lv_iload_n hx hb dX8_takeBack_70 rfl (lv_at hl 1 rfl) ?_
      obtain ⟨h160, hm⟩ := chkS hm
      refine g_iald K hw 1 0 rfl (by decide) rfl rfl h160 dX8_takeBack_71 ?_
      refine lv_icmp_ne (tgt := 79) hx hb dX8_takeBack_72 (by decide) (fun c161 => ?_) (fun c161 => ?_)
      · replace hm := (if_pos c161).symm.trans hm
        refine lv_iconst (v := 0) hx hb dX8_takeBack_79 (by decide) ?_
        exact t_X8_takeBack_J80 K n x.1 x1 x.2.2 x.2.1 0 hm hg hE0 H locs hw ls (lv_sub hl [0, 1, 3] rfl)
      · replace hm := (if_neg (fun h => h c161)).symm.trans hm
        refine lv_iconst (v := 1) hx hb dX8_takeBack_75 (by decide) ?_
        refine lv_goto (tgt := 80) hx hb dX8_takeBack_76 (by decide) ?_
        exact t_X8_takeBack_J80 K n x.1 x1 x.2.2 x.2.1 1 hm hg hE0 H locs hw ls (lv_sub hl [0, 1, 3] rfl)
set_option maxRecDepth 100000 in
set_option maxHeartbeats 4000000 in
theorem t_X8_takeBack_J27 (K : Cx p s m args meth c D A (tysC cy) RX8 cX8_takeBack 5 (some .int) wsX8_takeBack (fun _ _ => True)) (n : Nat) (S : MSt) (x1 : Int32) (y1 : Int32) {out : Int32 × MSt} (hm : m_X8_takeBack_J27 n S x1 y1 = some out) : ∀ (H : Heap) (locs : List Loc), Wd D A s.heap (GM cy ad S) H locs → ∀ ls : Array Slot, lv_has ls 5 [(0, .ref (ad 0 0)), (1, .int x1)] → W p l e rm_X8_takeBack s m args below meth c H locs 0 0 (MQ below (va_Qi (fun r (u : MSt) => out = (r, u)) (fun u => Pst D (tysC cy) A (GM cy ad u)) A) args s 0 0 A) (F0 m 27 ls [.int y1, .ref (ad 0 0)]) := by
  intro H locs hw ls hl 
  obtain ⟨hx, hb, hml, hown, hts, hr, hlo, hK, hA, hX⟩ := id K
  unfold m_X8_takeBack_J27 at hm
  refine g_put (v := .int y1) (ty := .int) (ref := "MigrantHeapModel") (C := RX8) (T := TX8) (N := 44) (ci := 8) K in_X8_takeBack_X8 tyX8 tyX8_ok nmX8 hw 0 rfl (by decide : 0 < 1) rfl rfl 0 (by decide) (List.mem_of_getElem? (i := 2) rfl) rfl rfl (by decide +kernel) rfl rfl (Nat.le_of_ble_eq_true rfl) dX8_takeBack_27 (eM_0 cy ad S y1) (fun H locs hw => ?_)
  obtain ⟨S162, hS162, hm⟩ := nm_ex hm
  rw [← hS162] at hw
  refine lv_aload_n hx hb dX8_takeBack_30 rfl (lv_at hl 0 rfl) ?_
  refine g_get (ref := "MigrantHeapModel") (C := RX8) (T := TX8) (N := 44) (ci := 8) K in_X8_takeBack_X8 hw 0 rfl (by decide : 0 < 1) rfl rfl 0 (by decide) (List.mem_of_getElem? (i := 2) rfl) rfl rfl dX8_takeBack_31 ?_
  refine lv_if_le (tgt := 39) hx hb dX8_takeBack_34 (by decide) (fun c163 => ?_) (fun c163 => ?_)
  · replace hm := (if_pos c163).symm.trans hm
    refine lv_iconst (v := 0) hx hb dX8_takeBack_39 (by decide) ?_
    refine lv_istore_n (lv' := [(2, .int 0), (0, .ref (ad 0 0)), (1, .int x1)]) hx hb dX8_takeBack_40 rfl hl (by decide) rfl (fun ls hl => ?_)
    refine lv_iconst (v := 0) hx hb dX8_takeBack_41 (by decide) ?_
    refine lv_istore_n (lv' := [(3, .int 0), (2, .int 0), (0, .ref (ad 0 0)), (1, .int x1)]) hx hb dX8_takeBack_42 rfl hl (by decide) rfl (fun ls hl => ?_)
    obtain ⟨z164, hz165, hm⟩ := bindS hm
    refine t_X8_takeBack_L43 K n x1 z164 (fun w166 hww166 => ?_) ((S162, 0, 0)) hz165 H locs hw ls (lv_sub hl [2, 3, 1, 0] rfl)
    · intro H locs hw ls hl 
      try rw [hww166] at hm
      refine lv_iconst (v := 0) hx hb dX8_takeBack_166 (by decide) ?_
      refine lv_istore_n (lv' := [(3, .int 0), (0, .ref (ad 0 0)), (1, .int x1), (2, .int w166.2)]) hx hb dX8_takeBack_167 rfl hl (by decide) rfl (fun ls hl => ?_)
      obtain ⟨z167, hz168, hm⟩ := bindS hm
      refine t_X8_takeBack_L168 K n x1 w166.2 z167 (fun w169 hww169 => ?_) ((w166.1, 0)) hz168 H locs hw ls (lv_sub hl [1, 2, 3, 0] rfl)
      · intro H locs hw ls hl 
        try rw [hww169] at hm
        refine lv_aload_n hx hb dX8_takeBack_268 rfl (lv_at hl 0 rfl) ?_
        refine g_get (ref := "MigrantHeapModel") (C := RX8) (T := TX8) (N := 44) (ci := 8) K in_X8_takeBack_X8 hw 0 rfl (by decide : 0 < 1) rfl rfl 4 (by decide) (List.mem_of_getElem? (i := 16) rfl) rfl rfl dX8_takeBack_269 ?_
        refine lv_iload_n hx hb dX8_takeBack_272 rfl (lv_at hl 1 rfl) ?_
        refine lv_aload_n hx hb dX8_takeBack_273 rfl (lv_at hl 0 rfl) ?_
        refine g_get (ref := "MigrantHeapModel") (C := RX8) (T := TX8) (N := 44) (ci := 8) K in_X8_takeBack_X8 hw 0 rfl (by decide : 0 < 1) rfl rfl 9 (by decide) (List.mem_of_getElem? (i := 17) rfl) rfl rfl dX8_takeBack_274 ?_
        refine lv_iload_n hx hb dX8_takeBack_277 rfl (lv_at hl 1 rfl) ?_
        obtain ⟨h170, hm⟩ := chkS hm
        refine g_iald K hw 8 0 rfl (by decide) rfl rfl h170 dX8_takeBack_278 ?_
        obtain ⟨h171, hm⟩ := chkS hm
        refine g_iast K hw 3 0 rfl (by decide) rfl rfl h171 dX8_takeBack_279 (eM_4 cy ad w169 x1.toNatClampNeg (w169.1 9 x1.toNatClampNeg)) (fun H locs hw => ?_)
        obtain ⟨S172, hS172, hm⟩ := nm_ex hm
        rw [← hS172] at hw
        refine lv_aload_n hx hb dX8_takeBack_280 rfl (lv_at hl 0 rfl) ?_
        refine g_get (ref := "MigrantHeapModel") (C := RX8) (T := TX8) (N := 44) (ci := 8) K in_X8_takeBack_X8 hw 0 rfl (by decide : 0 < 1) rfl rfl 2 (by decide) (List.mem_of_getElem? (i := 5) rfl) rfl rfl dX8_takeBack_281 ?_
        refine lv_iload_n hx hb dX8_takeBack_284 rfl (lv_at hl 1 rfl) ?_
        refine lv_dup2_11 hx hb dX8_takeBack_285 rfl rfl ?_
        obtain ⟨h173, hm⟩ := chkS hm
        refine g_iald K hw 1 0 rfl (by decide) rfl rfl h173 dX8_takeBack_286 ?_
        refine lv_iconst (v := 1) hx hb dX8_takeBack_287 (by decide) ?_
        refine lv_isub hx hb dX8_takeBack_288 ?_
        obtain ⟨h174, hm⟩ := chkS hm
        refine g_iast K hw 1 0 rfl (by decide) rfl rfl h174 dX8_takeBack_289 (eM_2 cy ad S172 x1.toNatClampNeg ((S172.1 2 x1.toNatClampNeg) - 1)) (fun H locs hw => ?_)
        obtain ⟨S175, hS175, hm⟩ := nm_ex hm
        rw [← hS175] at hw
        refine lv_aload_n hx hb dX8_takeBack_290 rfl (lv_at hl 0 rfl) ?_
        refine g_get (ref := "MigrantHeapModel") (C := RX8) (T := TX8) (N := 44) (ci := 8) K in_X8_takeBack_X8 hw 0 rfl (by decide : 0 < 1) rfl rfl 3 (by decide) (List.mem_of_getElem? (i := 1) rfl) rfl rfl dX8_takeBack_291 ?_
        refine lv_iload_n hx hb dX8_takeBack_294 rfl (lv_at hl 1 rfl) ?_
        refine lv_iconst (v := 0) hx hb dX8_takeBack_295 (by decide) ?_
        obtain ⟨h176, hm⟩ := chkS hm
        refine g_zast K hw 2 2 rfl (by decide) rfl rfl h176 rfl dX8_takeBack_296 (eM_3 cy ad S175 x1.toNatClampNeg 0) (fun H locs hw => ?_)
        obtain ⟨S177, hS177, hm⟩ := nm_ex hm
        rw [← hS177] at hw
        refine lv_iload_n hx hb dX8_takeBack_297 rfl (lv_at hl 2 rfl) ?_
        exact g_iret (GG := GM cy ad) K hw (Option.some.inj hm).symm dX8_takeBack_298
  · replace hm := (if_neg c163).symm.trans hm
    refine lv_iconst (v := 0) hx hb dX8_takeBack_37 (by decide) ?_
    exact g_iret (GG := GM cy ad) K hw (Option.some.inj hm).symm dX8_takeBack_38
set_option maxRecDepth 100000 in
set_option maxHeartbeats 4000000 in
theorem t_X8_takeBack_0 (K : Cx p s m args meth c D A (tysC cy) RX8 cX8_takeBack 5 (some .int) wsX8_takeBack (fun _ _ => True)) (n : Nat) (S : MSt) (x1 : Int32)  {out : Int32 × MSt} (hm : m_X8_takeBack n S x1 = some out) : ∀ (H : Heap) (locs : List Loc), Wd D A s.heap (GM cy ad S) H locs → ∀ ls : Array Slot, lv_has ls 5 [(0, .ref (ad 0 0)), (1, .int x1)] → W p l e rm_X8_takeBack s m args below meth c H locs 0 0 (MQ below (va_Qi (fun r (u : MSt) => out = (r, u)) (fun u => Pst D (tysC cy) A (GM cy ad u)) A) args s 0 0 A) (F0 m 0 ls []) := by
  intro H locs hw ls hl
  obtain ⟨hx, hb, hml, hown, hts, hr, hlo, hK, hA, hX⟩ := id K
  unfold m_X8_takeBack at hm
  refine lv_aload_n hx hb dX8_takeBack_0 rfl (lv_at hl 0 rfl) ?_
  refine lv_aload_n hx hb dX8_takeBack_1 rfl (lv_at hl 0 rfl) ?_
  refine lv_iload_n hx hb dX8_takeBack_2 rfl (lv_at hl 1 rfl) ?_
  obtain ⟨z179, hc178, hm⟩ := bindS hm
  refine g_calli (GG := GM cy ad) K hw (va_runV (As := [.int x1]) (rest := [.ref (ad 0 0)]) (g_fix K) (c_X8_isClass l D cy ad H.size n S x1  hc178) (cwV 1 (g_hts K) gX8_takeBack_X8_isClass rfl rfl rfl (by decide +kernel) ⟨Nat.le_of_ble_eq_true rfl, Nat.le_of_ble_eq_true rfl⟩) ⟨g_blind rides_none, g_recv K hw 0 rfl (by decide : 0 < 1) rfl rfl, g_pre (X2 := fun _ _ => True) K hw (fun _ _ _ => trivial)⟩ rfl rfl hl.1 rfl (lv_room (Nat.le_of_ble_eq_true rfl)) dX8_takeBack_3 ⟨Nat.le_of_ble_eq_true rfl, Nat.le_of_ble_eq_true rfl⟩) (fun r u H locs hp hw => ?_)
  obtain ⟨rfl, hu⟩ := hp
  rw [hu] at hw
  refine lv_if_ne (tgt := 13) hx hb dX8_takeBack_6 (by decide) (fun c180 => ?_) (fun c180 => ?_)
  · replace hm := (if_pos c180).symm.trans hm
    refine lv_aload_n hx hb dX8_takeBack_13 rfl (lv_at hl 0 rfl) ?_
    refine g_get (ref := "MigrantHeapModel") (C := RX8) (T := TX8) (N := 44) (ci := 8) K in_X8_takeBack_X8 hw 0 rfl (by decide : 0 < 1) rfl rfl 3 (by decide) (List.mem_of_getElem? (i := 1) rfl) rfl rfl dX8_takeBack_14 ?_
    refine lv_iload_n hx hb dX8_takeBack_17 rfl (lv_at hl 1 rfl) ?_
    obtain ⟨h181, hm⟩ := chkS hm
    refine g_zald K hw 2 2 rfl (by decide) rfl rfl h181 dX8_takeBack_18 ?_
    refine lv_if_ne (tgt := 26) hx hb dX8_takeBack_19 (by decide) (fun c182 => ?_) (fun c182 => ?_)
    · replace hm := (if_pos c182).symm.trans hm
      refine lv_iconst (v := 0) hx hb dX8_takeBack_26 (by decide) ?_
      exact t_X8_takeBack_J27 K n S x1 0 hm H locs hw ls (lv_sub hl [0, 1] rfl)
    · replace hm := (if_neg (fun h => h c182)).symm.trans hm
      refine lv_iconst (v := 2) hx hb dX8_takeBack_22 (by decide) ?_
      refine lv_goto (tgt := 27) hx hb dX8_takeBack_23 (by decide) ?_
      exact t_X8_takeBack_J27 K n S x1 2 hm H locs hw ls (lv_sub hl [0, 1] rfl)
  · replace hm := (if_neg (fun h => h c180)).symm.trans hm
    refine lv_iconst (v := 1) hx hb dX8_takeBack_9 (by decide) ?_
    refine lv_goto (tgt := 27) hx hb dX8_takeBack_10 (by decide) ?_
    exact t_X8_takeBack_J27 K n S x1 1 hm H locs hw ls (lv_sub hl [0, 1] rfl)
set_option maxRecDepth 100000 in
set_option maxHeartbeats 4000000 in
theorem c_X8_takeBack (l : Launch) (D : va_G) (cy : Nat → ClassId) (ad : Nat → Nat → Nat) (sz n : Nat) (S : MSt) (x1 : Int32)  {out : Int32 × MSt} (hm : m_X8_takeBack n S x1 = some out) : Met l yX8_takeBack wsX8_takeBack rm_X8_takeBack (va_Pc [.ref (ad 0 0), .int x1] (Pre D (tysC cy) (GM cy ad S) (fun _ _ => True) sz)) (va_Qi (fun r (u : MSt) => out = (r, u)) (fun u => Pst D (tysC cy) (AA (adrs (GM cy ad S)) sz) (GM cy ad u)) (AA (adrs (GM cy ad S)) sz)) 0 0 (AA (adrs (GM cy ad S)) sz) := by
  refine g_met (by decide) rfl (Nat.le_of_ble_eq_true rfl) ?_
  intro p e s m args below meth c K hw ls hl
  exact t_X8_takeBack_0 (cy := cy) K n S x1  hm _ _ hw ls hl
end W_X8_takeBack
section W_X8_holdsNothing
variable {p : Program} {l : Launch} {e : Env} {s : State} {m : MethodId} {args : Array Value} {below : List Frame} {meth : Method} {c : Code} {D : va_G} {A : Nat → Prop} {cy : Nat → ClassId} {ad : Nat → Nat → Nat} {Q : State → Prop}
abbrev rm_X8_holdsNothing : Room := { frames := 1, cells := 0, slots := 0, locals := 20 }
theorem in_X8_holdsNothing_X8 : ∀ w ∈ u_ws RX8 TX8 44, w ∈ wsX8_holdsNothing := by decide +kernel
set_option maxRecDepth 100000 in
set_option maxHeartbeats 4000000 in
theorem t_X8_holdsNothing_J26 (K : Cx p s m args meth c D A (tysC cy) RX8 cX8_holdsNothing 2 (some .boolean) wsX8_holdsNothing (fun _ _ => True)) (n : Nat) (S : MSt) (y1 : Int32) {out : Int32 × MSt} (hm : m_X8_holdsNothing_J26 n S y1 = some out) : ∀ (H : Heap) (locs : List Loc), Wd D A s.heap (GM cy ad S) H locs → ∀ ls : Array Slot, lv_has ls 2 [(0, .ref (ad 0 0))] → W p l e rm_X8_holdsNothing s m args below meth c H locs 0 0 (MQ below (va_Qi (fun r (u : MSt) => out = (r, u)) (fun u => Pst D (tysC cy) A (GM cy ad u)) A) args s 0 0 A) (F0 m 26 ls [.int y1, .ref (ad 0 0)]) := by
  intro H locs hw ls hl 
  obtain ⟨hx, hb, hml, hown, hts, hr, hlo, hK, hA, hX⟩ := id K
  unfold m_X8_holdsNothing_J26 at hm
  refine g_put (v := .int y1) (ty := .int) (ref := "MigrantHeapModel") (C := RX8) (T := TX8) (N := 44) (ci := 8) K in_X8_holdsNothing_X8 tyX8 tyX8_ok nmX8 hw 0 rfl (by decide : 0 < 1) rfl rfl 0 (by decide) (List.mem_of_getElem? (i := 2) rfl) rfl rfl (by decide +kernel) rfl rfl (Nat.le_of_ble_eq_true rfl) dX8_holdsNothing_26 (eM_0 cy ad S y1) (fun H locs hw => ?_)
  obtain ⟨S13, hS13, hm⟩ := nm_ex hm
  rw [← hS13] at hw
  refine lv_aload_n hx hb dX8_holdsNothing_29 rfl (lv_at hl 0 rfl) ?_
  refine g_get (ref := "MigrantHeapModel") (C := RX8) (T := TX8) (N := 44) (ci := 8) K in_X8_holdsNothing_X8 hw 0 rfl (by decide : 0 < 1) rfl rfl 0 (by decide) (List.mem_of_getElem? (i := 2) rfl) rfl rfl dX8_holdsNothing_30 ?_
  refine lv_if_le (tgt := 40) hx hb dX8_holdsNothing_33 (by decide) (fun c14 => ?_) (fun c14 => ?_)
  · replace hm := (if_pos c14).symm.trans hm
    refine lv_iconst (v := 0) hx hb dX8_holdsNothing_40 (by decide) ?_
    exact g_zret (GG := GM cy ad) K hw rfl (Option.some.inj hm).symm dX8_holdsNothing_41
  · replace hm := (if_neg c14).symm.trans hm
    refine lv_iconst (v := 1) hx hb dX8_holdsNothing_36 (by decide) ?_
    refine lv_goto (tgt := 41) hx hb dX8_holdsNothing_37 (by decide) ?_
    exact g_zret (GG := GM cy ad) K hw rfl (Option.some.inj hm).symm dX8_holdsNothing_41
set_option maxRecDepth 100000 in
set_option maxHeartbeats 4000000 in
theorem t_X8_holdsNothing_0 (K : Cx p s m args meth c D A (tysC cy) RX8 cX8_holdsNothing 2 (some .boolean) wsX8_holdsNothing (fun _ _ => True)) (n : Nat) (S : MSt) (x1 : Int32)  {out : Int32 × MSt} (hm : m_X8_holdsNothing n S x1 = some out) : ∀ (H : Heap) (locs : List Loc), Wd D A s.heap (GM cy ad S) H locs → ∀ ls : Array Slot, lv_has ls 2 [(0, .ref (ad 0 0)), (1, .int x1)] → W p l e rm_X8_holdsNothing s m args below meth c H locs 0 0 (MQ below (va_Qi (fun r (u : MSt) => out = (r, u)) (fun u => Pst D (tysC cy) A (GM cy ad u)) A) args s 0 0 A) (F0 m 0 ls []) := by
  intro H locs hw ls hl
  obtain ⟨hx, hb, hml, hown, hts, hr, hlo, hK, hA, hX⟩ := id K
  unfold m_X8_holdsNothing at hm
  refine lv_aload_n hx hb dX8_holdsNothing_0 rfl (lv_at hl 0 rfl) ?_
  refine lv_iload_n hx hb dX8_holdsNothing_1 rfl (lv_at hl 1 rfl) ?_
  obtain ⟨z16, hc15, hm⟩ := bindS hm
  refine g_calli (GG := GM cy ad) K hw (va_runS (As := [.int x1]) (rest := [.ref (ad 0 0)]) (g_fix K) (c_X8_isRoot l D cy ad H.size n S x1  hc15) (va_cwS 1 (g_hts K) gX8_holdsNothing_X8_isRoot rfl rfl rfl (by decide +kernel) ⟨Nat.le_of_ble_eq_true rfl, Nat.le_of_ble_eq_true rfl⟩) ⟨g_blind rides_none, g_pre (X2 := fun _ _ => True) K hw (fun _ _ _ => trivial)⟩ rfl rfl hl.1 rfl (lv_room (Nat.le_of_ble_eq_true rfl)) dX8_holdsNothing_2 ⟨Nat.le_of_ble_eq_true rfl, Nat.le_of_ble_eq_true rfl⟩) (fun r u H locs hp hw => ?_)
  obtain ⟨rfl, hu⟩ := hp
  rw [hu] at hw
  refine lv_if_ne (tgt := 12) hx hb dX8_holdsNothing_5 (by decide) (fun c17 => ?_) (fun c17 => ?_)
  · replace hm := (if_pos c17).symm.trans hm
    refine lv_aload_n hx hb dX8_holdsNothing_12 rfl (lv_at hl 0 rfl) ?_
    refine g_get (ref := "MigrantHeapModel") (C := RX8) (T := TX8) (N := 44) (ci := 8) K in_X8_holdsNothing_X8 hw 0 rfl (by decide : 0 < 1) rfl rfl 19 (by decide) (List.mem_of_getElem? (i := 1) rfl) rfl rfl dX8_holdsNothing_13 ?_
    refine lv_iload_n hx hb dX8_holdsNothing_16 rfl (lv_at hl 1 rfl) ?_
    obtain ⟨h18, hm⟩ := chkS hm
    refine g_iald K hw 18 0 rfl (by decide) rfl rfl h18 dX8_holdsNothing_17 ?_
    refine lv_if_ge (tgt := 25) hx hb dX8_holdsNothing_18 (by decide) (fun c19 => ?_) (fun c19 => ?_)
    · replace hm := (if_pos c19).symm.trans hm
      refine lv_iconst (v := 0) hx hb dX8_holdsNothing_25 (by decide) ?_
      exact t_X8_holdsNothing_J26 K n S 0 hm H locs hw ls (lv_sub hl [0] rfl)
    · replace hm := (if_neg c19).symm.trans hm
      refine lv_iconst (v := 2) hx hb dX8_holdsNothing_21 (by decide) ?_
      refine lv_goto (tgt := 26) hx hb dX8_holdsNothing_22 (by decide) ?_
      exact t_X8_holdsNothing_J26 K n S 2 hm H locs hw ls (lv_sub hl [0] rfl)
  · replace hm := (if_neg (fun h => h c17)).symm.trans hm
    refine lv_iconst (v := 1) hx hb dX8_holdsNothing_8 (by decide) ?_
    refine lv_goto (tgt := 26) hx hb dX8_holdsNothing_9 (by decide) ?_
    exact t_X8_holdsNothing_J26 K n S 1 hm H locs hw ls (lv_sub hl [0] rfl)
set_option maxRecDepth 100000 in
set_option maxHeartbeats 4000000 in
theorem c_X8_holdsNothing (l : Launch) (D : va_G) (cy : Nat → ClassId) (ad : Nat → Nat → Nat) (sz n : Nat) (S : MSt) (x1 : Int32)  {out : Int32 × MSt} (hm : m_X8_holdsNothing n S x1 = some out) : Met l yX8_holdsNothing wsX8_holdsNothing rm_X8_holdsNothing (va_Pc [.ref (ad 0 0), .int x1] (Pre D (tysC cy) (GM cy ad S) (fun _ _ => True) sz)) (va_Qi (fun r (u : MSt) => out = (r, u)) (fun u => Pst D (tysC cy) (AA (adrs (GM cy ad S)) sz) (GM cy ad u)) (AA (adrs (GM cy ad S)) sz)) 0 0 (AA (adrs (GM cy ad S)) sz) := by
  refine g_met (by decide) rfl (Nat.le_of_ble_eq_true rfl) ?_
  intro p e s m args below meth c K hw ls hl
  exact t_X8_holdsNothing_0 (cy := cy) K n S x1  hm _ _ hw ls hl
end W_X8_holdsNothing
section W_X8_versionOf
variable {p : Program} {l : Launch} {e : Env} {s : State} {m : MethodId} {args : Array Value} {below : List Frame} {meth : Method} {c : Code} {D : va_G} {A : Nat → Prop} {cy : Nat → ClassId} {ad : Nat → Nat → Nat} {Q : State → Prop}
abbrev rm_X8_versionOf : Room := { frames := 2, cells := 0, slots := 0, locals := 41 }
theorem in_X8_versionOf_X8 : ∀ w ∈ u_ws RX8 TX8 44, w ∈ wsX8_versionOf := by decide +kernel
set_option maxRecDepth 100000 in
set_option maxHeartbeats 4000000 in
theorem t_X8_versionOf_0 (K : Cx p s m args meth c D A (tysC cy) RX8 cX8_versionOf 2 (some .int) wsX8_versionOf (fun _ _ => True)) (n : Nat) (S : MSt) (x1 : Int32)  {out : Int32 × MSt} (hm : m_X8_versionOf n S x1 = some out) : ∀ (H : Heap) (locs : List Loc), Wd D A s.heap (GM cy ad S) H locs → ∀ ls : Array Slot, lv_has ls 2 [(0, .ref (ad 0 0)), (1, .int x1)] → W p l e rm_X8_versionOf s m args below meth c H locs 0 0 (MQ below (va_Qi (fun r (u : MSt) => out = (r, u)) (fun u => Pst D (tysC cy) A (GM cy ad u)) A) args s 0 0 A) (F0 m 0 ls []) := by
  intro H locs hw ls hl
  obtain ⟨hx, hb, hml, hown, hts, hr, hlo, hK, hA, hX⟩ := id K
  unfold m_X8_versionOf at hm
  refine lv_aload_n hx hb dX8_versionOf_0 rfl (lv_at hl 0 rfl) ?_
  refine lv_iload_n hx hb dX8_versionOf_1 rfl (lv_at hl 1 rfl) ?_
  obtain ⟨z10, hc9, hm⟩ := bindS hm
  refine g_calli (GG := GM cy ad) K hw (va_runV (As := [.int x1]) (rest := []) (g_fix K) (c_X8_holdsNothing l D cy ad H.size n S x1  hc9) (cwV 1 (g_hts K) gX8_versionOf_X8_holdsNothing rfl rfl rfl (by decide +kernel) ⟨Nat.le_of_ble_eq_true rfl, Nat.le_of_ble_eq_true rfl⟩) ⟨g_blind rides_none, g_recv K hw 0 rfl (by decide : 0 < 1) rfl rfl, g_pre (X2 := fun _ _ => True) K hw (fun _ _ _ => trivial)⟩ rfl rfl hl.1 rfl (lv_room (Nat.le_of_ble_eq_true rfl)) dX8_versionOf_2 ⟨Nat.le_of_ble_eq_true rfl, Nat.le_of_ble_eq_true rfl⟩) (fun r u H locs hp hw => ?_)
  obtain ⟨rfl, rfl⟩ : r = z10.1 ∧ u = z10.2 := by rw [hp]; exact ⟨rfl, rfl⟩
  refine lv_if_eq (tgt := 12) hx hb dX8_versionOf_5 (by decide) (fun c11 => ?_) (fun c11 => ?_)
  · replace hm := (if_pos c11).symm.trans hm
    refine lv_aload_n hx hb dX8_versionOf_12 rfl (lv_at hl 0 rfl) ?_
    refine g_get (ref := "MigrantHeapModel") (C := RX8) (T := TX8) (N := 44) (ci := 8) K in_X8_versionOf_X8 hw 0 rfl (by decide : 0 < 1) rfl rfl 15 (by decide) (List.mem_of_getElem? (i := 1) rfl) rfl rfl dX8_versionOf_13 ?_
    refine lv_aload_n hx hb dX8_versionOf_16 rfl (lv_at hl 0 rfl) ?_
    refine g_get (ref := "MigrantHeapModel") (C := RX8) (T := TX8) (N := 44) (ci := 8) K in_X8_versionOf_X8 hw 0 rfl (by decide : 0 < 1) rfl rfl 19 (by decide) (List.mem_of_getElem? (i := 2) rfl) rfl rfl dX8_versionOf_17 ?_
    refine lv_iload_n hx hb dX8_versionOf_20 rfl (lv_at hl 1 rfl) ?_
    obtain ⟨h12, hm⟩ := chkS hm
    refine g_iald K hw 18 0 rfl (by decide) rfl rfl h12 dX8_versionOf_21 ?_
    obtain ⟨h13, hm⟩ := chkS hm
    refine g_iald K hw 14 0 rfl (by decide) rfl rfl h13 dX8_versionOf_22 ?_
    exact g_iret (GG := GM cy ad) K hw (Option.some.inj hm).symm dX8_versionOf_23
  · replace hm := (if_neg c11).symm.trans hm
    refine lv_iconst (v := 0) hx hb dX8_versionOf_8 (by decide) ?_
    refine lv_goto (tgt := 23) hx hb dX8_versionOf_9 (by decide) ?_
    exact g_iret (GG := GM cy ad) K hw (Option.some.inj hm).symm dX8_versionOf_23
set_option maxRecDepth 100000 in
set_option maxHeartbeats 4000000 in
theorem c_X8_versionOf (l : Launch) (D : va_G) (cy : Nat → ClassId) (ad : Nat → Nat → Nat) (sz n : Nat) (S : MSt) (x1 : Int32)  {out : Int32 × MSt} (hm : m_X8_versionOf n S x1 = some out) : Met l yX8_versionOf wsX8_versionOf rm_X8_versionOf (va_Pc [.ref (ad 0 0), .int x1] (Pre D (tysC cy) (GM cy ad S) (fun _ _ => True) sz)) (va_Qi (fun r (u : MSt) => out = (r, u)) (fun u => Pst D (tysC cy) (AA (adrs (GM cy ad S)) sz) (GM cy ad u)) (AA (adrs (GM cy ad S)) sz)) 0 0 (AA (adrs (GM cy ad S)) sz) := by
  refine g_met (by decide) rfl (Nat.le_of_ble_eq_true rfl) ?_
  intro p e s m args below meth c K hw ls hl
  exact t_X8_versionOf_0 (cy := cy) K n S x1  hm _ _ hw ls hl
end W_X8_versionOf
section W_X8_touch
variable {p : Program} {l : Launch} {e : Env} {s : State} {m : MethodId} {args : Array Value} {below : List Frame} {meth : Method} {c : Code} {D : va_G} {A : Nat → Prop} {cy : Nat → ClassId} {ad : Nat → Nat → Nat} {Q : State → Prop}
abbrev rm_X8_touch : Room := { frames := 2, cells := 0, slots := 0, locals := 41 }
theorem in_X8_touch_X8 : ∀ w ∈ u_ws RX8 TX8 44, w ∈ wsX8_touch := by decide +kernel
set_option maxRecDepth 100000 in
set_option maxHeartbeats 4000000 in
theorem t_X8_touch_0 (K : Cx p s m args meth c D A (tysC cy) RX8 cX8_touch 3 (some .int) wsX8_touch (fun _ _ => True)) (n : Nat) (S : MSt) (x1 : Int32)  {out : Int32 × MSt} (hm : m_X8_touch n S x1 = some out) : ∀ (H : Heap) (locs : List Loc), Wd D A s.heap (GM cy ad S) H locs → ∀ ls : Array Slot, lv_has ls 3 [(0, .ref (ad 0 0)), (1, .int x1)] → W p l e rm_X8_touch s m args below meth c H locs 0 0 (MQ below (va_Qi (fun r (u : MSt) => out = (r, u)) (fun u => Pst D (tysC cy) A (GM cy ad u)) A) args s 0 0 A) (F0 m 0 ls []) := by
  intro H locs hw ls hl
  obtain ⟨hx, hb, hml, hown, hts, hr, hlo, hK, hA, hX⟩ := id K
  unfold m_X8_touch at hm
  refine lv_aload_n hx hb dX8_touch_0 rfl (lv_at hl 0 rfl) ?_
  refine lv_iload_n hx hb dX8_touch_1 rfl (lv_at hl 1 rfl) ?_
  obtain ⟨z22, hc21, hm⟩ := bindS hm
  refine g_calli (GG := GM cy ad) K hw (va_runV (As := [.int x1]) (rest := []) (g_fix K) (c_X8_holdsNothing l D cy ad H.size n S x1  hc21) (cwV 1 (g_hts K) gX8_touch_X8_holdsNothing rfl rfl rfl (by decide +kernel) ⟨Nat.le_of_ble_eq_true rfl, Nat.le_of_ble_eq_true rfl⟩) ⟨g_blind rides_none, g_recv K hw 0 rfl (by decide : 0 < 1) rfl rfl, g_pre (X2 := fun _ _ => True) K hw (fun _ _ _ => trivial)⟩ rfl rfl hl.1 rfl (lv_room (Nat.le_of_ble_eq_true rfl)) dX8_touch_2 ⟨Nat.le_of_ble_eq_true rfl, Nat.le_of_ble_eq_true rfl⟩) (fun r u H locs hp hw => ?_)
  obtain ⟨rfl, rfl⟩ : r = z22.1 ∧ u = z22.2 := by rw [hp]; exact ⟨rfl, rfl⟩
  refine lv_if_eq (tgt := 10) hx hb dX8_touch_5 (by decide) (fun c23 => ?_) (fun c23 => ?_)
  · replace hm := (if_pos c23).symm.trans hm
    refine lv_aload_n hx hb dX8_touch_10 rfl (lv_at hl 0 rfl) ?_
    refine g_get (ref := "MigrantHeapModel") (C := RX8) (T := TX8) (N := 44) (ci := 8) K in_X8_touch_X8 hw 0 rfl (by decide : 0 < 1) rfl rfl 15 (by decide) (List.mem_of_getElem? (i := 1) rfl) rfl rfl dX8_touch_11 ?_
    refine lv_aload_n hx hb dX8_touch_14 rfl (lv_at hl 0 rfl) ?_
    refine g_get (ref := "MigrantHeapModel") (C := RX8) (T := TX8) (N := 44) (ci := 8) K in_X8_touch_X8 hw 0 rfl (by decide : 0 < 1) rfl rfl 19 (by decide) (List.mem_of_getElem? (i := 2) rfl) rfl rfl dX8_touch_15 ?_
    refine lv_iload_n hx hb dX8_touch_18 rfl (lv_at hl 1 rfl) ?_
    obtain ⟨h24, hm⟩ := chkS hm
    refine g_iald K hw 18 0 rfl (by decide) rfl rfl h24 dX8_touch_19 ?_
    obtain ⟨h25, hm⟩ := chkS hm
    refine g_iald K hw 14 0 rfl (by decide) rfl rfl h25 dX8_touch_20 ?_
    obtain ⟨x26, hx26, hm⟩ := nm_ex hm
    refine W.eq (g2 := F0 m 21 ls (.int x26 :: [])) (by rw [hx26]) ?_
    refine lv_istore_n (lv' := [(2, .int x26), (0, .ref (ad 0 0)), (1, .int x1)]) hx hb dX8_touch_21 rfl hl (by decide) rfl (fun ls hl => ?_)
    refine lv_aload_n hx hb dX8_touch_22 rfl (lv_at hl 1 rfl) ?_
    refine lv_aload_n hx hb dX8_touch_23 rfl (lv_at hl 1 rfl) ?_
    refine g_get (ref := "MigrantHeapModel") (C := RX8) (T := TX8) (N := 44) (ci := 8) K in_X8_touch_X8 hw 0 rfl (by decide : 0 < 1) rfl rfl 19 (by decide) (List.mem_of_getElem? (i := 2) rfl) rfl rfl dX8_touch_24 ?_
    refine lv_iload_n hx hb dX8_touch_27 rfl (lv_at hl 2 rfl) ?_
    obtain ⟨h27, hm⟩ := chkS hm
    refine g_iald K hw 18 0 rfl (by decide) rfl rfl h27 dX8_touch_28 ?_
    obtain ⟨z29, hc28, hm⟩ := bindS hm
    refine g_callv (GG := GM cy ad) K hw (va_runV (As := [.int (z22.2.1 19 x1.toNatClampNeg)]) (rest := []) (g_fix K) (c_X8_touchRecord l D cy ad H.size n z22.2 (z22.2.1 19 x1.toNatClampNeg)  hc28) (cwV 1 (g_hts K) gX8_touch_X8_touchRecord rfl rfl rfl (by decide +kernel) ⟨Nat.le_of_ble_eq_true rfl, Nat.le_of_ble_eq_true rfl⟩) ⟨g_blind rides_none, g_recv K hw 0 rfl (by decide : 0 < 1) rfl rfl, g_pre (X2 := fun _ _ => True) K hw (fun _ _ _ => trivial)⟩ rfl rfl hl.1 rfl (lv_room (Nat.le_of_ble_eq_true rfl)) dX8_touch_29 ⟨Nat.le_of_ble_eq_true rfl, Nat.le_of_ble_eq_true rfl⟩) (fun u H locs hp hw => ?_)
    obtain rfl := hp
    refine lv_aload_n hx hb dX8_touch_32 rfl (lv_at hl 1 rfl) ?_
    refine g_get (ref := "MigrantHeapModel") (C := RX8) (T := TX8) (N := 44) (ci := 8) K in_X8_touch_X8 hw 0 rfl (by decide : 0 < 1) rfl rfl 15 (by decide) (List.mem_of_getElem? (i := 1) rfl) rfl rfl dX8_touch_33 ?_
    refine lv_aload_n hx hb dX8_touch_36 rfl (lv_at hl 1 rfl) ?_
    refine g_get (ref := "MigrantHeapModel") (C := RX8) (T := TX8) (N := 44) (ci := 8) K in_X8_touch_X8 hw 0 rfl (by decide : 0 < 1) rfl rfl 19 (by decide) (List.mem_of_getElem? (i := 2) rfl) rfl rfl dX8_touch_37 ?_
    refine lv_iload_n hx hb dX8_touch_40 rfl (lv_at hl 2 rfl) ?_
    obtain ⟨h30, hm⟩ := chkS hm
    refine g_iald K hw 18 0 rfl (by decide) rfl rfl h30 dX8_touch_41 ?_
    obtain ⟨h31, hm⟩ := chkS hm
    refine g_iald K hw 14 0 rfl (by decide) rfl rfl h31 dX8_touch_42 ?_
    refine lv_iload_n hx hb dX8_touch_43 rfl (lv_at hl 0 rfl) ?_
    refine lv_isub hx hb dX8_touch_44 ?_
    exact g_iret (GG := GM cy ad) K hw (Option.some.inj hm).symm dX8_touch_45
  · replace hm := (if_neg c23).symm.trans hm
    refine lv_iconst (v := 0) hx hb dX8_touch_8 (by decide) ?_
    exact g_iret (GG := GM cy ad) K hw (Option.some.inj hm).symm dX8_touch_9
set_option maxRecDepth 100000 in
set_option maxHeartbeats 4000000 in
theorem c_X8_touch (l : Launch) (D : va_G) (cy : Nat → ClassId) (ad : Nat → Nat → Nat) (sz n : Nat) (S : MSt) (x1 : Int32)  {out : Int32 × MSt} (hm : m_X8_touch n S x1 = some out) : Met l yX8_touch wsX8_touch rm_X8_touch (va_Pc [.ref (ad 0 0), .int x1] (Pre D (tysC cy) (GM cy ad S) (fun _ _ => True) sz)) (va_Qi (fun r (u : MSt) => out = (r, u)) (fun u => Pst D (tysC cy) (AA (adrs (GM cy ad S)) sz) (GM cy ad u)) (AA (adrs (GM cy ad S)) sz)) 0 0 (AA (adrs (GM cy ad S)) sz) := by
  refine g_met (by decide) rfl (Nat.le_of_ble_eq_true rfl) ?_
  intro p e s m args below meth c K hw ls hl
  exact t_X8_touch_0 (cy := cy) K n S x1  hm _ _ hw ls hl
end W_X8_touch
section W_X8_behind
variable {p : Program} {l : Launch} {e : Env} {s : State} {m : MethodId} {args : Array Value} {below : List Frame} {meth : Method} {c : Code} {D : va_G} {A : Nat → Prop} {cy : Nat → ClassId} {ad : Nat → Nat → Nat} {Q : State → Prop}
abbrev rm_X8_behind : Room := { frames := 0, cells := 0, slots := 0, locals := 0 }
theorem in_X8_behind_X8 : ∀ w ∈ u_ws RX8 TX8 44, w ∈ wsX8_behind := by decide +kernel
set_option maxRecDepth 100000 in
set_option maxHeartbeats 4000000 in
theorem t_X8_behind_L4 (K : Cx p s m args meth c D A (tysC cy) RX8 cX8_behind 4 (some .int) wsX8_behind (fun _ _ => True)) (n : Nat) (S : MSt) (x1 : Int32)  (z : Int32) (hE0 : ∀ w : Int32, z = w → ∀ (H : Heap) (locs : List Loc), Wd D A s.heap (GM cy ad S) H locs → ∀ ls : Array Slot, lv_has ls 4 [(2, .int w)] → W p l e rm_X8_behind s m args below meth c H locs 0 0 Q (F0 m 49 ls [])) : ∀ (x : (Int32 × Int32)), lpO (b_X8_behind_4 n S x1) n x = some z → (fun (x : (Int32 × Int32)) => ∀ (H : Heap) (locs : List Loc), Wd D A s.heap (GM cy ad S) H locs → ∀ ls : Array Slot, lv_has ls 4 [(0, .ref (ad 0 0)), (1, .int x1), (2, .int x.1), (3, .int x.2)] → W p l e rm_X8_behind s m args below meth c H locs 0 0 Q (F0 m 4 ls [])) x := by
  intro x hx0
  refine lpO_ind2 (P := fun (x : (Int32 × Int32)) => ∀ (H : Heap) (locs : List Loc), Wd D A s.heap (GM cy ad S) H locs → ∀ ls : Array Slot, lv_has ls 4 [(0, .ref (ad 0 0)), (1, .int x1), (2, .int x.1), (3, .int x.2)] → W p l e rm_X8_behind s m args below meth c H locs 0 0 Q (F0 m 4 ls [])) (z := z) ?_ n x hx0
  clear hx0 x
  intro x out hm hg H locs hw ls hl 
  obtain ⟨hx, hb, hml, hown, hts, hr, hlo, hK, hA, hX⟩ := id K
  unfold b_X8_behind_4 at hm
  refine lv_iload_n hx hb dX8_behind_4 rfl (lv_at hl 3 rfl) ?_
  refine lv_bipush (v := 24) hx hb dX8_behind_5 (by decide) ?_
  refine lv_icmp_ge (tgt := 49) hx hb dX8_behind_7 (by decide) (fun c24 => ?_) (fun c24 => ?_)
  · replace hm := (if_pos c24).symm.trans hm
    obtain rfl := Option.some.inj hm
    exact hE0 _ hg.symm H locs hw ls (lv_sub hl [2] rfl)
  · replace hm := (if_neg c24).symm.trans hm
    refine lv_iload_n hx hb dX8_behind_10 rfl (lv_at hl 2 rfl) ?_
    refine lv_aload_n hx hb dX8_behind_11 rfl (lv_at hl 0 rfl) ?_
    refine g_get (ref := "MigrantHeapModel") (C := RX8) (T := TX8) (N := 44) (ci := 8) K in_X8_behind_X8 hw 0 rfl (by decide : 0 < 1) rfl rfl 14 (by decide) (List.mem_of_getElem? (i := 1) rfl) rfl rfl dX8_behind_12 ?_
    refine lv_iload_n hx hb dX8_behind_15 rfl (lv_at hl 3 rfl) ?_
    obtain ⟨h25, hm⟩ := chkS hm
    refine g_iald K hw 13 0 rfl (by decide) rfl rfl h25 dX8_behind_16 ?_
    refine lv_iload_n hx hb dX8_behind_17 rfl (lv_at hl 1 rfl) ?_
    refine lv_icmp_ne (tgt := 40) hx hb dX8_behind_18 (by decide) (fun c26 => ?_) (fun c26 => ?_)
    · replace hm := (if_pos c26).symm.trans hm
      refine lv_iconst (v := 0) hx hb dX8_behind_40 (by decide) ?_
      refine lv_iadd hx hb dX8_behind_41 ?_
      obtain ⟨x27, hx27, hm⟩ := nm_ex hm
      refine W.eq (g2 := F0 m 42 ls (.int x27 :: [])) (by rw [hx27]) ?_
      refine lv_istore_n (lv' := [(2, .int x27), (0, .ref (ad 0 0)), (1, .int x1), (3, .int x.2)]) hx hb dX8_behind_42 rfl hl (by decide) rfl (fun ls hl => ?_)
      obtain ⟨x28, hx28, hm⟩ := nm_ex hm
      refine lv_iinc (v := x28) (lv' := [(3, .int x28), (2, .int x27), (0, .ref (ad 0 0)), (1, .int x1)]) hx hb dX8_behind_43 hl (k := 3) rfl (by rw [hx28]; rfl) (by decide) rfl (fun ls hl => ?_)
      refine lv_goto (tgt := 4) hx hb dX8_behind_46 (by decide) ?_
      obtain rfl := Option.some.inj hm
      exact hg H locs hw ls (lv_sub hl [2, 3, 1, 0] rfl)
    · replace hm := (if_neg (fun h => h c26)).symm.trans hm
      refine lv_aload_n hx hb dX8_behind_21 rfl (lv_at hl 0 rfl) ?_
      refine g_get (ref := "MigrantHeapModel") (C := RX8) (T := TX8) (N := 44) (ci := 8) K in_X8_behind_X8 hw 0 rfl (by decide : 0 < 1) rfl rfl 15 (by decide) (List.mem_of_getElem? (i := 2) rfl) rfl rfl dX8_behind_22 ?_
      refine lv_iload_n hx hb dX8_behind_25 rfl (lv_at hl 3 rfl) ?_
      obtain ⟨h29, hm⟩ := chkS hm
      refine g_iald K hw 14 0 rfl (by decide) rfl rfl h29 dX8_behind_26 ?_
      refine lv_aload_n hx hb dX8_behind_27 rfl (lv_at hl 0 rfl) ?_
      refine g_get (ref := "MigrantHeapModel") (C := RX8) (T := TX8) (N := 44) (ci := 8) K in_X8_behind_X8 hw 0 rfl (by decide : 0 < 1) rfl rfl 2 (by decide) (List.mem_of_getElem? (i := 3) rfl) rfl rfl dX8_behind_28 ?_
      refine lv_iload_n hx hb dX8_behind_31 rfl (lv_at hl 1 rfl) ?_
      obtain ⟨h30, hm⟩ := chkS hm
      refine g_iald K hw 1 0 rfl (by decide) rfl rfl h30 dX8_behind_32 ?_
      refine lv_icmp_eq (tgt := 40) hx hb dX8_behind_33 (by decide) (fun c31 => ?_) (fun c31 => ?_)
      · replace hm := (if_pos c31).symm.trans hm
        refine lv_iconst (v := 0) hx hb dX8_behind_40 (by decide) ?_
        refine lv_iadd hx hb dX8_behind_41 ?_
        obtain ⟨x32, hx32, hm⟩ := nm_ex hm
        refine W.eq (g2 := F0 m 42 ls (.int x32 :: [])) (by rw [hx32]) ?_
        refine lv_istore_n (lv' := [(2, .int x32), (0, .ref (ad 0 0)), (1, .int x1), (3, .int x.2)]) hx hb dX8_behind_42 rfl hl (by decide) rfl (fun ls hl => ?_)
        obtain ⟨x33, hx33, hm⟩ := nm_ex hm
        refine lv_iinc (v := x33) (lv' := [(3, .int x33), (2, .int x32), (0, .ref (ad 0 0)), (1, .int x1)]) hx hb dX8_behind_43 hl (k := 3) rfl (by rw [hx33]; rfl) (by decide) rfl (fun ls hl => ?_)
        refine lv_goto (tgt := 4) hx hb dX8_behind_46 (by decide) ?_
        obtain rfl := Option.some.inj hm
        exact hg H locs hw ls (lv_sub hl [2, 3, 1, 0] rfl)
      · replace hm := (if_neg c31).symm.trans hm
        refine lv_iconst (v := 1) hx hb dX8_behind_36 (by decide) ?_
        refine lv_goto (tgt := 41) hx hb dX8_behind_37 (by decide) ?_
        refine lv_iadd hx hb dX8_behind_41 ?_
        obtain ⟨x34, hx34, hm⟩ := nm_ex hm
        refine W.eq (g2 := F0 m 42 ls (.int x34 :: [])) (by rw [hx34]) ?_
        refine lv_istore_n (lv' := [(2, .int x34), (0, .ref (ad 0 0)), (1, .int x1), (3, .int x.2)]) hx hb dX8_behind_42 rfl hl (by decide) rfl (fun ls hl => ?_)
        obtain ⟨x35, hx35, hm⟩ := nm_ex hm
        refine lv_iinc (v := x35) (lv' := [(3, .int x35), (2, .int x34), (0, .ref (ad 0 0)), (1, .int x1)]) hx hb dX8_behind_43 hl (k := 3) rfl (by rw [hx35]; rfl) (by decide) rfl (fun ls hl => ?_)
        refine lv_goto (tgt := 4) hx hb dX8_behind_46 (by decide) ?_
        obtain rfl := Option.some.inj hm
        exact hg H locs hw ls (lv_sub hl [2, 3, 1, 0] rfl)
set_option maxRecDepth 100000 in
set_option maxHeartbeats 4000000 in
theorem t_X8_behind_0 (K : Cx p s m args meth c D A (tysC cy) RX8 cX8_behind 4 (some .int) wsX8_behind (fun _ _ => True)) (n : Nat) (S : MSt) (x1 : Int32)  {out : Int32} (hm : m_X8_behind n S x1 = some out) : ∀ (H : Heap) (locs : List Loc), Wd D A s.heap (GM cy ad S) H locs → ∀ ls : Array Slot, lv_has ls 4 [(0, .ref (ad 0 0)), (1, .int x1)] → W p l e rm_X8_behind s m args below meth c H locs 0 0 (MQ below (va_Qi (fun r (u : MSt) => out = r ∧ u = S) (fun u => Pst D (tysC cy) A (GM cy ad u)) A) args s 0 0 A) (F0 m 0 ls []) := by
  intro H locs hw ls hl
  obtain ⟨hx, hb, hml, hown, hts, hr, hlo, hK, hA, hX⟩ := id K
  unfold m_X8_behind at hm
  refine lv_iconst (v := 0) hx hb dX8_behind_0 (by decide) ?_
  refine lv_istore_n (lv' := [(2, .int 0), (0, .ref (ad 0 0)), (1, .int x1)]) hx hb dX8_behind_1 rfl hl (by decide) rfl (fun ls hl => ?_)
  refine lv_iconst (v := 0) hx hb dX8_behind_2 (by decide) ?_
  refine lv_istore_n (lv' := [(3, .int 0), (2, .int 0), (0, .ref (ad 0 0)), (1, .int x1)]) hx hb dX8_behind_3 rfl hl (by decide) rfl (fun ls hl => ?_)
  obtain ⟨z36, hz37, hm⟩ := bindS hm
  refine t_X8_behind_L4 K n S x1 z36 (fun w38 hww38 => ?_) ((0, 0)) hz37 H locs hw ls (lv_sub hl [2, 3, 1, 0] rfl)
  · intro H locs hw ls hl 
    try rw [hww38] at hm
    refine lv_iload_n hx hb dX8_behind_49 rfl (lv_at hl 0 rfl) ?_
    exact g_iret (GG := GM cy ad) K hw ⟨(Option.some.inj hm).symm, rfl⟩ dX8_behind_50
set_option maxRecDepth 100000 in
set_option maxHeartbeats 4000000 in
theorem c_X8_behind (l : Launch) (D : va_G) (cy : Nat → ClassId) (ad : Nat → Nat → Nat) (sz n : Nat) (S : MSt) (x1 : Int32)  {out : Int32} (hm : m_X8_behind n S x1 = some out) : Met l yX8_behind wsX8_behind rm_X8_behind (va_Pc [.ref (ad 0 0), .int x1] (Pre D (tysC cy) (GM cy ad S) (fun _ _ => True) sz)) (va_Qi (fun r (u : MSt) => out = r ∧ u = S) (fun u => Pst D (tysC cy) (AA (adrs (GM cy ad S)) sz) (GM cy ad u)) (AA (adrs (GM cy ad S)) sz)) 0 0 (AA (adrs (GM cy ad S)) sz) := by
  refine g_met (by decide) rfl (Nat.le_of_ble_eq_true rfl) ?_
  intro p e s m args below meth c K hw ls hl
  exact t_X8_behind_0 (cy := cy) K n S x1  hm _ _ hw ls hl
end W_X8_behind
section W_X8_sweep
variable {p : Program} {l : Launch} {e : Env} {s : State} {m : MethodId} {args : Array Value} {below : List Frame} {meth : Method} {c : Code} {D : va_G} {A : Nat → Prop} {cy : Nat → ClassId} {ad : Nat → Nat → Nat} {Q : State → Prop}
abbrev rm_X8_sweep : Room := { frames := 1, cells := 0, slots := 0, locals := 23 }
theorem in_X8_sweep_X8 : ∀ w ∈ u_ws RX8 TX8 44, w ∈ wsX8_sweep := by decide +kernel
set_option maxRecDepth 100000 in
set_option maxHeartbeats 4000000 in
theorem t_X8_sweep_J70 (K : Cx p s m args meth c D A (tysC cy) RX8 cX8_sweep 4 (some .int) wsX8_sweep (fun _ _ => True)) (n : Nat) (S : MSt) (x1 : Int32) (x2 : Int32) (x3 : Int32) (y1 : Int32) (y2 : Int32) {out : (MSt × Int32) ⊕ MSt} {z : MSt} (hm : m_X8_sweep_J70 n S x1 x2 x3 y1 y2 = some out) (hg : Gd (fun (x : (MSt × Int32)) => ∀ (H : Heap) (locs : List Loc), Wd D A s.heap (GM cy ad x.1) H locs → ∀ ls : Array Slot, lv_has ls 4 [(0, .ref (ad 0 0)), (1, .int x1), (2, .int x2), (3, .int x.2)] → W p l e rm_X8_sweep s m args below meth c H locs 0 0 Q (F0 m 34 ls [])) z out) (hE0 : ∀ w : MSt, z = w → ∀ (H : Heap) (locs : List Loc), Wd D A s.heap (GM cy ad w) H locs → ∀ ls : Array Slot, lv_has ls 4 [(2, .int x2)] → W p l e rm_X8_sweep s m args below meth c H locs 0 0 Q (F0 m 77 ls [])) : ∀ (H : Heap) (locs : List Loc), Wd D A s.heap (GM cy ad S) H locs → ∀ ls : Array Slot, lv_has ls 4 [(0, .ref (ad 0 0)), (1, .int x1), (2, .int x2), (3, .int x3)] → W p l e rm_X8_sweep s m args below meth c H locs 0 0 Q (F0 m 70 ls [.int y2, .int y1, .ref (ad 14 0)]) := by
  intro H locs hw ls hl 
  obtain ⟨hx, hb, hml, hown, hts, hr, hlo, hK, hA, hX⟩ := id K
  unfold m_X8_sweep_J70 at hm
  obtain ⟨h34, hm⟩ := chkS hm
  refine g_iast K hw 14 0 rfl (by decide) rfl rfl h34 dX8_sweep_70 (eM_15 cy ad S y1.toNatClampNeg y2) (fun H locs hw => ?_)
  obtain ⟨S35, hS35, hm⟩ := nm_ex hm
  rw [← hS35] at hw
  obtain ⟨x36, hx36, hm⟩ := nm_ex hm
  refine lv_iinc (v := x36) (lv' := [(3, .int x36), (0, .ref (ad 0 0)), (1, .int x1), (2, .int x2)]) hx hb dX8_sweep_71 hl (k := 3) rfl (by rw [hx36]; rfl) (by decide) rfl (fun ls hl => ?_)
  refine lv_goto (tgt := 34) hx hb dX8_sweep_74 (by decide) ?_
  obtain rfl := Option.some.inj hm
  exact hg H locs hw ls (lv_sub hl [1, 2, 3, 0] rfl)
set_option maxRecDepth 100000 in
set_option maxHeartbeats 4000000 in
theorem t_X8_sweep_L34 (K : Cx p s m args meth c D A (tysC cy) RX8 cX8_sweep 4 (some .int) wsX8_sweep (fun _ _ => True)) (n : Nat) (x1 : Int32) (x2 : Int32)  (z : MSt) (hE0 : ∀ w : MSt, z = w → ∀ (H : Heap) (locs : List Loc), Wd D A s.heap (GM cy ad w) H locs → ∀ ls : Array Slot, lv_has ls 4 [(2, .int x2)] → W p l e rm_X8_sweep s m args below meth c H locs 0 0 Q (F0 m 77 ls [])) : ∀ (x : (MSt × Int32)), lpO (b_X8_sweep_34 n x1 x2) n x = some z → (fun (x : (MSt × Int32)) => ∀ (H : Heap) (locs : List Loc), Wd D A s.heap (GM cy ad x.1) H locs → ∀ ls : Array Slot, lv_has ls 4 [(0, .ref (ad 0 0)), (1, .int x1), (2, .int x2), (3, .int x.2)] → W p l e rm_X8_sweep s m args below meth c H locs 0 0 Q (F0 m 34 ls [])) x := by
  intro x hx0
  refine lpO_ind2 (P := fun (x : (MSt × Int32)) => ∀ (H : Heap) (locs : List Loc), Wd D A s.heap (GM cy ad x.1) H locs → ∀ ls : Array Slot, lv_has ls 4 [(0, .ref (ad 0 0)), (1, .int x1), (2, .int x2), (3, .int x.2)] → W p l e rm_X8_sweep s m args below meth c H locs 0 0 Q (F0 m 34 ls [])) (z := z) ?_ n x hx0
  clear hx0 x
  intro x out hm hg H locs hw ls hl 
  obtain ⟨hx, hb, hml, hown, hts, hr, hlo, hK, hA, hX⟩ := id K
  unfold b_X8_sweep_34 at hm
  refine lv_iload_n hx hb dX8_sweep_34 rfl (lv_at hl 3 rfl) ?_
  refine lv_bipush (v := 24) hx hb dX8_sweep_35 (by decide) ?_
  refine lv_icmp_ge (tgt := 77) hx hb dX8_sweep_37 (by decide) (fun c37 => ?_) (fun c37 => ?_)
  · replace hm := (if_pos c37).symm.trans hm
    obtain rfl := Option.some.inj hm
    exact hE0 _ hg.symm H locs hw ls (lv_sub hl [2] rfl)
  · replace hm := (if_neg c37).symm.trans hm
    refine lv_aload_n hx hb dX8_sweep_40 rfl (lv_at hl 0 rfl) ?_
    refine g_get (ref := "MigrantHeapModel") (C := RX8) (T := TX8) (N := 44) (ci := 8) K in_X8_sweep_X8 hw 0 rfl (by decide : 0 < 1) rfl rfl 15 (by decide) (List.mem_of_getElem? (i := 2) rfl) rfl rfl dX8_sweep_41 ?_
    refine lv_iload_n hx hb dX8_sweep_44 rfl (lv_at hl 3 rfl) ?_
    refine lv_aload_n hx hb dX8_sweep_45 rfl (lv_at hl 0 rfl) ?_
    refine g_get (ref := "MigrantHeapModel") (C := RX8) (T := TX8) (N := 44) (ci := 8) K in_X8_sweep_X8 hw 0 rfl (by decide : 0 < 1) rfl rfl 14 (by decide) (List.mem_of_getElem? (i := 3) rfl) rfl rfl dX8_sweep_46 ?_
    refine lv_iload_n hx hb dX8_sweep_49 rfl (lv_at hl 3 rfl) ?_
    obtain ⟨h38, hm⟩ := chkS hm
    refine g_iald K hw 13 0 rfl (by decide) rfl rfl h38 dX8_sweep_50 ?_
    refine lv_iload_n hx hb dX8_sweep_51 rfl (lv_at hl 1 rfl) ?_
    refine lv_icmp_ne (tgt := 64) hx hb dX8_sweep_52 (by decide) (fun c39 => ?_) (fun c39 => ?_)
    · replace hm := (if_pos c39).symm.trans hm
      refine lv_aload_n hx hb dX8_sweep_64 rfl (lv_at hl 0 rfl) ?_
      refine g_get (ref := "MigrantHeapModel") (C := RX8) (T := TX8) (N := 44) (ci := 8) K in_X8_sweep_X8 hw 0 rfl (by decide : 0 < 1) rfl rfl 15 (by decide) (List.mem_of_getElem? (i := 2) rfl) rfl rfl dX8_sweep_65 ?_
      refine lv_iload_n hx hb dX8_sweep_68 rfl (lv_at hl 3 rfl) ?_
      obtain ⟨h40, hm⟩ := chkS hm
      refine g_iald K hw 14 0 rfl (by decide) rfl rfl h40 dX8_sweep_69 ?_
      exact t_X8_sweep_J70 K n x.1 x1 x2 x.2 x.2 (x.1.1 15 x.2.toNatClampNeg) hm hg hE0 H locs hw ls (lv_sub hl [0, 1, 2, 3] rfl)
    · replace hm := (if_neg (fun h => h c39)).symm.trans hm
      refine lv_aload_n hx hb dX8_sweep_55 rfl (lv_at hl 0 rfl) ?_
      refine g_get (ref := "MigrantHeapModel") (C := RX8) (T := TX8) (N := 44) (ci := 8) K in_X8_sweep_X8 hw 0 rfl (by decide : 0 < 1) rfl rfl 2 (by decide) (List.mem_of_getElem? (i := 4) rfl) rfl rfl dX8_sweep_56 ?_
      refine lv_iload_n hx hb dX8_sweep_59 rfl (lv_at hl 1 rfl) ?_
      obtain ⟨h41, hm⟩ := chkS hm
      refine g_iald K hw 1 0 rfl (by decide) rfl rfl h41 dX8_sweep_60 ?_
      refine lv_goto (tgt := 70) hx hb dX8_sweep_61 (by decide) ?_
      exact t_X8_sweep_J70 K n x.1 x1 x2 x.2 x.2 (x.1.1 2 x1.toNatClampNeg) hm hg hE0 H locs hw ls (lv_sub hl [0, 1, 2, 3] rfl)
set_option maxRecDepth 100000 in
set_option maxHeartbeats 4000000 in
theorem t_X8_sweep_J14 (K : Cx p s m args meth c D A (tysC cy) RX8 cX8_sweep 4 (some .int) wsX8_sweep (fun _ _ => True)) (n : Nat) (S : MSt) (x1 : Int32) (y1 : Int32) {out : Int32 × MSt} (hm : m_X8_sweep_J14 n S x1 y1 = some out) : ∀ (H : Heap) (locs : List Loc), Wd D A s.heap (GM cy ad S) H locs → ∀ ls : Array Slot, lv_has ls 4 [(0, .ref (ad 0 0)), (1, .int x1)] → W p l e rm_X8_sweep s m args below meth c H locs 0 0 (MQ below (va_Qi (fun r (u : MSt) => out = (r, u)) (fun u => Pst D (tysC cy) A (GM cy ad u)) A) args s 0 0 A) (F0 m 14 ls [.int y1, .ref (ad 0 0)]) := by
  intro H locs hw ls hl 
  obtain ⟨hx, hb, hml, hown, hts, hr, hlo, hK, hA, hX⟩ := id K
  unfold m_X8_sweep_J14 at hm
  refine g_put (v := .int y1) (ty := .int) (ref := "MigrantHeapModel") (C := RX8) (T := TX8) (N := 44) (ci := 8) K in_X8_sweep_X8 tyX8 tyX8_ok nmX8 hw 0 rfl (by decide : 0 < 1) rfl rfl 0 (by decide) (List.mem_of_getElem? (i := 1) rfl) rfl rfl (by decide +kernel) rfl rfl (Nat.le_of_ble_eq_true rfl) dX8_sweep_14 (eM_0 cy ad S y1) (fun H locs hw => ?_)
  obtain ⟨S42, hS42, hm⟩ := nm_ex hm
  rw [← hS42] at hw
  refine lv_aload_n hx hb dX8_sweep_17 rfl (lv_at hl 0 rfl) ?_
  refine g_get (ref := "MigrantHeapModel") (C := RX8) (T := TX8) (N := 44) (ci := 8) K in_X8_sweep_X8 hw 0 rfl (by decide : 0 < 1) rfl rfl 0 (by decide) (List.mem_of_getElem? (i := 1) rfl) rfl rfl dX8_sweep_18 ?_
  refine lv_if_le (tgt := 26) hx hb dX8_sweep_21 (by decide) (fun c43 => ?_) (fun c43 => ?_)
  · replace hm := (if_pos c43).symm.trans hm
    refine lv_aload_n hx hb dX8_sweep_26 rfl (lv_at hl 0 rfl) ?_
    refine lv_iload_n hx hb dX8_sweep_27 rfl (lv_at hl 1 rfl) ?_
    obtain ⟨z45, hc44, hm⟩ := bindS hm
    refine g_calli (GG := GM cy ad) K hw (va_runV (As := [.int x1]) (rest := []) (g_fix K) (c_X8_behind l D cy ad H.size n S42 x1  hc44) (cwV 1 (g_hts K) gX8_sweep_X8_behind rfl rfl rfl (by decide +kernel) ⟨Nat.le_of_ble_eq_true rfl, Nat.le_of_ble_eq_true rfl⟩) ⟨g_blind rides_none, g_recv K hw 0 rfl (by decide : 0 < 1) rfl rfl, g_pre (X2 := fun _ _ => True) K hw (fun _ _ _ => trivial)⟩ rfl rfl hl.1 rfl (lv_room (Nat.le_of_ble_eq_true rfl)) dX8_sweep_28 ⟨Nat.le_of_ble_eq_true rfl, Nat.le_of_ble_eq_true rfl⟩) (fun r u H locs hp hw => ?_)
    obtain ⟨rfl, hu⟩ := hp
    rw [hu] at hw
    refine lv_istore_n (lv' := [(2, .int z45), (0, .ref (ad 0 0)), (1, .int x1)]) hx hb dX8_sweep_31 rfl hl (by decide) rfl (fun ls hl => ?_)
    refine lv_iconst (v := 0) hx hb dX8_sweep_32 (by decide) ?_
    refine lv_istore_n (lv' := [(3, .int 0), (2, .int z45), (0, .ref (ad 0 0)), (1, .int x1)]) hx hb dX8_sweep_33 rfl hl (by decide) rfl (fun ls hl => ?_)
    obtain ⟨z46, hz47, hm⟩ := bindS hm
    refine t_X8_sweep_L34 K n x1 z45 z46 (fun w48 hww48 => ?_) ((S42, 0)) hz47 H locs hw ls (lv_sub hl [2, 3, 1, 0] rfl)
    · intro H locs hw ls hl 
      try rw [hww48] at hm
      refine lv_iload_n hx hb dX8_sweep_77 rfl (lv_at hl 0 rfl) ?_
      exact g_iret (GG := GM cy ad) K hw (Option.some.inj hm).symm dX8_sweep_78
  · replace hm := (if_neg c43).symm.trans hm
    refine lv_iconst (v := 0) hx hb dX8_sweep_24 (by decide) ?_
    exact g_iret (GG := GM cy ad) K hw (Option.some.inj hm).symm dX8_sweep_25
set_option maxRecDepth 100000 in
set_option maxHeartbeats 4000000 in
theorem t_X8_sweep_0 (K : Cx p s m args meth c D A (tysC cy) RX8 cX8_sweep 4 (some .int) wsX8_sweep (fun _ _ => True)) (n : Nat) (S : MSt) (x1 : Int32)  {out : Int32 × MSt} (hm : m_X8_sweep n S x1 = some out) : ∀ (H : Heap) (locs : List Loc), Wd D A s.heap (GM cy ad S) H locs → ∀ ls : Array Slot, lv_has ls 4 [(0, .ref (ad 0 0)), (1, .int x1)] → W p l e rm_X8_sweep s m args below meth c H locs 0 0 (MQ below (va_Qi (fun r (u : MSt) => out = (r, u)) (fun u => Pst D (tysC cy) A (GM cy ad u)) A) args s 0 0 A) (F0 m 0 ls []) := by
  intro H locs hw ls hl
  obtain ⟨hx, hb, hml, hown, hts, hr, hlo, hK, hA, hX⟩ := id K
  unfold m_X8_sweep at hm
  refine lv_aload_n hx hb dX8_sweep_0 rfl (lv_at hl 0 rfl) ?_
  refine lv_aload_n hx hb dX8_sweep_1 rfl (lv_at hl 0 rfl) ?_
  refine lv_iload_n hx hb dX8_sweep_2 rfl (lv_at hl 1 rfl) ?_
  obtain ⟨z50, hc49, hm⟩ := bindS hm
  refine g_calli (GG := GM cy ad) K hw (va_runV (As := [.int x1]) (rest := [.ref (ad 0 0)]) (g_fix K) (c_X8_isClass l D cy ad H.size n S x1  hc49) (cwV 1 (g_hts K) gX8_sweep_X8_isClass rfl rfl rfl (by decide +kernel) ⟨Nat.le_of_ble_eq_true rfl, Nat.le_of_ble_eq_true rfl⟩) ⟨g_blind rides_none, g_recv K hw 0 rfl (by decide : 0 < 1) rfl rfl, g_pre (X2 := fun _ _ => True) K hw (fun _ _ _ => trivial)⟩ rfl rfl hl.1 rfl (lv_room (Nat.le_of_ble_eq_true rfl)) dX8_sweep_3 ⟨Nat.le_of_ble_eq_true rfl, Nat.le_of_ble_eq_true rfl⟩) (fun r u H locs hp hw => ?_)
  obtain ⟨rfl, hu⟩ := hp
  rw [hu] at hw
  refine lv_if_eq (tgt := 13) hx hb dX8_sweep_6 (by decide) (fun c51 => ?_) (fun c51 => ?_)
  · replace hm := (if_pos c51).symm.trans hm
    refine lv_iconst (v := 1) hx hb dX8_sweep_13 (by decide) ?_
    exact t_X8_sweep_J14 K n S x1 1 hm H locs hw ls (lv_sub hl [0, 1] rfl)
  · replace hm := (if_neg c51).symm.trans hm
    refine lv_iconst (v := 0) hx hb dX8_sweep_9 (by decide) ?_
    refine lv_goto (tgt := 14) hx hb dX8_sweep_10 (by decide) ?_
    exact t_X8_sweep_J14 K n S x1 0 hm H locs hw ls (lv_sub hl [0, 1] rfl)
set_option maxRecDepth 100000 in
set_option maxHeartbeats 4000000 in
theorem c_X8_sweep (l : Launch) (D : va_G) (cy : Nat → ClassId) (ad : Nat → Nat → Nat) (sz n : Nat) (S : MSt) (x1 : Int32)  {out : Int32 × MSt} (hm : m_X8_sweep n S x1 = some out) : Met l yX8_sweep wsX8_sweep rm_X8_sweep (va_Pc [.ref (ad 0 0), .int x1] (Pre D (tysC cy) (GM cy ad S) (fun _ _ => True) sz)) (va_Qi (fun r (u : MSt) => out = (r, u)) (fun u => Pst D (tysC cy) (AA (adrs (GM cy ad S)) sz) (GM cy ad u)) (AA (adrs (GM cy ad S)) sz)) 0 0 (AA (adrs (GM cy ad S)) sz) := by
  refine g_met (by decide) rfl (Nat.le_of_ble_eq_true rfl) ?_
  intro p e s m args below meth c K hw ls hl
  exact t_X8_sweep_0 (cy := cy) K n S x1  hm _ _ hw ls hl
end W_X8_sweep
