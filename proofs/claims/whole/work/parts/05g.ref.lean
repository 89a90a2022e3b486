section W_X8_splitField
variable {p : Program} {l : Launch} {e : Env} {s : State} {m : MethodId} {args : Array Value} {below : List Frame} {meth : Method} {c : Code} {D : va_G} {A : Nat → Prop} {cy : Nat → ClassId} {ad : Nat → Nat → Nat} {Q : State → Prop}
abbrev rm_X8_splitField : Room := { frames := 2, cells := 0, slots := 0, locals := 49 }
theorem in_X8_splitField_X8 : ∀ w ∈ u_ws RX8 TX8 44, w ∈ wsX8_splitField := by decide +kernel
set_option maxRecDepth 100000 in
set_option maxHeartbeats 4000000 in
theorem t_X8_splitField_L234 (K : Cx p s m args meth c D A (tysC cy) RX8 cX8_splitField 7 (some .boolean) wsX8_splitField (fun _ _ => True)) (n : Nat)   (z : MSt) (hE0 : ∀ w : MSt, z = w → ∀ (H : Heap) (locs : List Loc), Wd D A s.heap (GM cy ad w) H locs → ∀ ls : Array Slot, lv_has ls 7 [] → W p l e rm_X8_splitField s m args below meth c H locs 0 0 Q (F0 m 271 ls [])) : ∀ (x : (MSt × Int32)), lpO (b_X8_splitField_234 n ) n x = some z → (fun (x : (MSt × Int32)) => ∀ (H : Heap) (locs : List Loc), Wd D A s.heap (GM cy ad x.1) H locs → ∀ ls : Array Slot, lv_has ls 7 [(0, .ref (ad 0 0)), (4, .int x.2)] → W p l e rm_X8_splitField s m args below meth c H locs 0 0 Q (F0 m 234 ls [])) x := by
  intro x hx0
  refine lpO_ind2 (P := fun (x : (MSt × Int32)) => ∀ (H : Heap) (locs : List Loc), Wd D A s.heap (GM cy ad x.1) H locs → ∀ ls : Array Slot, lv_has ls 7 [(0, .ref (ad 0 0)), (4, .int x.2)] → W p l e rm_X8_splitField s m args below meth c H locs 0 0 Q (F0 m 234 ls [])) (z := z) ?_ n x hx0
  clear hx0 x
  intro x out hm hg H locs hw ls hl 
  obtain ⟨hx, hb, hml, hown, hts, hr, hlo, hK, hA, hX⟩ := id K
  unfold b_X8_splitField_234 at hm
  refine lv_iload hx hb dX8_splitField_234 (lv_at hl 1 rfl) ?_
  refine lv_bipush (v := 24) hx hb dX8_splitField_236 (by decide) ?_
  refine lv_icmp_ge (tgt := 271) hx hb dX8_splitField_238 (by decide) (fun c121 => ?_) (fun c121 => ?_)
  · replace hm := (if_pos c121).symm.trans hm
    obtain rfl := Option.some.inj hm
    exact hE0 _ hg.symm H locs hw ls (lv_sub hl [] rfl)
  · replace hm := (if_neg c121).symm.trans hm
    refine lv_aload_n hx hb dX8_splitField_241 rfl (lv_at hl 0 rfl) ?_
    refine g_get (ref := "MigrantHeapModel") (C := RX8) (T := TX8) (N := 44) (ci := 8) K in_X8_splitField_X8 hw 0 rfl (by decide : 0 < 1) rfl rfl 34 (by decide) (List.mem_of_getElem? (i := 8) rfl) rfl rfl dX8_splitField_242 ?_
    refine lv_bipush (v := 6) hx hb dX8_splitField_245 (by decide) ?_
    refine lv_iload hx hb dX8_splitField_247 (lv_at hl 1 rfl) ?_
    refine lv_imul hx hb dX8_splitField_249 ?_
    refine lv_aload_n hx hb dX8_splitField_250 rfl (lv_at hl 0 rfl) ?_
    refine g_get (ref := "MigrantHeapModel") (C := RX8) (T := TX8) (N := 44) (ci := 8) K in_X8_splitField_X8 hw 0 rfl (by decide : 0 < 1) rfl rfl 28 (by decide) (List.mem_of_getElem? (i := 12) rfl) rfl rfl dX8_splitField_251 ?_
    refine lv_iadd hx hb dX8_splitField_254 ?_
    refine lv_iconst (v := 1) hx hb dX8_splitField_255 (by decide) ?_
    refine lv_isub hx hb dX8_splitField_256 ?_
    refine lv_aload_n hx hb dX8_splitField_257 rfl (lv_at hl 0 rfl) ?_
    refine g_get (ref := "MigrantHeapModel") (C := RX8) (T := TX8) (N := 44) (ci := 8) K in_X8_splitField_X8 hw 0 rfl (by decide : 0 < 1) rfl rfl 43 (by decide) (List.mem_of_getElem? (i := 1) rfl) rfl rfl dX8_splitField_258 ?_
    refine lv_iload hx hb dX8_splitField_261 (lv_at hl 1 rfl) ?_
    obtain ⟨h122, hm⟩ := chkS hm
    refine g_iald K hw 34 0 rfl (by decide) rfl rfl h122 dX8_splitField_263 ?_
    obtain ⟨h123, hm⟩ := chkS hm
    refine g_iast K hw 28 0 rfl (by decide) rfl rfl h123 dX8_splitField_264 (eM_34 cy ad x.1 ((((6 * x.2) + (x.1.1 28 0)) - 1).toNatClampNeg) (x.1.1 43 x.2.toNatClampNeg)) (fun H locs hw => ?_)
    obtain ⟨S124, hS124, hm⟩ := nm_ex hm
    rw [← hS124] at hw
    obtain ⟨x125, hx125, hm⟩ := nm_ex hm
    refine lv_iinc (v := x125) (lv' := [(4, .int x125), (0, .ref (ad 0 0))]) hx hb dX8_splitField_265 hl (k := 1) rfl (by rw [hx125]; rfl) (by decide) rfl (fun ls hl => ?_)
    refine lv_goto (tgt := 234) hx hb dX8_splitField_268 (by decide) ?_
    obtain rfl := Option.some.inj hm
    exact hg H locs hw ls (lv_sub hl [1, 0] rfl)
set_option maxRecDepth 100000 in
set_option maxHeartbeats 4000000 in
theorem t_X8_splitField_L164 (K : Cx p s m args meth c D A (tysC cy) RX8 cX8_splitField 7 (some .boolean) wsX8_splitField (fun _ _ => True)) (n : Nat) (x1 : Int32) (x2 : Int32)  (z : MSt) (hE0 : ∀ w : MSt, z = w → ∀ (H : Heap) (locs : List Loc), Wd D A s.heap (GM cy ad w) H locs → ∀ ls : Array Slot, lv_has ls 7 [(0, .ref (ad 0 0)), (1, .int x1), (2, .int x2)] → W p l e rm_X8_splitField s m args below meth c H locs 0 0 Q (F0 m 201 ls [])) : ∀ (x : (MSt × Int32)), lpO (b_X8_splitField_164 n x1 x2) n x = some z → (fun (x : (MSt × Int32)) => ∀ (H : Heap) (locs : List Loc), Wd D A s.heap (GM cy ad x.1) H locs → ∀ ls : Array Slot, lv_has ls 7 [(0, .ref (ad 0 0)), (1, .int x1), (2, .int x2), (4, .int x.2)] → W p l e rm_X8_splitField s m args below meth c H locs 0 0 Q (F0 m 164 ls [])) x := by
  intro x hx0
  refine lpO_ind2 (P := fun (x : (MSt × Int32)) => ∀ (H : Heap) (locs : List Loc), Wd D A s.heap (GM cy ad x.1) H locs → ∀ ls : Array Slot, lv_has ls 7 [(0, .ref (ad 0 0)), (1, .int x1), (2, .int x2), (4, .int x.2)] → W p l e rm_X8_splitField s m args below meth c H locs 0 0 Q (F0 m 164 ls [])) (z := z) ?_ n x hx0
  clear hx0 x
  intro x out hm hg H locs hw ls hl 
  obtain ⟨hx, hb, hml, hown, hts, hr, hlo, hK, hA, hX⟩ := id K
  unfold b_X8_splitField_164 at hm
  refine lv_iload hx hb dX8_splitField_164 (lv_at hl 3 rfl) ?_
  refine lv_aload_n hx hb dX8_splitField_166 rfl (lv_at hl 0 rfl) ?_
  refine g_get (ref := "MigrantHeapModel") (C := RX8) (T := TX8) (N := 44) (ci := 8) K in_X8_splitField_X8 hw 0 rfl (by decide : 0 < 1) rfl rfl 4 (by decide) (List.mem_of_getElem? (i := 6) rfl) rfl rfl dX8_splitField_167 ?_
  refine lv_iload_n hx hb dX8_splitField_170 rfl (lv_at hl 2 rfl) ?_
  obtain ⟨h126, hm⟩ := chkS hm
  refine g_iald K hw 3 0 rfl (by decide) rfl rfl h126 dX8_splitField_171 ?_
  refine lv_icmp_ge (tgt := 201) hx hb dX8_splitField_172 (by decide) (fun c127 => ?_) (fun c127 => ?_)
  · replace hm := (if_pos c127).symm.trans hm
    obtain rfl := Option.some.inj hm
    exact hE0 _ hg.symm H locs hw ls (lv_sub hl [0, 1, 2] rfl)
  · replace hm := (if_neg c127).symm.trans hm
    refine lv_aload_n hx hb dX8_splitField_175 rfl (lv_at hl 0 rfl) ?_
    refine lv_aload_n hx hb dX8_splitField_176 rfl (lv_at hl 0 rfl) ?_
    refine lv_aload_n hx hb dX8_splitField_177 rfl (lv_at hl 0 rfl) ?_
    refine g_get (ref := "MigrantHeapModel") (C := RX8) (T := TX8) (N := 44) (ci := 8) K in_X8_splitField_X8 hw 0 rfl (by decide : 0 < 1) rfl rfl 5 (by decide) (List.mem_of_getElem? (i := 9) rfl) rfl rfl dX8_splitField_178 ?_
    refine lv_bipush (v := 6) hx hb dX8_splitField_181 (by decide) ?_
    refine lv_iload_n hx hb dX8_splitField_183 rfl (lv_at hl 2 rfl) ?_
    refine lv_imul hx hb dX8_splitField_184 ?_
    refine lv_iload hx hb dX8_splitField_185 (lv_at hl 3 rfl) ?_
    refine lv_iadd hx hb dX8_splitField_187 ?_
    obtain ⟨h128, hm⟩ := chkS hm
    refine g_iald K hw 4 0 rfl (by decide) rfl rfl h128 dX8_splitField_188 ?_
    obtain ⟨z130, hc129, hm⟩ := bindS hm
    refine g_calli (GG := GM cy ad) K hw (va_runV (As := [.int (x.1.1 5 ((6 * x2) + x.2).toNatClampNeg)]) (rest := [.ref (ad 0 0)]) (g_fix K) (c_X8_findDraft l D cy ad H.size n x.1 (x.1.1 5 ((6 * x2) + x.2).toNatClampNeg)  hc129) (cwV 1 (g_hts K) gX8_splitField_X8_findDraft rfl rfl rfl (by decide +kernel) ⟨Nat.le_of_ble_eq_true rfl, Nat.le_of_ble_eq_true rfl⟩) ⟨g_blind rides_none, g_recv K hw 0 rfl (by decide : 0 < 1) rfl rfl, g_pre (X2 := fun _ _ => True) K hw (fun _ _ _ => trivial)⟩ rfl rfl hl.1 rfl (lv_room (Nat.le_of_ble_eq_true rfl)) dX8_splitField_189 ⟨Nat.le_of_ble_eq_true rfl, Nat.le_of_ble_eq_true rfl⟩) (fun r u H locs hp hw => ?_)
    obtain ⟨rfl, hu⟩ := hp
    rw [hu] at hw
    obtain ⟨z132, hc131, hm⟩ := bindS hm
    refine g_callv (GG := GM cy ad) K hw (va_runV (As := [.int z130]) (rest := []) (g_fix K) (c_X8_takeField l D cy ad H.size n x.1 z130  hc131) (cwV 1 (g_hts K) gX8_splitField_X8_takeField rfl rfl rfl (by decide +kernel) ⟨Nat.le_of_ble_eq_true rfl, Nat.le_of_ble_eq_true rfl⟩) ⟨g_blind rides_none, g_recv K hw 0 rfl (by decide : 0 < 1) rfl rfl, g_pre (X2 := fun _ _ => True) K hw (fun _ _ _ => trivial)⟩ rfl rfl hl.1 rfl (lv_room (Nat.le_of_ble_eq_true rfl)) dX8_splitField_192 ⟨Nat.le_of_ble_eq_true rfl, Nat.le_of_ble_eq_true rfl⟩) (fun u H locs hp hw => ?_)
    obtain rfl := hp
    obtain ⟨x133, hx133, hm⟩ := nm_ex hm
    refine lv_iinc (v := x133) (lv' := [(4, .int x133), (0, .ref (ad 0 0)), (1, .int x1), (2, .int x2)]) hx hb dX8_splitField_195 hl (k := 3) rfl (by rw [hx133]; rfl) (by decide) rfl (fun ls hl => ?_)
    refine lv_goto (tgt := 164) hx hb dX8_splitField_198 (by decide) ?_
    obtain rfl := Option.some.inj hm
    exact hg H locs hw ls (lv_sub hl [1, 2, 3, 0] rfl)
set_option maxRecDepth 100000 in
set_option maxHeartbeats 4000000 in
theorem t_X8_splitField_L89 (K : Cx p s m args meth c D A (tysC cy) RX8 cX8_splitField 7 (some .boolean) wsX8_splitField (fun _ _ => True)) (n : Nat) (x1 : Int32) (x2 : Int32) (x4 : Int32) (x5 : Int32)  (z : MSt) (hE0 : ∀ w : MSt, z = w → ∀ (H : Heap) (locs : List Loc), Wd D A s.heap (GM cy ad w) H locs → ∀ ls : Array Slot, lv_has ls 7 [(0, .ref (ad 0 0)), (1, .int x1), (2, .int x2), (4, .int x4), (5, .int x5)] → W p l e rm_X8_splitField s m args below meth c H locs 0 0 Q (F0 m 146 ls [])) : ∀ (x : (MSt × Int32)), lpO (b_X8_splitField_89 n x1 x2 x4 x5) n x = some z → (fun (x : (MSt × Int32)) => ∀ (H : Heap) (locs : List Loc), Wd D A s.heap (GM cy ad x.1) H locs → ∀ ls : Array Slot, lv_has ls 7 [(0, .ref (ad 0 0)), (1, .int x1), (2, .int x2), (4, .int x4), (5, .int x5), (6, .int x.2)] → W p l e rm_X8_splitField s m args below meth c H locs 0 0 Q (F0 m 89 ls [])) x := by
  intro x hx0
  refine lpO_ind2 (P := fun (x : (MSt × Int32)) => ∀ (H : Heap) (locs : List Loc), Wd D A s.heap (GM cy ad x.1) H locs → ∀ ls : Array Slot, lv_has ls 7 [(0, .ref (ad 0 0)), (1, .int x1), (2, .int x2), (4, .int x4), (5, .int x5), (6, .int x.2)] → W p l e rm_X8_splitField s m args below meth c H locs 0 0 Q (F0 m 89 ls [])) (z := z) ?_ n x hx0
  clear hx0 x
  intro x out hm hg H locs hw ls hl 
  obtain ⟨hx, hb, hml, hown, hts, hr, hlo, hK, hA, hX⟩ := id K
  unfold b_X8_splitField_89 at hm
  refine lv_iload hx hb dX8_splitField_89 (lv_at hl 5 rfl) ?_
  refine lv_aload_n hx hb dX8_splitField_91 rfl (lv_at hl 0 rfl) ?_
  refine g_get (ref := "MigrantHeapModel") (C := RX8) (T := TX8) (N := 44) (ci := 8) K in_X8_splitField_X8 hw 0 rfl (by decide : 0 < 1) rfl rfl 4 (by decide) (List.mem_of_getElem? (i := 6) rfl) rfl rfl dX8_splitField_92 ?_
  refine lv_iload_n hx hb dX8_splitField_95 rfl (lv_at hl 2 rfl) ?_
  obtain ⟨h134, hm⟩ := chkS hm
  refine g_iald K hw 3 0 rfl (by decide) rfl rfl h134 dX8_splitField_96 ?_
  refine lv_icmp_ge (tgt := 146) hx hb dX8_splitField_97 (by decide) (fun c135 => ?_) (fun c135 => ?_)
  · replace hm := (if_pos c135).symm.trans hm
    obtain rfl := Option.some.inj hm
    exact hE0 _ hg.symm H locs hw ls (lv_sub hl [0, 1, 2, 3, 4] rfl)
  · replace hm := (if_neg c135).symm.trans hm
    refine lv_aload_n hx hb dX8_splitField_100 rfl (lv_at hl 0 rfl) ?_
    refine g_get (ref := "MigrantHeapModel") (C := RX8) (T := TX8) (N := 44) (ci := 8) K in_X8_splitField_X8 hw 0 rfl (by decide : 0 < 1) rfl rfl 16 (by decide) (List.mem_of_getElem? (i := 7) rfl) rfl rfl dX8_splitField_101 ?_
    refine lv_bipush (v := 6) hx hb dX8_splitField_104 (by decide) ?_
    refine lv_iload hx hb dX8_splitField_106 (lv_at hl 4 rfl) ?_
    refine lv_imul hx hb dX8_splitField_108 ?_
    refine lv_iload hx hb dX8_splitField_109 (lv_at hl 5 rfl) ?_
    refine lv_iadd hx hb dX8_splitField_111 ?_
    refine lv_aload_n hx hb dX8_splitField_112 rfl (lv_at hl 0 rfl) ?_
    refine g_get (ref := "MigrantHeapModel") (C := RX8) (T := TX8) (N := 44) (ci := 8) K in_X8_splitField_X8 hw 0 rfl (by decide : 0 < 1) rfl rfl 34 (by decide) (List.mem_of_getElem? (i := 8) rfl) rfl rfl dX8_splitField_113 ?_
    refine lv_bipush (v := 6) hx hb dX8_splitField_116 (by decide) ?_
    refine lv_iload hx hb dX8_splitField_118 (lv_at hl 3 rfl) ?_
    refine lv_imul hx hb dX8_splitField_120 ?_
    refine lv_aload_n hx hb dX8_splitField_121 rfl (lv_at hl 0 rfl) ?_
    refine lv_aload_n hx hb dX8_splitField_122 rfl (lv_at hl 0 rfl) ?_
    refine g_get (ref := "MigrantHeapModel") (C := RX8) (T := TX8) (N := 44) (ci := 8) K in_X8_splitField_X8 hw 0 rfl (by decide : 0 < 1) rfl rfl 5 (by decide) (List.mem_of_getElem? (i := 9) rfl) rfl rfl dX8_splitField_123 ?_
    refine lv_bipush (v := 6) hx hb dX8_splitField_126 (by decide) ?_
    refine lv_iload_n hx hb dX8_splitField_128 rfl (lv_at hl 2 rfl) ?_
    refine lv_imul hx hb dX8_splitField_129 ?_
    refine lv_iload hx hb dX8_splitField_130 (lv_at hl 5 rfl) ?_
    refine lv_iadd hx hb dX8_splitField_132 ?_
    obtain ⟨h136, hm⟩ := chkS hm
    refine g_iald K hw 4 0 rfl (by decide) rfl rfl h136 dX8_splitField_133 ?_
    obtain ⟨z138, hc137, hm⟩ := bindS hm
    refine g_calli (GG := GM cy ad) K hw (va_runV (As := [.int (x.1.1 5 ((6 * x2) + x.2).toNatClampNeg)]) (rest := [.int (6 * x4), .ref (ad 28 0), .int ((6 * x5) + x.2), .ref (ad 15 0)]) (g_fix K) (c_X8_findDraft l D cy ad H.size n x.1 (x.1.1 5 ((6 * x2) + x.2).toNatClampNeg)  hc137) (cwV 1 (g_hts K) gX8_splitField_X8_findDraft rfl rfl rfl (by decide +kernel) ⟨Nat.le_of_ble_eq_true rfl, Nat.le_of_ble_eq_true rfl⟩) ⟨g_blind rides_none, g_recv K hw 0 rfl (by decide : 0 < 1) rfl rfl, g_pre (X2 := fun _ _ => True) K hw (fun _ _ _ => trivial)⟩ rfl rfl hl.1 rfl (lv_room (Nat.le_of_ble_eq_true rfl)) dX8_splitField_134 ⟨Nat.le_of_ble_eq_true rfl, Nat.le_of_ble_eq_true rfl⟩) (fun r u H locs hp hw => ?_)
    obtain ⟨rfl, hu⟩ := hp
    rw [hu] at hw
    refine lv_iadd hx hb dX8_splitField_137 ?_
    obtain ⟨h139, hm⟩ := chkS hm
    refine g_iald K hw 28 0 rfl (by decide) rfl rfl h139 dX8_splitField_138 ?_
    obtain ⟨h140, hm⟩ := chkS hm
    refine g_iast K hw 15 0 rfl (by decide) rfl rfl h140 dX8_splitField_139 (eM_16 cy ad x.1 (((6 * x5) + x.2).toNatClampNeg) (x.1.1 34 ((6 * x4) + z138).toNatClampNeg)) (fun H locs hw => ?_)
    obtain ⟨S141, hS141, hm⟩ := nm_ex hm
    rw [← hS141] at hw
    obtain ⟨x142, hx142, hm⟩ := nm_ex hm
    refine lv_iinc (v := x142) (lv' := [(6, .int x142), (0, .ref (ad 0 0)), (1, .int x1), (2, .int x2), (4, .int x4), (5, .int x5)]) hx hb dX8_splitField_140 hl (k := 5) rfl (by rw [hx142]; rfl) (by decide) rfl (fun ls hl => ?_)
    refine lv_goto (tgt := 89) hx hb dX8_splitField_143 (by decide) ?_
    obtain rfl := Option.some.inj hm
    exact hg H locs hw ls (lv_sub hl [1, 2, 3, 4, 5, 0] rfl)
set_option maxRecDepth 100000 in
set_option maxHeartbeats 4000000 in
theorem t_X8_splitField_L38 (K : Cx p s m args meth c D A (tysC cy) RX8 cX8_splitField 7 (some .boolean) wsX8_splitField (fun _ _ => True)) (n : Nat) (x1 : Int32) (x2 : Int32)  (z : MSt) (hE0 : ∀ w : MSt, z = w → ∀ (H : Heap) (locs : List Loc), Wd D A s.heap (GM cy ad w) H locs → ∀ ls : Array Slot, lv_has ls 7 [(0, .ref (ad 0 0)), (1, .int x1), (2, .int x2)] → W p l e rm_X8_splitField s m args below meth c H locs 0 0 Q (F0 m 161 ls [])) : ∀ (x : (MSt × Int32)), lpO (b_X8_splitField_38 n x1 x2) n x = some z → (fun (x : (MSt × Int32)) => ∀ (H : Heap) (locs : List Loc), Wd D A s.heap (GM cy ad x.1) H locs → ∀ ls : Array Slot, lv_has ls 7 [(0, .ref (ad 0 0)), (1, .int x1), (2, .int x2), (4, .int x.2)] → W p l e rm_X8_splitField s m args below meth c H locs 0 0 Q (F0 m 38 ls [])) x := by
  intro x hx0
  refine lpO_ind2 (P := fun (x : (MSt × Int32)) => ∀ (H : Heap) (locs : List Loc), Wd D A s.heap (GM cy ad x.1) H locs → ∀ ls : Array Slot, lv_has ls 7 [(0, .ref (ad 0 0)), (1, .int x1), (2, .int x2), (4, .int x.2)] → W p l e rm_X8_splitField s m args below meth c H locs 0 0 Q (F0 m 38 ls [])) (z := z) ?_ n x hx0
  clear hx0 x
  intro x out hm hg H locs hw ls hl 
  obtain ⟨hx, hb, hml, hown, hts, hr, hlo, hK, hA, hX⟩ := id K
  unfold b_X8_splitField_38 at hm
  refine lv_iload hx hb dX8_splitField_38 (lv_at hl 3 rfl) ?_
  refine lv_bipush (v := 24) hx hb dX8_splitField_40 (by decide) ?_
  refine lv_icmp_ge (tgt := 161) hx hb dX8_splitField_42 (by decide) (fun c143 => ?_) (fun c143 => ?_)
  · replace hm := (if_pos c143).symm.trans hm
    obtain rfl := Option.some.inj hm
    exact hE0 _ hg.symm H locs hw ls (lv_sub hl [0, 1, 2] rfl)
  · replace hm := (if_neg c143).symm.trans hm
    refine lv_aload_n hx hb dX8_splitField_45 rfl (lv_at hl 0 rfl) ?_
    refine g_get (ref := "MigrantHeapModel") (C := RX8) (T := TX8) (N := 44) (ci := 8) K in_X8_splitField_X8 hw 0 rfl (by decide : 0 < 1) rfl rfl 14 (by decide) (List.mem_of_getElem? (i := 2) rfl) rfl rfl dX8_splitField_46 ?_
    refine lv_iload hx hb dX8_splitField_49 (lv_at hl 3 rfl) ?_
    obtain ⟨h144, hm⟩ := chkS hm
    refine g_iald K hw 13 0 rfl (by decide) rfl rfl h144 dX8_splitField_51 ?_
    refine lv_aload_n hx hb dX8_splitField_52 rfl (lv_at hl 0 rfl) ?_
    refine g_get (ref := "MigrantHeapModel") (C := RX8) (T := TX8) (N := 44) (ci := 8) K in_X8_splitField_X8 hw 0 rfl (by decide : 0 < 1) rfl rfl 27 (by decide) (List.mem_of_getElem? (i := 3) rfl) rfl rfl dX8_splitField_53 ?_
    refine lv_icmp_ne (tgt := 155) hx hb dX8_splitField_56 (by decide) (fun c145 => ?_) (fun c145 => ?_)
    · replace hm := (if_pos c145).symm.trans hm
      obtain ⟨x146, hx146, hm⟩ := nm_ex hm
      refine lv_iinc (v := x146) (lv' := [(4, .int x146), (0, .ref (ad 0 0)), (1, .int x1), (2, .int x2)]) hx hb dX8_splitField_155 hl (k := 3) rfl (by rw [hx146]; rfl) (by decide) rfl (fun ls hl => ?_)
      refine lv_goto (tgt := 38) hx hb dX8_splitField_158 (by decide) ?_
      obtain rfl := Option.some.inj hm
      exact hg H locs hw ls (lv_sub hl [1, 2, 3, 0] rfl)
    · replace hm := (if_neg (fun h => h c145)).symm.trans hm
      refine lv_aload_n hx hb dX8_splitField_59 rfl (lv_at hl 0 rfl) ?_
      obtain ⟨z148, hc147, hm⟩ := bindS hm
      refine g_calli (GG := GM cy ad) K hw (va_runV (As := []) (rest := []) (g_fix K) (c_X8_free l D cy ad H.size n x.1   hc147) (cwV 0 (g_hts K) gX8_splitField_X8_free rfl rfl rfl (by decide +kernel) ⟨Nat.le_of_ble_eq_true rfl, Nat.le_of_ble_eq_true rfl⟩) ⟨g_blind rides_none, g_recv K hw 0 rfl (by decide : 0 < 1) rfl rfl, g_pre (X2 := fun _ _ => True) K hw (fun _ _ _ => trivial)⟩ rfl rfl hl.1 rfl (lv_room (Nat.le_of_ble_eq_true rfl)) dX8_splitField_60 ⟨Nat.le_of_ble_eq_true rfl, Nat.le_of_ble_eq_true rfl⟩) (fun r u H locs hp hw => ?_)
      obtain ⟨rfl, hu⟩ := hp
      rw [hu] at hw
      refine lv_istore (lv' := [(5, .int z148), (0, .ref (ad 0 0)), (1, .int x1), (2, .int x2), (4, .int x.2)]) hx hb dX8_splitField_63 hl (by decide) rfl (fun ls hl => ?_)
      refine lv_aload_n hx hb dX8_splitField_65 rfl (lv_at hl 1 rfl) ?_
      refine g_get (ref := "MigrantHeapModel") (C := RX8) (T := TX8) (N := 44) (ci := 8) K in_X8_splitField_X8 hw 0 rfl (by decide : 0 < 1) rfl rfl 14 (by decide) (List.mem_of_getElem? (i := 2) rfl) rfl rfl dX8_splitField_66 ?_
      refine lv_iload hx hb dX8_splitField_69 (lv_at hl 0 rfl) ?_
      refine lv_iload_n hx hb dX8_splitField_71 rfl (lv_at hl 3 rfl) ?_
      obtain ⟨h149, hm⟩ := chkS hm
      refine g_iast K hw 13 0 rfl (by decide) rfl rfl h149 dX8_splitField_72 (eM_14 cy ad x.1 z148.toNatClampNeg x2) (fun H locs hw => ?_)
      obtain ⟨S150, hS150, hm⟩ := nm_ex hm
      rw [← hS150] at hw
      refine lv_aload_n hx hb dX8_splitField_73 rfl (lv_at hl 1 rfl) ?_
      refine g_get (ref := "MigrantHeapModel") (C := RX8) (T := TX8) (N := 44) (ci := 8) K in_X8_splitField_X8 hw 0 rfl (by decide : 0 < 1) rfl rfl 15 (by decide) (List.mem_of_getElem? (i := 4) rfl) rfl rfl dX8_splitField_74 ?_
      refine lv_iload hx hb dX8_splitField_77 (lv_at hl 0 rfl) ?_
      refine lv_aload_n hx hb dX8_splitField_79 rfl (lv_at hl 1 rfl) ?_
      refine g_get (ref := "MigrantHeapModel") (C := RX8) (T := TX8) (N := 44) (ci := 8) K in_X8_splitField_X8 hw 0 rfl (by decide : 0 < 1) rfl rfl 2 (by decide) (List.mem_of_getElem? (i := 5) rfl) rfl rfl dX8_splitField_80 ?_
      refine lv_iload_n hx hb dX8_splitField_83 rfl (lv_at hl 3 rfl) ?_
      obtain ⟨h151, hm⟩ := chkS hm
      refine g_iald K hw 1 0 rfl (by decide) rfl rfl h151 dX8_splitField_84 ?_
      obtain ⟨h152, hm⟩ := chkS hm
      refine g_iast K hw 14 0 rfl (by decide) rfl rfl h152 dX8_splitField_85 (eM_15 cy ad S150 z148.toNatClampNeg (S150.1 2 x2.toNatClampNeg)) (fun H locs hw => ?_)
      obtain ⟨S153, hS153, hm⟩ := nm_ex hm
      rw [← hS153] at hw
      refine lv_iconst (v := 0) hx hb dX8_splitField_86 (by decide) ?_
      refine lv_istore (lv' := [(6, .int 0), (5, .int z148), (0, .ref (ad 0 0)), (1, .int x1), (2, .int x2), (4, .int x.2)]) hx hb dX8_splitField_87 hl (by decide) rfl (fun ls hl => ?_)
      obtain ⟨z154, hz155, hm⟩ := bindS hm
      refine t_X8_splitField_L89 K n x1 x2 x.2 z148 z154 (fun w156 hww156 => ?_) ((S153, 0)) hz155 H locs hw ls (lv_sub hl [2, 3, 4, 5, 1, 0] rfl)
      · intro H locs hw ls hl 
        try rw [hww156] at hm
        refine lv_aload_n hx hb dX8_splitField_146 rfl (lv_at hl 0 rfl) ?_
        refine g_get (ref := "MigrantHeapModel") (C := RX8) (T := TX8) (N := 44) (ci := 8) K in_X8_splitField_X8 hw 0 rfl (by decide : 0 < 1) rfl rfl 43 (by decide) (List.mem_of_getElem? (i := 1) rfl) rfl rfl dX8_splitField_147 ?_
        refine lv_iload hx hb dX8_splitField_150 (lv_at hl 3 rfl) ?_
        refine lv_iload hx hb dX8_splitField_152 (lv_at hl 4 rfl) ?_
        obtain ⟨h157, hm⟩ := chkS hm
        refine g_iast K hw 34 0 rfl (by decide) rfl rfl h157 dX8_splitField_154 (eM_43 cy ad w156 x.2.toNatClampNeg z148) (fun H locs hw => ?_)
        obtain ⟨S158, hS158, hm⟩ := nm_ex hm
        rw [← hS158] at hw
        obtain ⟨x159, hx159, hm⟩ := nm_ex hm
        refine lv_iinc (v := x159) (lv' := [(4, .int x159), (0, .ref (ad 0 0)), (1, .int x1), (2, .int x2), (5, .int z148)]) hx hb dX8_splitField_155 hl (k := 3) rfl (by rw [hx159]; rfl) (by decide) rfl (fun ls hl => ?_)
        refine lv_goto (tgt := 38) hx hb dX8_splitField_158 (by decide) ?_
        obtain rfl := Option.some.inj hm
        exact hg H locs hw ls (lv_sub hl [1, 2, 3, 0] rfl)
set_option maxRecDepth 100000 in
set_option maxHeartbeats 4000000 in
theorem t_X8_splitField_L14 (K : Cx p s m args meth c D A (tysC cy) RX8 cX8_splitField 7 (some .boolean) wsX8_splitField (fun _ _ => True)) (n : Nat) (x1 : Int32) (x2 : Int32)  (z : MSt) (hE0 : ∀ w : MSt, z = w → ∀ (H : Heap) (locs : List Loc), Wd D A s.heap (GM cy ad w) H locs → ∀ ls : Array Slot, lv_has ls 7 [(0, .ref (ad 0 0)), (1, .int x1), (2, .int x2)] → W p l e rm_X8_splitField s m args below meth c H locs 0 0 Q (F0 m 35 ls [])) : ∀ (x : (MSt × Int32)), lpO (b_X8_splitField_14 n x1 x2) n x = some z → (fun (x : (MSt × Int32)) => ∀ (H : Heap) (locs : List Loc), Wd D A s.heap (GM cy ad x.1) H locs → ∀ ls : Array Slot, lv_has ls 7 [(0, .ref (ad 0 0)), (1, .int x1), (2, .int x2), (4, .int x.2)] → W p l e rm_X8_splitField s m args below meth c H locs 0 0 Q (F0 m 14 ls [])) x := by
  intro x hx0
  refine lpO_ind2 (P := fun (x : (MSt × Int32)) => ∀ (H : Heap) (locs : List Loc), Wd D A s.heap (GM cy ad x.1) H locs → ∀ ls : Array Slot, lv_has ls 7 [(0, .ref (ad 0 0)), (1, .int x1), (2, .int x2), (4, .int x.2)] → W p l e rm_X8_splitField s m args below meth c H locs 0 0 Q (F0 m 14 ls [])) (z := z) ?_ n x hx0
  clear hx0 x
  intro x out hm hg H locs hw ls hl 
  obtain ⟨hx, hb, hml, hown, hts, hr, hlo, hK, hA, hX⟩ := id K
  unfold b_X8_splitField_14 at hm
  refine lv_iload hx hb dX8_splitField_14 (lv_at hl 3 rfl) ?_
  refine lv_bipush (v := 24) hx hb dX8_splitField_16 (by decide) ?_
  refine lv_icmp_ge (tgt := 35) hx hb dX8_splitField_18 (by decide) (fun c160 => ?_) (fun c160 => ?_)
  · replace hm := (if_pos c160).symm.trans hm
    obtain rfl := Option.some.inj hm
    exact hE0 _ hg.symm H locs hw ls (lv_sub hl [0, 1, 2] rfl)
  · replace hm := (if_neg c160).symm.trans hm
    refine lv_aload_n hx hb dX8_splitField_21 rfl (lv_at hl 0 rfl) ?_
    refine g_get (ref := "MigrantHeapModel") (C := RX8) (T := TX8) (N := 44) (ci := 8) K in_X8_splitField_X8 hw 0 rfl (by decide : 0 < 1) rfl rfl 43 (by decide) (List.mem_of_getElem? (i := 1) rfl) rfl rfl dX8_splitField_22 ?_
    refine lv_iload hx hb dX8_splitField_25 (lv_at hl 3 rfl) ?_
    refine lv_iconst (v := (-1)) hx hb dX8_splitField_27 (by decide) ?_
    obtain ⟨h161, hm⟩ := chkS hm
    refine g_iast K hw 34 0 rfl (by decide) rfl rfl h161 dX8_splitField_28 (eM_43 cy ad x.1 x.2.toNatClampNeg (-1)) (fun H locs hw => ?_)
    obtain ⟨S162, hS162, hm⟩ := nm_ex hm
    rw [← hS162] at hw
    obtain ⟨x163, hx163, hm⟩ := nm_ex hm
    refine lv_iinc (v := x163) (lv' := [(4, .int x163), (0, .ref (ad 0 0)), (1, .int x1), (2, .int x2)]) hx hb dX8_splitField_29 hl (k := 3) rfl (by rw [hx163]; rfl) (by decide) rfl (fun ls hl => ?_)
    refine lv_goto (tgt := 14) hx hb dX8_splitField_32 (by decide) ?_
    obtain rfl := Option.some.inj hm
    exact hg H locs hw ls (lv_sub hl [1, 2, 3, 0] rfl)
set_option maxRecDepth 100000 in
set_option maxHeartbeats 4000000 in
theorem t_X8_splitField_0 (K : Cx p s m args meth c D A (tysC cy) RX8 cX8_splitField 7 (some .boolean) wsX8_splitField (fun _ _ => True)) (n : Nat) (S : MSt) (x1 : Int32) (x2 : Int32) (x3 : Int32)  {out : Int32 × MSt} (hm : m_X8_splitField n S x1 x2 x3 = some out) : ∀ (H : Heap) (locs : List Loc), Wd D A s.heap (GM cy ad S) H locs → ∀ ls : Array Slot, lv_has ls 7 [(0, .ref (ad 0 0)), (1, .int x1), (2, .int x2), (3, .int x3)] → W p l e rm_X8_splitField s m args below meth c H locs 0 0 (MQ below (va_Qi (fun r (u : MSt) => out = (r, u)) (fun u => Pst D (tysC cy) A (GM cy ad u)) A) args s 0 0 A) (F0 m 0 ls []) := by
  intro H locs hw ls hl
  obtain ⟨hx, hb, hml, hown, hts, hr, hlo, hK, hA, hX⟩ := id K
  unfold m_X8_splitField at hm
  refine lv_aload_n hx hb dX8_splitField_0 rfl (lv_at hl 0 rfl) ?_
  refine lv_iload_n hx hb dX8_splitField_1 rfl (lv_at hl 2 rfl) ?_
  refine lv_iload_n hx hb dX8_splitField_2 rfl (lv_at hl 3 rfl) ?_
  obtain ⟨z165, hc164, hm⟩ := bindS hm
  refine g_calli (GG := GM cy ad) K hw (va_runV (As := [.int x2, .int x3]) (rest := []) (g_fix K) (c_X8_canSplit l D cy ad H.size n S x2 x3  hc164) (cwV 2 (g_hts K) gX8_splitField_X8_canSplit rfl rfl rfl (by decide +kernel) ⟨Nat.le_of_ble_eq_true rfl, Nat.le_of_ble_eq_true rfl⟩) ⟨g_blind rides_none, g_recv K hw 0 rfl (by decide : 0 < 1) rfl rfl, g_pre (X2 := fun _ _ => True) K hw (fun _ _ _ => trivial)⟩ rfl rfl hl.1 rfl (lv_room (Nat.le_of_ble_eq_true rfl)) dX8_splitField_3 ⟨Nat.le_of_ble_eq_true rfl, Nat.le_of_ble_eq_true rfl⟩) (fun r u H locs hp hw => ?_)
  obtain ⟨rfl, hu⟩ := hp
  rw [hu] at hw
  refine lv_if_ne (tgt := 11) hx hb dX8_splitField_6 (by decide) (fun c166 => ?_) (fun c166 => ?_)
  · replace hm := (if_pos c166).symm.trans hm
    refine lv_iconst (v := 0) hx hb dX8_splitField_11 (by decide) ?_
    refine lv_istore (lv' := [(4, .int 0), (0, .ref (ad 0 0)), (1, .int x1), (2, .int x2), (3, .int x3)]) hx hb dX8_splitField_12 hl (by decide) rfl (fun ls hl => ?_)
    obtain ⟨z167, hz168, hm⟩ := bindS hm
    refine t_X8_splitField_L14 K n x1 x2 z167 (fun w169 hww169 => ?_) ((S, 0)) hz168 H locs hw ls (lv_sub hl [1, 2, 3, 0] rfl)
    · intro H locs hw ls hl 
      try rw [hww169] at hm
      refine lv_iconst (v := 0) hx hb dX8_splitField_35 (by decide) ?_
      refine lv_istore (lv' := [(4, .int 0), (0, .ref (ad 0 0)), (1, .int x1), (2, .int x2)]) hx hb dX8_splitField_36 hl (by decide) rfl (fun ls hl => ?_)
      obtain ⟨z170, hz171, hm⟩ := bindS hm
      refine t_X8_splitField_L38 K n x1 x2 z170 (fun w172 hww172 => ?_) ((w169, 0)) hz171 H locs hw ls (lv_sub hl [1, 2, 3, 0] rfl)
      · intro H locs hw ls hl 
        try rw [hww172] at hm
        refine lv_iconst (v := 0) hx hb dX8_splitField_161 (by decide) ?_
        refine lv_istore (lv' := [(4, .int 0), (0, .ref (ad 0 0)), (1, .int x1), (2, .int x2)]) hx hb dX8_splitField_162 hl (by decide) rfl (fun ls hl => ?_)
        obtain ⟨z173, hz174, hm⟩ := bindS hm
        refine t_X8_splitField_L164 K n x1 x2 z173 (fun w175 hww175 => ?_) ((w172, 0)) hz174 H locs hw ls (lv_sub hl [1, 2, 3, 0] rfl)
        · intro H locs hw ls hl 
          try rw [hww175] at hm
          refine lv_aload_n hx hb dX8_splitField_201 rfl (lv_at hl 0 rfl) ?_
          refine lv_iconst (v := 1) hx hb dX8_splitField_202 (by decide) ?_
          refine g_put (v := .int 1) (ty := .boolean) (ref := "MigrantHeapModel") (C := RX8) (T := TX8) (N := 44) (ci := 8) K in_X8_splitField_X8 tyX8 tyX8_ok nmX8 hw 0 rfl (by decide : 0 < 1) rfl rfl 35 (by decide) (List.mem_of_getElem? (i := 10) rfl) rfl rfl (by decide +kernel) rfl rfl (Nat.le_of_ble_eq_true rfl) dX8_splitField_203 (eM_35 cy ad w175 1) (fun H locs hw => ?_)
          obtain ⟨S176, hS176, hm⟩ := nm_ex hm
          rw [← hS176] at hw
          refine lv_aload_n hx hb dX8_splitField_206 rfl (lv_at hl 0 rfl) ?_
          refine lv_dup hx hb dX8_splitField_207 rfl ?_
          refine g_get (ref := "MigrantHeapModel") (C := RX8) (T := TX8) (N := 44) (ci := 8) K in_X8_splitField_X8 hw 0 rfl (by decide : 0 < 1) rfl rfl 36 (by decide) (List.mem_of_getElem? (i := 11) rfl) rfl rfl dX8_splitField_208 ?_
          refine lv_iconst (v := 1) hx hb dX8_splitField_211 (by decide) ?_
          refine lv_iload_n hx hb dX8_splitField_212 rfl (lv_at hl 2 rfl) ?_
          refine lv_ishl hx hb dX8_splitField_213 ?_
          refine lv_ior hx hb dX8_splitField_214 ?_
          refine g_put (v := .int ((S176.1 36 0) ||| (1 <<< (x2 &&& 31)))) (ty := .int) (ref := "MigrantHeapModel") (C := RX8) (T := TX8) (N := 44) (ci := 8) K in_X8_splitField_X8 tyX8 tyX8_ok nmX8 hw 0 rfl (by decide : 0 < 1) rfl rfl 36 (by decide) (List.mem_of_getElem? (i := 11) rfl) rfl rfl (by decide +kernel) rfl rfl (Nat.le_of_ble_eq_true rfl) dX8_splitField_215 (eM_36 cy ad S176 ((S176.1 36 0) ||| (1 <<< (x2 &&& 31)))) (fun H locs hw => ?_)
          obtain ⟨S177, hS177, hm⟩ := nm_ex hm
          rw [← hS177] at hw
          refine lv_aload_n hx hb dX8_splitField_218 rfl (lv_at hl 0 rfl) ?_
          refine lv_iload_n hx hb dX8_splitField_219 rfl (lv_at hl 1 rfl) ?_
          refine lv_iconst (v := 2) hx hb dX8_splitField_220 (by decide) ?_
          refine lv_iload_n hx hb dX8_splitField_221 rfl (lv_at hl 2 rfl) ?_
          refine lv_iload_n hx hb dX8_splitField_222 rfl (lv_at hl 2 rfl) ?_
          obtain ⟨z179, hc178, hm⟩ := bindS hm
          refine g_calli (GG := GM cy ad) K hw (va_runV (As := [.int x1, .int 2, .int x2, .int x2]) (rest := []) (g_fix K) (c_X8_append l D cy ad H.size n S177 x1 2 x2 x2  hc178) (cwV 4 (g_hts K) gX8_splitField_X8_append rfl rfl rfl (by decide +kernel) ⟨Nat.le_of_ble_eq_true rfl, Nat.le_of_ble_eq_true rfl⟩) ⟨g_blind rides_none, g_recv K hw 0 rfl (by decide : 0 < 1) rfl rfl, g_pre (X2 := fun _ _ => True) K hw (fun _ _ _ => trivial)⟩ rfl rfl hl.1 rfl (lv_room (Nat.le_of_ble_eq_true rfl)) dX8_splitField_223 ⟨Nat.le_of_ble_eq_true rfl, Nat.le_of_ble_eq_true rfl⟩) (fun r u H locs hp hw => ?_)
          obtain ⟨rfl, rfl⟩ : r = z179.1 ∧ u = z179.2 := by rw [hp]; exact ⟨rfl, rfl⟩
          refine lv_if_ne (tgt := 231) hx hb dX8_splitField_226 (by decide) (fun c180 => ?_) (fun c180 => ?_)
          · replace hm := (if_pos c180).symm.trans hm
            refine lv_iconst (v := 0) hx hb dX8_splitField_231 (by decide) ?_
            refine lv_istore (lv' := [(4, .int 0), (0, .ref (ad 0 0)), (1, .int x1), (2, .int x2)]) hx hb dX8_splitField_232 hl (by decide) rfl (fun ls hl => ?_)
            obtain ⟨z181, hz182, hm⟩ := bindS hm
            refine t_X8_splitField_L234 K n  z181 (fun w183 hww183 => ?_) ((z179.2, 0)) hz182 H locs hw ls (lv_sub hl [1, 0] rfl)
            · intro H locs hw ls hl 
              try rw [hww183] at hm
              refine lv_iconst (v := 1) hx hb dX8_splitField_271 (by decide) ?_
              exact g_zret (GG := GM cy ad) K hw rfl (Option.some.inj hm).symm dX8_splitField_272
          · replace hm := (if_neg (fun h => h c180)).symm.trans hm
            refine lv_iconst (v := 0) hx hb dX8_splitField_229 (by decide) ?_
            exact g_zret (GG := GM cy ad) K hw rfl (Option.some.inj hm).symm dX8_splitField_230
  · replace hm := (if_neg (fun h => h c166)).symm.trans hm
    refine lv_iconst (v := 0) hx hb dX8_splitField_9 (by decide) ?_
    exact g_zret (GG := GM cy ad) K hw rfl (Option.some.inj hm).symm dX8_splitField_10
set_option maxRecDepth 100000 in
set_option maxHeartbeats 4000000 in
theorem c_X8_splitField (l : Launch) (D : va_G) (cy : Nat → ClassId) (ad : Nat → Nat → Nat) (sz n : Nat) (S : MSt) (x1 : Int32) (x2 : Int32) (x3 : Int32)  {out : Int32 × MSt} (hm : m_X8_splitField n S x1 x2 x3 = some out) : Met l yX8_splitField wsX8_splitField rm_X8_splitField (va_Pc [.ref (ad 0 0), .int x1, .int x2, .int x3] (Pre D (tysC cy) (GM cy ad S) (fun _ _ => True) sz)) (va_Qi (fun r (u : MSt) => out = (r, u)) (fun u => Pst D (tysC cy) (AA (adrs (GM cy ad S)) sz) (GM cy ad u)) (AA (adrs (GM cy ad S)) sz)) 0 0 (AA (adrs (GM cy ad S)) sz) := by
  refine g_met (by decide) rfl (Nat.le_of_ble_eq_true rfl) ?_
  intro p e s m args below meth c K hw ls hl
  exact t_X8_splitField_0 (cy := cy) K n S x1 x2 x3  hm _ _ hw ls hl
end W_X8_splitField
section W_X8_isHeld
variable {p : Program} {l : Launch} {e : Env} {s : State} {m : MethodId} {args : Array Value} {below : List Frame} {meth : Method} {c : Code} {D : va_G} {A : Nat → Prop} {cy : Nat → ClassId} {ad : Nat → Nat → Nat} {Q : State → Prop}
abbrev rm_X8_isHeld : Room := { frames := 0, cells := 0, slots := 0, locals := 0 }
theorem in_X8_isHeld_X8 : ∀ w ∈ u_ws RX8 TX8 44, w ∈ wsX8_isHeld := by decide +kernel
set_option maxRecDepth 100000 in
set_option maxHeartbeats 4000000 in
theorem t_X8_isHeld_L13 (K : Cx p s m args meth c D A (tysC cy) RX8 cX8_isHeld 5 (some .boolean) wsX8_isHeld (fun _ _ => True)) (n : Nat) (S : MSt) (x1 : Int32) (x3 : Int32)  (z : Int32) (hE0 : ∀ w : Int32, z = w → ∀ (H : Heap) (locs : List Loc), Wd D A s.heap (GM cy ad S) H locs → ∀ ls : Array Slot, lv_has ls 5 [(0, .ref (ad 0 0)), (1, .int x1), (2, .int w), (3, .int x3)] → W p l e rm_X8_isHeld s m args below meth c H locs 0 0 Q (F0 m 80 ls [])) : ∀ (x : (Int32 × Int32)), lpO (b_X8_isHeld_13 n S x1 x3) n x = some z → (fun (x : (Int32 × Int32)) => ∀ (H : Heap) (locs : List Loc), Wd D A s.heap (GM cy ad S) H locs → ∀ ls : Array Slot, lv_has ls 5 [(0, .ref (ad 0 0)), (1, .int x1), (2, .int x.1), (3, .int x3), (4, .int x.2)] → W p l e rm_X8_isHeld s m args below meth c H locs 0 0 Q (F0 m 13 ls [])) x := by
  intro x hx0
  refine lpO_ind2 (P := fun (x : (Int32 × Int32)) => ∀ (H : Heap) (locs : List Loc), Wd D A s.heap (GM cy ad S) H locs → ∀ ls : Array Slot, lv_has ls 5 [(0, .ref (ad 0 0)), (1, .int x1), (2, .int x.1), (3, .int x3), (4, .int x.2)] → W p l e rm_X8_isHeld s m args below meth c H locs 0 0 Q (F0 m 13 ls [])) (z := z) ?_ n x hx0
  clear hx0 x
  intro x out hm hg H locs hw ls hl 
  obtain ⟨hx, hb, hml, hown, hts, hr, hlo, hK, hA, hX⟩ := id K
  unfold b_X8_isHeld_13 at hm
  refine lv_iload hx hb dX8_isHeld_13 (lv_at hl 4 rfl) ?_
  refine lv_bipush (v := 8) hx hb dX8_isHeld_15 (by decide) ?_
  refine lv_icmp_ge (tgt := 80) hx hb dX8_isHeld_17 (by decide) (fun c27 => ?_) (fun c27 => ?_)
  · replace hm := (if_pos c27).symm.trans hm
    obtain rfl := Option.some.inj hm
    exact hE0 _ hg.symm H locs hw ls (lv_sub hl [0, 1, 2, 3] rfl)
  · replace hm := (if_neg c27).symm.trans hm
    refine lv_aload_n hx hb dX8_isHeld_20 rfl (lv_at hl 0 rfl) ?_
    refine g_get (ref := "MigrantHeapModel") (C := RX8) (T := TX8) (N := 44) (ci := 8) K in_X8_isHeld_X8 hw 0 rfl (by decide : 0 < 1) rfl rfl 14 (by decide) (List.mem_of_getElem? (i := 1) rfl) rfl rfl dX8_isHeld_21 ?_
    refine lv_iload_n hx hb dX8_isHeld_24 rfl (lv_at hl 3 rfl) ?_
    obtain ⟨h28, hm⟩ := chkS hm
    refine g_iald K hw 13 0 rfl (by decide) rfl rfl h28 dX8_isHeld_25 ?_
    refine lv_aload_n hx hb dX8_isHeld_26 rfl (lv_at hl 0 rfl) ?_
    refine g_get (ref := "MigrantHeapModel") (C := RX8) (T := TX8) (N := 44) (ci := 8) K in_X8_isHeld_X8 hw 0 rfl (by decide : 0 < 1) rfl rfl 27 (by decide) (List.mem_of_getElem? (i := 2) rfl) rfl rfl dX8_isHeld_27 ?_
    refine lv_icmp_ne (tgt := 80) hx hb dX8_isHeld_30 (by decide) (fun c29 => ?_) (fun c29 => ?_)
    · replace hm := (if_pos c29).symm.trans hm
      obtain rfl := Option.some.inj hm
      exact hE0 _ hg.symm H locs hw ls (lv_sub hl [0, 1, 2, 3] rfl)
    · replace hm := (if_neg (fun h => h c29)).symm.trans hm
      refine lv_iload_n hx hb dX8_isHeld_33 rfl (lv_at hl 2 rfl) ?_
      refine lv_if_ne (tgt := 68) hx hb dX8_isHeld_34 (by decide) (fun c30 => ?_) (fun c30 => ?_)
      · replace hm := (if_pos c30).symm.trans hm
        refine lv_iconst (v := 1) hx hb dX8_isHeld_68 (by decide) ?_
        refine lv_goto (tgt := 73) hx hb dX8_isHeld_69 (by decide) ?_
        refine lv_istore_n (lv' := [(2, .int 1), (0, .ref (ad 0 0)), (1, .int x1), (3, .int x3), (4, .int x.2)]) hx hb dX8_isHeld_73 rfl hl (by decide) rfl (fun ls hl => ?_)
        obtain ⟨x31, hx31, hm⟩ := nm_ex hm
        refine lv_iinc (v := x31) (lv' := [(4, .int x31), (2, .int 1), (0, .ref (ad 0 0)), (1, .int x1), (3, .int x3)]) hx hb dX8_isHeld_74 hl (k := 4) rfl (by rw [hx31]; rfl) (by decide) rfl (fun ls hl => ?_)
        refine lv_goto (tgt := 13) hx hb dX8_isHeld_77 (by decide) ?_
        obtain rfl := Option.some.inj hm
        exact hg H locs hw ls (lv_sub hl [2, 3, 1, 4, 0] rfl)
      · replace hm := (if_neg (fun h => h c30)).symm.trans hm
        refine lv_aload_n hx hb dX8_isHeld_37 rfl (lv_at hl 0 rfl) ?_
        refine g_get (ref := "MigrantHeapModel") (C := RX8) (T := TX8) (N := 44) (ci := 8) K in_X8_isHeld_X8 hw 0 rfl (by decide : 0 < 1) rfl rfl 19 (by decide) (List.mem_of_getElem? (i := 3) rfl) rfl rfl dX8_isHeld_38 ?_
        refine lv_iload hx hb dX8_isHeld_41 (lv_at hl 4 rfl) ?_
        obtain ⟨h32, hm⟩ := chkS hm
        refine g_iald K hw 18 0 rfl (by decide) rfl rfl h32 dX8_isHeld_43 ?_
        refine lv_if_lt (tgt := 72) hx hb dX8_isHeld_44 (by decide) (fun c33 => ?_) (fun c33 => ?_)
        · replace hm := (if_pos c33).symm.trans hm
          refine lv_iconst (v := 0) hx hb dX8_isHeld_72 (by decide) ?_
          refine lv_istore_n (lv' := [(2, .int 0), (0, .ref (ad 0 0)), (1, .int x1), (3, .int x3), (4, .int x.2)]) hx hb dX8_isHeld_73 rfl hl (by decide) rfl (fun ls hl => ?_)
          obtain ⟨x34, hx34, hm⟩ := nm_ex hm
          refine lv_iinc (v := x34) (lv' := [(4, .int x34), (2, .int 0), (0, .ref (ad 0 0)), (1, .int x1), (3, .int x3)]) hx hb dX8_isHeld_74 hl (k := 4) rfl (by rw [hx34]; rfl) (by decide) rfl (fun ls hl => ?_)
          refine lv_goto (tgt := 13) hx hb dX8_isHeld_77 (by decide) ?_
          obtain rfl := Option.some.inj hm
          exact hg H locs hw ls (lv_sub hl [2, 3, 1, 4, 0] rfl)
        · replace hm := (if_neg c33).symm.trans hm
          refine lv_aload_n hx hb dX8_isHeld_47 rfl (lv_at hl 0 rfl) ?_
          refine g_get (ref := "MigrantHeapModel") (C := RX8) (T := TX8) (N := 44) (ci := 8) K in_X8_isHeld_X8 hw 0 rfl (by decide : 0 < 1) rfl rfl 19 (by decide) (List.mem_of_getElem? (i := 3) rfl) rfl rfl dX8_isHeld_48 ?_
          refine lv_iload hx hb dX8_isHeld_51 (lv_at hl 4 rfl) ?_
          obtain ⟨h35, hm⟩ := chkS hm
          refine g_iald K hw 18 0 rfl (by decide) rfl rfl h35 dX8_isHeld_53 ?_
          refine lv_aload_n hx hb dX8_isHeld_54 rfl (lv_at hl 0 rfl) ?_
          refine g_get (ref := "MigrantHeapModel") (C := RX8) (T := TX8) (N := 44) (ci := 8) K in_X8_isHeld_X8 hw 0 rfl (by decide : 0 < 1) rfl rfl 34 (by decide) (List.mem_of_getElem? (i := 4) rfl) rfl rfl dX8_isHeld_55 ?_
          refine lv_bipush (v := 6) hx hb dX8_isHeld_58 (by decide) ?_
          refine lv_iload_n hx hb dX8_isHeld_60 rfl (lv_at hl 3 rfl) ?_
          refine lv_imul hx hb dX8_isHeld_61 ?_
          refine lv_iload_n hx hb dX8_isHeld_62 rfl (lv_at hl 1 rfl) ?_
          refine lv_iadd hx hb dX8_isHeld_63 ?_
          obtain ⟨h36, hm⟩ := chkS hm
          refine g_iald K hw 28 0 rfl (by decide) rfl rfl h36 dX8_isHeld_64 ?_
          refine lv_icmp_ne (tgt := 72) hx hb dX8_isHeld_65 (by decide) (fun c37 => ?_) (fun c37 => ?_)
          · replace hm := (if_pos c37).symm.trans hm
            refine lv_iconst (v := 0) hx hb dX8_isHeld_72 (by decide) ?_
            refine lv_istore_n (lv' := [(2, .int 0), (0, .ref (ad 0 0)), (1, .int x1), (3, .int x3), (4, .int x.2)]) hx hb dX8_isHeld_73 rfl hl (by decide) rfl (fun ls hl => ?_)
            obtain ⟨x38, hx38, hm⟩ := nm_ex hm
            refine lv_iinc (v := x38) (lv' := [(4, .int x38), (2, .int 0), (0, .ref (ad 0 0)), (1, .int x1), (3, .int x3)]) hx hb dX8_isHeld_74 hl (k := 4) rfl (by rw [hx38]; rfl) (by decide) rfl (fun ls hl => ?_)
            refine lv_goto (tgt := 13) hx hb dX8_isHeld_77 (by decide) ?_
            obtain rfl := Option.some.inj hm
            exact hg H locs hw ls (lv_sub hl [2, 3, 1, 4, 0] rfl)
          · replace hm := (if_neg (fun h => h c37)).symm.trans hm
            refine lv_iconst (v := 1) hx hb dX8_isHeld_68 (by decide) ?_
            refine lv_goto (tgt := 73) hx hb dX8_isHeld_69 (by decide) ?_
            refine lv_istore_n (lv' := [(2, .int 1), (0, .ref (ad 0 0)), (1, .int x1), (3, .int x3), (4, .int x.2)]) hx hb dX8_isHeld_73 rfl hl (by decide) rfl (fun ls hl => ?_)
            obtain ⟨x39, hx39, hm⟩ := nm_ex hm
            refine lv_iinc (v := x39) (lv' := [(4, .int x39), (2, .int 1), (0, .ref (ad 0 0)), (1, .int x1), (3, .int x3)]) hx hb dX8_isHeld_74 hl (k := 4) rfl (by rw [hx39]; rfl) (by decide) rfl (fun ls hl => ?_)
            refine lv_goto (tgt := 13) hx hb dX8_isHeld_77 (by decide) ?_
            obtain rfl := Option.some.inj hm
            exact hg H locs hw ls (lv_sub hl [2, 3, 1, 4, 0] rfl)
set_option maxRecDepth 100000 in
set_option maxHeartbeats 4000000 in
theorem t_X8_isHeld_L4 (K : Cx p s m args meth c D A (tysC cy) RX8 cX8_isHeld 5 (some .boolean) wsX8_isHeld (fun _ _ => True)) (n : Nat) (S : MSt) (x1 : Int32)  (z : Int32) (hE0 : ∀ w : Int32, z = w → ∀ (H : Heap) (locs : List Loc), Wd D A s.heap (GM cy ad S) H locs → ∀ ls : Array Slot, lv_has ls 5 [(2, .int w)] → W p l e rm_X8_isHeld s m args below meth c H locs 0 0 Q (F0 m 86 ls [])) : ∀ (x : (Int32 × Int32)), lpO (b_X8_isHeld_4 n S x1) n x = some z → (fun (x : (Int32 × Int32)) => ∀ (H : Heap) (locs : List Loc), Wd D A s.heap (GM cy ad S) H locs → ∀ ls : Array Slot, lv_has ls 5 [(0, .ref (ad 0 0)), (1, .int x1), (2, .int x.1), (3, .int x.2)] → W p l e rm_X8_isHeld s m args below meth c H locs 0 0 Q (F0 m 4 ls [])) x := by
  intro x hx0
  refine lpO_ind2 (P := fun (x : (Int32 × Int32)) => ∀ (H : Heap) (locs : List Loc), Wd D A s.heap (GM cy ad S) H locs → ∀ ls : Array Slot, lv_has ls 5 [(0, .ref (ad 0 0)), (1, .int x1), (2, .int x.1), (3, .int x.2)] → W p l e rm_X8_isHeld s m args below meth c H locs 0 0 Q (F0 m 4 ls [])) (z := z) ?_ n x hx0
  clear hx0 x
  intro x out hm hg H locs hw ls hl 
  obtain ⟨hx, hb, hml, hown, hts, hr, hlo, hK, hA, hX⟩ := id K
  unfold b_X8_isHeld_4 at hm
  refine lv_iload_n hx hb dX8_isHeld_4 rfl (lv_at hl 3 rfl) ?_
  refine lv_bipush (v := 24) hx hb dX8_isHeld_5 (by decide) ?_
  refine lv_icmp_ge (tgt := 86) hx hb dX8_isHeld_7 (by decide) (fun c40 => ?_) (fun c40 => ?_)
  · replace hm := (if_pos c40).symm.trans hm
    obtain rfl := Option.some.inj hm
    exact hE0 _ hg.symm H locs hw ls (lv_sub hl [2] rfl)
  · replace hm := (if_neg c40).symm.trans hm
    refine lv_iconst (v := 0) hx hb dX8_isHeld_10 (by decide) ?_
    refine lv_istore (lv' := [(4, .int 0), (0, .ref (ad 0 0)), (1, .int x1), (2, .int x.1), (3, .int x.2)]) hx hb dX8_isHeld_11 hl (by decide) rfl (fun ls hl => ?_)
    obtain ⟨z41, hz42, hm⟩ := bindS hm
    refine t_X8_isHeld_L13 K n S x1 x.2 z41 (fun w43 hww43 => ?_) ((x.1, 0)) hz42 H locs hw ls (lv_sub hl [1, 2, 3, 4, 0] rfl)
    · intro H locs hw ls hl 
      try rw [hww43] at hm
      obtain ⟨x44, hx44, hm⟩ := nm_ex hm
      refine lv_iinc (v := x44) (lv' := [(3, .int x44), (0, .ref (ad 0 0)), (1, .int x1), (2, .int w43)]) hx hb dX8_isHeld_80 hl (k := 3) rfl (by rw [hx44]; rfl) (by decide) rfl (fun ls hl => ?_)
      refine lv_goto (tgt := 4) hx hb dX8_isHeld_83 (by decide) ?_
      obtain rfl := Option.some.inj hm
      exact hg H locs hw ls (lv_sub hl [1, 2, 3, 0] rfl)
set_option maxRecDepth 100000 in
set_option maxHeartbeats 4000000 in
theorem t_X8_isHeld_0 (K : Cx p s m args meth c D A (tysC cy) RX8 cX8_isHeld 5 (some .boolean) wsX8_isHeld (fun _ _ => True)) (n : Nat) (S : MSt) (x1 : Int32)  {out : Int32} (hm : m_X8_isHeld n S x1 = some out) : ∀ (H : Heap) (locs : List Loc), Wd D A s.heap (GM cy ad S) H locs → ∀ ls : Array Slot, lv_has ls 5 [(0, .ref (ad 0 0)), (1, .int x1)] → W p l e rm_X8_isHeld s m args below meth c H locs 0 0 (MQ below (va_Qi (fun r (u : MSt) => out = r ∧ u = S) (fun u => Pst D (tysC cy) A (GM cy ad u)) A) args s 0 0 A) (F0 m 0 ls []) := by
  intro H locs hw ls hl
  obtain ⟨hx, hb, hml, hown, hts, hr, hlo, hK, hA, hX⟩ := id K
  unfold m_X8_isHeld at hm
  refine lv_iconst (v := 0) hx hb dX8_isHeld_0 (by decide) ?_
  refine lv_istore_n (lv' := [(2, .int 0), (0, .ref (ad 0 0)), (1, .int x1)]) hx hb dX8_isHeld_1 rfl hl (by decide) rfl (fun ls hl => ?_)
  refine lv_iconst (v := 0) hx hb dX8_isHeld_2 (by decide) ?_
  refine lv_istore_n (lv' := [(3, .int 0), (2, .int 0), (0, .ref (ad 0 0)), (1, .int x1)]) hx hb dX8_isHeld_3 rfl hl (by decide) rfl (fun ls hl => ?_)
  obtain ⟨z45, hz46, hm⟩ := bindS hm
  refine t_X8_isHeld_L4 K n S x1 z45 (fun w47 hww47 => ?_) ((0, 0)) hz46 H locs hw ls (lv_sub hl [2, 3, 1, 0] rfl)
  · intro H locs hw ls hl 
    try rw [hww47] at hm
    refine lv_iload_n hx hb dX8_isHeld_86 rfl (lv_at hl 0 rfl) ?_
    obtain ⟨h48, hm⟩ := chkS hm
    exact g_zret (GG := GM cy ad) K hw h48 ⟨(Option.some.inj hm).symm, rfl⟩ dX8_isHeld_87
set_option maxRecDepth 100000 in
set_option maxHeartbeats 4000000 in
theorem c_X8_isHeld (l : Launch) (D : va_G) (cy : Nat → ClassId) (ad : Nat → Nat → Nat) (sz n : Nat) (S : MSt) (x1 : Int32)  {out : Int32} (hm : m_X8_isHeld n S x1 = some out) : Met l yX8_isHeld wsX8_isHeld rm_X8_isHeld (va_Pc [.ref (ad 0 0), .int x1] (Pre D (tysC cy) (GM cy ad S) (fun _ _ => True) sz)) (va_Qi (fun r (u : MSt) => out = r ∧ u = S) (fun u => Pst D (tysC cy) (AA (adrs (GM cy ad S)) sz) (GM cy ad u)) (AA (adrs (GM cy ad S)) sz)) 0 0 (AA (adrs (GM cy ad S)) sz) := by
  refine g_met (by decide) rfl (Nat.le_of_ble_eq_true rfl) ?_
  intro p e s m args below meth c K hw ls hl
  exact t_X8_isHeld_0 (cy := cy) K n S x1  hm _ _ hw ls hl
end W_X8_isHeld
section W_X8_joinField
variable {p : Program} {l : Launch} {e : Env} {s : State} {m : MethodId} {args : Array Value} {below : List Frame} {meth : Method} {c : Code} {D : va_G} {A : Nat → Prop} {cy : Nat → ClassId} {ad : Nat → Nat → Nat} {Q : State → Prop}
abbrev rm_X8_joinField : Room := { frames := 2, cells := 0, slots := 0, locals := 47 }
theorem in_X8_joinField_X8 : ∀ w ∈ u_ws RX8 TX8 44, w ∈ wsX8_joinField := by decide +kernel
set_option maxRecDepth 100000 in
set_option maxHeartbeats 4000000 in
theorem t_X8_joinField_L233 (K : Cx p s m args meth c D A (tysC cy) RX8 cX8_joinField 6 (some .boolean) wsX8_joinField (fun _ _ => True)) (n : Nat) (x3 : Int32)  (z : MSt) (hE0 : ∀ w : MSt, z = w → ∀ (H : Heap) (locs : List Loc), Wd D A s.heap (GM cy ad w) H locs → ∀ ls : Array Slot, lv_has ls 6 [(0, .ref (ad 0 0)), (3, .int x3)] → W p l e rm_X8_joinField s m args below meth c H locs 0 0 Q (F0 m 273 ls [])) : ∀ (x : (MSt × Int32)), lpO (b_X8_joinField_233 n x3) n x = some z → (fun (x : (MSt × Int32)) => ∀ (H : Heap) (locs : List Loc), Wd D A s.heap (GM cy ad x.1) H locs → ∀ ls : Array Slot, lv_has ls 6 [(0, .ref (ad 0 0)), (3, .int x3), (4, .int x.2)] → W p l e rm_X8_joinField s m args below meth c H locs 0 0 Q (F0 m 233 ls [])) x := by
  intro x hx0
  refine lpO_ind2 (P := fun (x : (MSt × Int32)) => ∀ (H : Heap) (locs : List Loc), Wd D A s.heap (GM cy ad x.1) H locs → ∀ ls : Array Slot, lv_has ls 6 [(0, .ref (ad 0 0)), (3, .int x3), (4, .int x.2)] → W p l e rm_X8_joinField s m args below meth c H locs 0 0 Q (F0 m 233 ls [])) (z := z) ?_ n x hx0
  clear hx0 x
  intro x out hm hg H locs hw ls hl 
  obtain ⟨hx, hb, hml, hown, hts, hr, hlo, hK, hA, hX⟩ := id K
  unfold b_X8_joinField_233 at hm
  refine lv_iload hx hb dX8_joinField_233 (lv_at hl 2 rfl) ?_
  refine lv_bipush (v := 24) hx hb dX8_joinField_235 (by decide) ?_
  refine lv_icmp_ge (tgt := 273) hx hb dX8_joinField_237 (by decide) (fun c116 => ?_) (fun c116 => ?_)
  · replace hm := (if_pos c116).symm.trans hm
    obtain rfl := Option.some.inj hm
    exact hE0 _ hg.symm H locs hw ls (lv_sub hl [0, 1] rfl)
  · replace hm := (if_neg c116).symm.trans hm
    refine lv_aload_n hx hb dX8_joinField_240 rfl (lv_at hl 0 rfl) ?_
    refine g_get (ref := "MigrantHeapModel") (C := RX8) (T := TX8) (N := 44) (ci := 8) K in_X8_joinField_X8 hw 0 rfl (by decide : 0 < 1) rfl rfl 14 (by decide) (List.mem_of_getElem? (i := 10) rfl) rfl rfl dX8_joinField_241 ?_
    refine lv_iload hx hb dX8_joinField_244 (lv_at hl 2 rfl) ?_
    obtain ⟨h117, hm⟩ := chkS hm
    refine g_iald K hw 13 0 rfl (by decide) rfl rfl h117 dX8_joinField_246 ?_
    refine lv_aload_n hx hb dX8_joinField_247 rfl (lv_at hl 0 rfl) ?_
    refine g_get (ref := "MigrantHeapModel") (C := RX8) (T := TX8) (N := 44) (ci := 8) K in_X8_joinField_X8 hw 0 rfl (by decide : 0 < 1) rfl rfl 27 (by decide) (List.mem_of_getElem? (i := 11) rfl) rfl rfl dX8_joinField_248 ?_
    refine lv_icmp_ne (tgt := 267) hx hb dX8_joinField_251 (by decide) (fun c118 => ?_) (fun c118 => ?_)
    · replace hm := (if_pos c118).symm.trans hm
      obtain ⟨x119, hx119, hm⟩ := nm_ex hm
      refine lv_iinc (v := x119) (lv' := [(4, .int x119), (0, .ref (ad 0 0)), (3, .int x3)]) hx hb dX8_joinField_267 hl (k := 2) rfl (by rw [hx119]; rfl) (by decide) rfl (fun ls hl => ?_)
      refine lv_goto (tgt := 233) hx hb dX8_joinField_270 (by decide) ?_
      obtain rfl := Option.some.inj hm
      exact hg H locs hw ls (lv_sub hl [1, 2, 0] rfl)
    · replace hm := (if_neg (fun h => h c118)).symm.trans hm
      refine lv_aload_n hx hb dX8_joinField_254 rfl (lv_at hl 0 rfl) ?_
      refine g_get (ref := "MigrantHeapModel") (C := RX8) (T := TX8) (N := 44) (ci := 8) K in_X8_joinField_X8 hw 0 rfl (by decide : 0 < 1) rfl rfl 14 (by decide) (List.mem_of_getElem? (i := 10) rfl) rfl rfl dX8_joinField_255 ?_
      refine lv_aload_n hx hb dX8_joinField_258 rfl (lv_at hl 0 rfl) ?_
      refine g_get (ref := "MigrantHeapModel") (C := RX8) (T := TX8) (N := 44) (ci := 8) K in_X8_joinField_X8 hw 0 rfl (by decide : 0 < 1) rfl rfl 43 (by decide) (List.mem_of_getElem? (i := 4) rfl) rfl rfl dX8_joinField_259 ?_
      refine lv_iload hx hb dX8_joinField_262 (lv_at hl 2 rfl) ?_
      obtain ⟨h120, hm⟩ := chkS hm
      refine g_iald K hw 34 0 rfl (by decide) rfl rfl h120 dX8_joinField_264 ?_
      refine lv_iconst (v := (-1)) hx hb dX8_joinField_265 (by decide) ?_
      obtain ⟨h121, hm⟩ := chkS hm
      refine g_iast K hw 13 0 rfl (by decide) rfl rfl h121 dX8_joinField_266 (eM_14 cy ad x.1 ((x.1.1 43 x.2.toNatClampNeg).toNatClampNeg) (-1)) (fun H locs hw => ?_)
      obtain ⟨S122, hS122, hm⟩ := nm_ex hm
      rw [← hS122] at hw
      obtain ⟨x123, hx123, hm⟩ := nm_ex hm
      refine lv_iinc (v := x123) (lv' := [(4, .int x123), (0, .ref (ad 0 0)), (3, .int x3)]) hx hb dX8_joinField_267 hl (k := 2) rfl (by rw [hx123]; rfl) (by decide) rfl (fun ls hl => ?_)
      refine lv_goto (tgt := 233) hx hb dX8_joinField_270 (by decide) ?_
      obtain rfl := Option.some.inj hm
      exact hg H locs hw ls (lv_sub hl [1, 2, 0] rfl)
set_option maxRecDepth 100000 in
set_option maxHeartbeats 4000000 in
theorem t_X8_joinField_L162 (K : Cx p s m args meth c D A (tysC cy) RX8 cX8_joinField 6 (some .boolean) wsX8_joinField (fun _ _ => True)) (n : Nat) (x3 : Int32) (x4 : Int32)  (z : MSt) (hE0 : ∀ w : MSt, z = w → ∀ (H : Heap) (locs : List Loc), Wd D A s.heap (GM cy ad w) H locs → ∀ ls : Array Slot, lv_has ls 6 [(0, .ref (ad 0 0)), (3, .int x3), (4, .int x4)] → W p l e rm_X8_joinField s m args below meth c H locs 0 0 Q (F0 m 224 ls [])) : ∀ (x : (MSt × Int32)), lpO (b_X8_joinField_162 n x3 x4) n x = some z → (fun (x : (MSt × Int32)) => ∀ (H : Heap) (locs : List Loc), Wd D A s.heap (GM cy ad x.1) H locs → ∀ ls : Array Slot, lv_has ls 6 [(0, .ref (ad 0 0)), (3, .int x3), (4, .int x4), (5, .int x.2)] → W p l e rm_X8_joinField s m args below meth c H locs 0 0 Q (F0 m 162 ls [])) x := by
  intro x hx0
  refine lpO_ind2 (P := fun (x : (MSt × Int32)) => ∀ (H : Heap) (locs : List Loc), Wd D A s.heap (GM cy ad x.1) H locs → ∀ ls : Array Slot, lv_has ls 6 [(0, .ref (ad 0 0)), (3, .int x3), (4, .int x4), (5, .int x.2)] → W p l e rm_X8_joinField s m args below meth c H locs 0 0 Q (F0 m 162 ls [])) (z := z) ?_ n x hx0
  clear hx0 x
  intro x out hm hg H locs hw ls hl 
  obtain ⟨hx, hb, hml, hown, hts, hr, hlo, hK, hA, hX⟩ := id K
  unfold b_X8_joinField_162 at hm
  refine lv_iload hx hb dX8_joinField_162 (lv_at hl 3 rfl) ?_
  refine lv_bipush (v := 24) hx hb dX8_joinField_164 (by decide) ?_
  refine lv_icmp_ge (tgt := 224) hx hb dX8_joinField_166 (by decide) (fun c124 => ?_) (fun c124 => ?_)
  · replace hm := (if_pos c124).symm.trans hm
    obtain rfl := Option.some.inj hm
    exact hE0 _ hg.symm H locs hw ls (lv_sub hl [0, 1, 2] rfl)
  · replace hm := (if_neg c124).symm.trans hm
    refine lv_aload_n hx hb dX8_joinField_169 rfl (lv_at hl 0 rfl) ?_
    refine g_get (ref := "MigrantHeapModel") (C := RX8) (T := TX8) (N := 44) (ci := 8) K in_X8_joinField_X8 hw 0 rfl (by decide : 0 < 1) rfl rfl 14 (by decide) (List.mem_of_getElem? (i := 10) rfl) rfl rfl dX8_joinField_170 ?_
    refine lv_iload hx hb dX8_joinField_173 (lv_at hl 3 rfl) ?_
    obtain ⟨h125, hm⟩ := chkS hm
    refine g_iald K hw 13 0 rfl (by decide) rfl rfl h125 dX8_joinField_175 ?_
    refine lv_aload_n hx hb dX8_joinField_176 rfl (lv_at hl 0 rfl) ?_
    refine g_get (ref := "MigrantHeapModel") (C := RX8) (T := TX8) (N := 44) (ci := 8) K in_X8_joinField_X8 hw 0 rfl (by decide : 0 < 1) rfl rfl 27 (by decide) (List.mem_of_getElem? (i := 11) rfl) rfl rfl dX8_joinField_177 ?_
    refine lv_icmp_ne (tgt := 218) hx hb dX8_joinField_180 (by decide) (fun c126 => ?_) (fun c126 => ?_)
    · replace hm := (if_pos c126).symm.trans hm
      obtain ⟨x127, hx127, hm⟩ := nm_ex hm
      refine lv_iinc (v := x127) (lv' := [(5, .int x127), (0, .ref (ad 0 0)), (3, .int x3), (4, .int x4)]) hx hb dX8_joinField_218 hl (k := 3) rfl (by rw [hx127]; rfl) (by decide) rfl (fun ls hl => ?_)
      refine lv_goto (tgt := 162) hx hb dX8_joinField_221 (by decide) ?_
      obtain rfl := Option.some.inj hm
      exact hg H locs hw ls (lv_sub hl [1, 2, 3, 0] rfl)
    · replace hm := (if_neg (fun h => h c126)).symm.trans hm
      refine lv_aload_n hx hb dX8_joinField_183 rfl (lv_at hl 0 rfl) ?_
      refine g_get (ref := "MigrantHeapModel") (C := RX8) (T := TX8) (N := 44) (ci := 8) K in_X8_joinField_X8 hw 0 rfl (by decide : 0 < 1) rfl rfl 34 (by decide) (List.mem_of_getElem? (i := 5) rfl) rfl rfl dX8_joinField_184 ?_
      refine lv_bipush (v := 6) hx hb dX8_joinField_187 (by decide) ?_
      refine lv_iload hx hb dX8_joinField_189 (lv_at hl 3 rfl) ?_
      refine lv_imul hx hb dX8_joinField_191 ?_
      refine lv_aload_n hx hb dX8_joinField_192 rfl (lv_at hl 0 rfl) ?_
      refine g_get (ref := "MigrantHeapModel") (C := RX8) (T := TX8) (N := 44) (ci := 8) K in_X8_joinField_X8 hw 0 rfl (by decide : 0 < 1) rfl rfl 28 (by decide) (List.mem_of_getElem? (i := 12) rfl) rfl rfl dX8_joinField_193 ?_
      refine lv_iadd hx hb dX8_joinField_196 ?_
      refine lv_iconst (v := 1) hx hb dX8_joinField_197 (by decide) ?_
      refine lv_isub hx hb dX8_joinField_198 ?_
      refine lv_aload_n hx hb dX8_joinField_199 rfl (lv_at hl 0 rfl) ?_
      refine g_get (ref := "MigrantHeapModel") (C := RX8) (T := TX8) (N := 44) (ci := 8) K in_X8_joinField_X8 hw 0 rfl (by decide : 0 < 1) rfl rfl 16 (by decide) (List.mem_of_getElem? (i := 13) rfl) rfl rfl dX8_joinField_200 ?_
      refine lv_bipush (v := 6) hx hb dX8_joinField_203 (by decide) ?_
      refine lv_aload_n hx hb dX8_joinField_205 rfl (lv_at hl 0 rfl) ?_
      refine g_get (ref := "MigrantHeapModel") (C := RX8) (T := TX8) (N := 44) (ci := 8) K in_X8_joinField_X8 hw 0 rfl (by decide : 0 < 1) rfl rfl 43 (by decide) (List.mem_of_getElem? (i := 4) rfl) rfl rfl dX8_joinField_206 ?_
      refine lv_iload hx hb dX8_joinField_209 (lv_at hl 3 rfl) ?_
      obtain ⟨h128, hm⟩ := chkS hm
      refine g_iald K hw 34 0 rfl (by decide) rfl rfl h128 dX8_joinField_211 ?_
      refine lv_imul hx hb dX8_joinField_212 ?_
      refine lv_iload hx hb dX8_joinField_213 (lv_at hl 2 rfl) ?_
      refine lv_iadd hx hb dX8_joinField_215 ?_
      obtain ⟨h129, hm⟩ := chkS hm
      refine g_iald K hw 15 0 rfl (by decide) rfl rfl h129 dX8_joinField_216 ?_
      obtain ⟨h130, hm⟩ := chkS hm
      refine g_iast K hw 28 0 rfl (by decide) rfl rfl h130 dX8_joinField_217 (eM_34 cy ad x.1 ((((6 * x.2) + (x.1.1 28 0)) - 1).toNatClampNeg) (x.1.1 16 ((6 * (x.1.1 43 x.2.toNatClampNeg)) + x4).toNatClampNeg)) (fun H locs hw => ?_)
      obtain ⟨S131, hS131, hm⟩ := nm_ex hm
      rw [← hS131] at hw
      obtain ⟨x132, hx132, hm⟩ := nm_ex hm
      refine lv_iinc (v := x132) (lv' := [(5, .int x132), (0, .ref (ad 0 0)), (3, .int x3), (4, .int x4)]) hx hb dX8_joinField_218 hl (k := 3) rfl (by rw [hx132]; rfl) (by decide) rfl (fun ls hl => ?_)
      refine lv_goto (tgt := 162) hx hb dX8_joinField_221 (by decide) ?_
      obtain rfl := Option.some.inj hm
      exact hg H locs hw ls (lv_sub hl [1, 2, 3, 0] rfl)
set_option maxRecDepth 100000 in
set_option maxHeartbeats 4000000 in
theorem t_X8_joinField_L102 (K : Cx p s m args meth c D A (tysC cy) RX8 cX8_joinField 6 (some .boolean) wsX8_joinField (fun _ _ => True)) (n : Nat) (x3 : Int32)  (z : (MSt ⊕ MSt)) (hE0 : ∀ w : MSt, z = .inl w → ∀ (H : Heap) (locs : List Loc), Wd D A s.heap (GM cy ad w) H locs → ∀ ls : Array Slot, lv_has ls 6 [] → W p l e rm_X8_joinField s m args below meth c H locs 0 0 Q (F0 m 157 ls [])) (hE1 : ∀ w : MSt, z = .inr w → ∀ (H : Heap) (locs : List Loc), Wd D A s.heap (GM cy ad w) H locs → ∀ ls : Array Slot, lv_has ls 6 [(0, .ref (ad 0 0)), (3, .int x3)] → W p l e rm_X8_joinField s m args below meth c H locs 0 0 Q (F0 m 230 ls [])) : ∀ (x : (MSt × Int32)), lpO (b_X8_joinField_102 n x3) n x = some z → (fun (x : (MSt × Int32)) => ∀ (H : Heap) (locs : List Loc), Wd D A s.heap (GM cy ad x.1) H locs → ∀ ls : Array Slot, lv_has ls 6 [(0, .ref (ad 0 0)), (3, .int x3), (4, .int x.2)] → W p l e rm_X8_joinField s m args below meth c H locs 0 0 Q (F0 m 102 ls [])) x := by
  intro x hx0
  refine lpO_ind2 (P := fun (x : (MSt × Int32)) => ∀ (H : Heap) (locs : List Loc), Wd D A s.heap (GM cy ad x.1) H locs → ∀ ls : Array Slot, lv_has ls 6 [(0, .ref (ad 0 0)), (3, .int x3), (4, .int x.2)] → W p l e rm_X8_joinField s m args below meth c H locs 0 0 Q (F0 m 102 ls [])) (z := z) ?_ n x hx0
  clear hx0 x
  intro x out hm hg H locs hw ls hl 
  obtain ⟨hx, hb, hml, hown, hts, hr, hlo, hK, hA, hX⟩ := id K
  unfold b_X8_joinField_102 at hm
  refine lv_iload hx hb dX8_joinField_102 (lv_at hl 2 rfl) ?_
  refine lv_aload_n hx hb dX8_joinField_104 rfl (lv_at hl 0 rfl) ?_
  refine g_get (ref := "MigrantHeapModel") (C := RX8) (T := TX8) (N := 44) (ci := 8) K in_X8_joinField_X8 hw 0 rfl (by decide : 0 < 1) rfl rfl 4 (by decide) (List.mem_of_getElem? (i := 6) rfl) rfl rfl dX8_joinField_105 ?_
  refine lv_iload_n hx hb dX8_joinField_108 rfl (lv_at hl 1 rfl) ?_
  obtain ⟨h133, hm⟩ := chkS hm
  refine g_iald K hw 3 0 rfl (by decide) rfl rfl h133 dX8_joinField_109 ?_
  refine lv_icmp_ge (tgt := 230) hx hb dX8_joinField_110 (by decide) (fun c134 => ?_) (fun c134 => ?_)
  · replace hm := (if_pos c134).symm.trans hm
    obtain rfl := Option.some.inj hm
    exact hE1 _ hg.symm H locs hw ls (lv_sub hl [0, 1] rfl)
  · replace hm := (if_neg c134).symm.trans hm
    refine lv_aload_n hx hb dX8_joinField_113 rfl (lv_at hl 0 rfl) ?_
    refine lv_aload_n hx hb dX8_joinField_114 rfl (lv_at hl 0 rfl) ?_
    refine g_get (ref := "MigrantHeapModel") (C := RX8) (T := TX8) (N := 44) (ci := 8) K in_X8_joinField_X8 hw 0 rfl (by decide : 0 < 1) rfl rfl 5 (by decide) (List.mem_of_getElem? (i := 7) rfl) rfl rfl dX8_joinField_115 ?_
    refine lv_bipush (v := 6) hx hb dX8_joinField_118 (by decide) ?_
    refine lv_iload_n hx hb dX8_joinField_120 rfl (lv_at hl 1 rfl) ?_
    refine lv_imul hx hb dX8_joinField_121 ?_
    refine lv_iload hx hb dX8_joinField_122 (lv_at hl 2 rfl) ?_
    refine lv_iadd hx hb dX8_joinField_124 ?_
    obtain ⟨h135, hm⟩ := chkS hm
    refine g_iald K hw 4 0 rfl (by decide) rfl rfl h135 dX8_joinField_125 ?_
    refine lv_iconst (v := 0) hx hb dX8_joinField_126 (by decide) ?_
    refine lv_aload_n hx hb dX8_joinField_127 rfl (lv_at hl 0 rfl) ?_
    refine g_get (ref := "MigrantHeapModel") (C := RX8) (T := TX8) (N := 44) (ci := 8) K in_X8_joinField_X8 hw 0 rfl (by decide : 0 < 1) rfl rfl 7 (by decide) (List.mem_of_getElem? (i := 8) rfl) rfl rfl dX8_joinField_128 ?_
    refine lv_bipush (v := 6) hx hb dX8_joinField_131 (by decide) ?_
    refine lv_iload_n hx hb dX8_joinField_133 rfl (lv_at hl 1 rfl) ?_
    refine lv_imul hx hb dX8_joinField_134 ?_
    refine lv_iload hx hb dX8_joinField_135 (lv_at hl 2 rfl) ?_
    refine lv_iadd hx hb dX8_joinField_137 ?_
    obtain ⟨h136, hm⟩ := chkS hm
    refine g_iald K hw 6 0 rfl (by decide) rfl rfl h136 dX8_joinField_138 ?_
    refine lv_aload_n hx hb dX8_joinField_139 rfl (lv_at hl 0 rfl) ?_
    refine g_get (ref := "MigrantHeapModel") (C := RX8) (T := TX8) (N := 44) (ci := 8) K in_X8_joinField_X8 hw 0 rfl (by decide : 0 < 1) rfl rfl 8 (by decide) (List.mem_of_getElem? (i := 9) rfl) rfl rfl dX8_joinField_140 ?_
    refine lv_bipush (v := 6) hx hb dX8_joinField_143 (by decide) ?_
    refine lv_iload_n hx hb dX8_joinField_145 rfl (lv_at hl 1 rfl) ?_
    refine lv_imul hx hb dX8_joinField_146 ?_
    refine lv_iload hx hb dX8_joinField_147 (lv_at hl 2 rfl) ?_
    refine lv_iadd hx hb dX8_joinField_149 ?_
    obtain ⟨h137, hm⟩ := chkS hm
    refine g_iald K hw 7 0 rfl (by decide) rfl rfl h137 dX8_joinField_150 ?_
    obtain ⟨z139, hc138, hm⟩ := bindS hm
    refine g_calli (GG := GM cy ad) K hw (va_runV (As := [.int (x.1.1 5 ((6 * x3) + x.2).toNatClampNeg), .int 0, .int (x.1.1 7 ((6 * x3) + x.2).toNatClampNeg), .int (x.1.1 8 ((6 * x3) + x.2).toNatClampNeg)]) (rest := []) (g_fix K) (c_X8_append l D cy ad H.size n x.1 (x.1.1 5 ((6 * x3) + x.2).toNatClampNeg) 0 (x.1.1 7 ((6 * x3) + x.2).toNatClampNeg) (x.1.1 8 ((6 * x3) + x.2).toNatClampNeg)  hc138) (cwV 4 (g_hts K) gX8_joinField_X8_append rfl rfl rfl (by decide +kernel) ⟨Nat.le_of_ble_eq_true rfl, Nat.le_of_ble_eq_true rfl⟩) ⟨g_blind rides_none, g_recv K hw 0 rfl (by decide : 0 < 1) rfl rfl, g_pre (X2 := fun _ _ => True) K hw (fun _ _ _ => trivial)⟩ rfl rfl hl.1 rfl (lv_room (Nat.le_of_ble_eq_true rfl)) dX8_joinField_151 ⟨Nat.le_of_ble_eq_true rfl, Nat.le_of_ble_eq_true rfl⟩) (fun r u H locs hp hw => ?_)
    obtain ⟨rfl, rfl⟩ : r = z139.1 ∧ u = z139.2 := by rw [hp]; exact ⟨rfl, rfl⟩
    refine lv_if_ne (tgt := 159) hx hb dX8_joinField_154 (by decide) (fun c140 => ?_) (fun c140 => ?_)
    · replace hm := (if_pos c140).symm.trans hm
      refine lv_iconst (v := 0) hx hb dX8_joinField_159 (by decide) ?_
      refine lv_istore (lv' := [(5, .int 0), (0, .ref (ad 0 0)), (3, .int x3), (4, .int x.2)]) hx hb dX8_joinField_160 hl (by decide) rfl (fun ls hl => ?_)
      obtain ⟨z141, hz142, hm⟩ := bindS hm
      refine t_X8_joinField_L162 K n x3 x.2 z141 (fun w143 hww143 => ?_) ((z139.2, 0)) hz142 H locs hw ls (lv_sub hl [1, 2, 3, 0] rfl)
      · intro H locs hw ls hl 
        try rw [hww143] at hm
        obtain ⟨x144, hx144, hm⟩ := nm_ex hm
        refine lv_iinc (v := x144) (lv' := [(4, .int x144), (0, .ref (ad 0 0)), (3, .int x3)]) hx hb dX8_joinField_224 hl (k := 2) rfl (by rw [hx144]; rfl) (by decide) rfl (fun ls hl => ?_)
        refine lv_goto (tgt := 102) hx hb dX8_joinField_227 (by decide) ?_
        obtain rfl := Option.some.inj hm
        exact hg H locs hw ls (lv_sub hl [1, 2, 0] rfl)
    · replace hm := (if_neg (fun h => h c140)).symm.trans hm
      obtain rfl := Option.some.inj hm
      exact hE0 _ hg.symm H locs hw ls (lv_sub hl [] rfl)
set_option maxRecDepth 100000 in
set_option maxHeartbeats 4000000 in
theorem t_X8_joinField_L62 (K : Cx p s m args meth c D A (tysC cy) RX8 cX8_joinField 6 (some .boolean) wsX8_joinField (fun _ _ => True)) (n : Nat) (x2 : Int32) (x3 : Int32)  (z : MSt) (hE0 : ∀ w : MSt, z = w → ∀ (H : Heap) (locs : List Loc), Wd D A s.heap (GM cy ad w) H locs → ∀ ls : Array Slot, lv_has ls 6 [(0, .ref (ad 0 0)), (2, .int x2), (3, .int x3)] → W p l e rm_X8_joinField s m args below meth c H locs 0 0 Q (F0 m 94 ls [])) : ∀ (x : (MSt × Int32)), lpO (b_X8_joinField_62 n x2 x3) n x = some z → (fun (x : (MSt × Int32)) => ∀ (H : Heap) (locs : List Loc), Wd D A s.heap (GM cy ad x.1) H locs → ∀ ls : Array Slot, lv_has ls 6 [(0, .ref (ad 0 0)), (2, .int x2), (3, .int x3), (4, .int x.2)] → W p l e rm_X8_joinField s m args below meth c H locs 0 0 Q (F0 m 62 ls [])) x := by
  intro x hx0
  refine lpO_ind2 (P := fun (x : (MSt × Int32)) => ∀ (H : Heap) (locs : List Loc), Wd D A s.heap (GM cy ad x.1) H locs → ∀ ls : Array Slot, lv_has ls 6 [(0, .ref (ad 0 0)), (2, .int x2), (3, .int x3), (4, .int x.2)] → W p l e rm_X8_joinField s m args below meth c H locs 0 0 Q (F0 m 62 ls [])) (z := z) ?_ n x hx0
  clear hx0 x
  intro x out hm hg H locs hw ls hl 
  obtain ⟨hx, hb, hml, hown, hts, hr, hlo, hK, hA, hX⟩ := id K
  unfold b_X8_joinField_62 at hm
  refine lv_iload hx hb dX8_joinField_62 (lv_at hl 3 rfl) ?_
  refine lv_bipush (v := 24) hx hb dX8_joinField_64 (by decide) ?_
  refine lv_icmp_ge (tgt := 94) hx hb dX8_joinField_66 (by decide) (fun c145 => ?_) (fun c145 => ?_)
  · replace hm := (if_pos c145).symm.trans hm
    obtain rfl := Option.some.inj hm
    exact hE0 _ hg.symm H locs hw ls (lv_sub hl [0, 1, 2] rfl)
  · replace hm := (if_neg c145).symm.trans hm
    refine lv_aload_n hx hb dX8_joinField_69 rfl (lv_at hl 0 rfl) ?_
    refine g_get (ref := "MigrantHeapModel") (C := RX8) (T := TX8) (N := 44) (ci := 8) K in_X8_joinField_X8 hw 0 rfl (by decide : 0 < 1) rfl rfl 43 (by decide) (List.mem_of_getElem? (i := 4) rfl) rfl rfl dX8_joinField_70 ?_
    refine lv_iload hx hb dX8_joinField_73 (lv_at hl 3 rfl) ?_
    refine lv_aload_n hx hb dX8_joinField_75 rfl (lv_at hl 0 rfl) ?_
    refine g_get (ref := "MigrantHeapModel") (C := RX8) (T := TX8) (N := 44) (ci := 8) K in_X8_joinField_X8 hw 0 rfl (by decide : 0 < 1) rfl rfl 34 (by decide) (List.mem_of_getElem? (i := 5) rfl) rfl rfl dX8_joinField_76 ?_
    refine lv_bipush (v := 6) hx hb dX8_joinField_79 (by decide) ?_
    refine lv_iload hx hb dX8_joinField_81 (lv_at hl 3 rfl) ?_
    refine lv_imul hx hb dX8_joinField_83 ?_
    refine lv_iload_n hx hb dX8_joinField_84 rfl (lv_at hl 1 rfl) ?_
    refine lv_iadd hx hb dX8_joinField_85 ?_
    obtain ⟨h146, hm⟩ := chkS hm
    refine g_iald K hw 28 0 rfl (by decide) rfl rfl h146 dX8_joinField_86 ?_
    obtain ⟨h147, hm⟩ := chkS hm
    refine g_iast K hw 34 0 rfl (by decide) rfl rfl h147 dX8_joinField_87 (eM_43 cy ad x.1 x.2.toNatClampNeg (x.1.1 34 ((6 * x.2) + x2).toNatClampNeg)) (fun H locs hw => ?_)
    obtain ⟨S148, hS148, hm⟩ := nm_ex hm
    rw [← hS148] at hw
    obtain ⟨x149, hx149, hm⟩ := nm_ex hm
    refine lv_iinc (v := x149) (lv' := [(4, .int x149), (0, .ref (ad 0 0)), (2, .int x2), (3, .int x3)]) hx hb dX8_joinField_88 hl (k := 3) rfl (by rw [hx149]; rfl) (by decide) rfl (fun ls hl => ?_)
    refine lv_goto (tgt := 62) hx hb dX8_joinField_91 (by decide) ?_
    obtain rfl := Option.some.inj hm
    exact hg H locs hw ls (lv_sub hl [1, 2, 3, 0] rfl)
set_option maxRecDepth 100000 in
set_option maxHeartbeats 4000000 in
theorem t_X8_joinField_0 (K : Cx p s m args meth c D A (tysC cy) RX8 cX8_joinField 6 (some .boolean) wsX8_joinField (fun _ _ => True)) (n : Nat) (S : MSt) (x1 : Int32)  {out : Int32 × MSt} (hm : m_X8_joinField n S x1 = some out) : ∀ (H : Heap) (locs : List Loc), Wd D A s.heap (GM cy ad S) H locs → ∀ ls : Array Slot, lv_has ls 6 [(0, .ref (ad 0 0)), (1, .int x1)] → W p l e rm_X8_joinField s m args below meth c H locs 0 0 (MQ below (va_Qi (fun r (u : MSt) => out = (r, u)) (fun u => Pst D (tysC cy) A (GM cy ad u)) A) args s 0 0 A) (F0 m 0 ls []) := by
  intro H locs hw ls hl
  obtain ⟨hx, hb, hml, hown, hts, hr, hlo, hK, hA, hX⟩ := id K
  unfold m_X8_joinField at hm
  refine lv_aload_n hx hb dX8_joinField_0 rfl (lv_at hl 0 rfl) ?_
  refine lv_iload_n hx hb dX8_joinField_1 rfl (lv_at hl 1 rfl) ?_
  obtain ⟨z151, hc150, hm⟩ := bindS hm
  refine g_calli (GG := GM cy ad) K hw (va_runV (As := [.int x1]) (rest := []) (g_fix K) (c_X8_findDraft l D cy ad H.size n S x1  hc150) (cwV 1 (g_hts K) gX8_joinField_X8_findDraft rfl rfl rfl (by decide +kernel) ⟨Nat.le_of_ble_eq_true rfl, Nat.le_of_ble_eq_true rfl⟩) ⟨g_blind rides_none, g_recv K hw 0 rfl (by decide : 0 < 1) rfl rfl, g_pre (X2 := fun _ _ => True) K hw (fun _ _ _ => trivial)⟩ rfl rfl hl.1 rfl (lv_room (Nat.le_of_ble_eq_true rfl)) dX8_joinField_2 ⟨Nat.le_of_ble_eq_true rfl, Nat.le_of_ble_eq_true rfl⟩) (fun r u H locs hp hw => ?_)
  obtain ⟨rfl, hu⟩ := hp
  rw [hu] at hw
  refine lv_istore_n (lv' := [(2, .int z151), (0, .ref (ad 0 0)), (1, .int x1)]) hx hb dX8_joinField_5 rfl hl (by decide) rfl (fun ls hl => ?_)
  refine lv_iload_n hx hb dX8_joinField_6 rfl (lv_at hl 0 rfl) ?_
  refine lv_if_lt (tgt := 50) hx hb dX8_joinField_7 (by decide) (fun c152 => ?_) (fun c152 => ?_)
  · replace hm := (if_pos c152).symm.trans hm
    refine lv_iconst (v := 0) hx hb dX8_joinField_50 (by decide) ?_
    exact g_zret (GG := GM cy ad) K hw rfl (Option.some.inj hm).symm dX8_joinField_51
  · replace hm := (if_neg c152).symm.trans hm
    refine lv_aload_n hx hb dX8_joinField_10 rfl (lv_at hl 1 rfl) ?_
    refine g_get (ref := "MigrantHeapModel") (C := RX8) (T := TX8) (N := 44) (ci := 8) K in_X8_joinField_X8 hw 0 rfl (by decide : 0 < 1) rfl rfl 30 (by decide) (List.mem_of_getElem? (i := 1) rfl) rfl rfl dX8_joinField_11 ?_
    refine lv_iload_n hx hb dX8_joinField_14 rfl (lv_at hl 0 rfl) ?_
    obtain ⟨h153, hm⟩ := chkS hm
    refine g_iald K hw 24 0 rfl (by decide) rfl rfl h153 dX8_joinField_15 ?_
    refine lv_iconst (v := 2) hx hb dX8_joinField_16 (by decide) ?_
    refine lv_icmp_ne (tgt := 50) hx hb dX8_joinField_17 (by decide) (fun c154 => ?_) (fun c154 => ?_)
    · replace hm := (if_pos c154).symm.trans hm
      refine lv_iconst (v := 0) hx hb dX8_joinField_50 (by decide) ?_
      exact g_zret (GG := GM cy ad) K hw rfl (Option.some.inj hm).symm dX8_joinField_51
    · replace hm := (if_neg (fun h => h c154)).symm.trans hm
      refine lv_aload_n hx hb dX8_joinField_20 rfl (lv_at hl 1 rfl) ?_
      refine g_get (ref := "MigrantHeapModel") (C := RX8) (T := TX8) (N := 44) (ci := 8) K in_X8_joinField_X8 hw 0 rfl (by decide : 0 < 1) rfl rfl 33 (by decide) (List.mem_of_getElem? (i := 2) rfl) rfl rfl dX8_joinField_21 ?_
      refine lv_iload_n hx hb dX8_joinField_24 rfl (lv_at hl 0 rfl) ?_
      obtain ⟨h155, hm⟩ := chkS hm
      refine g_iald K hw 27 0 rfl (by decide) rfl rfl h155 dX8_joinField_25 ?_
      refine lv_if_lt (tgt := 50) hx hb dX8_joinField_26 (by decide) (fun c156 => ?_) (fun c156 => ?_)
      · replace hm := (if_pos c156).symm.trans hm
        refine lv_iconst (v := 0) hx hb dX8_joinField_50 (by decide) ?_
        exact g_zret (GG := GM cy ad) K hw rfl (Option.some.inj hm).symm dX8_joinField_51
      · replace hm := (if_neg c156).symm.trans hm
        refine lv_aload_n hx hb dX8_joinField_29 rfl (lv_at hl 1 rfl) ?_
        refine lv_aload_n hx hb dX8_joinField_30 rfl (lv_at hl 1 rfl) ?_
        refine g_get (ref := "MigrantHeapModel") (C := RX8) (T := TX8) (N := 44) (ci := 8) K in_X8_joinField_X8 hw 0 rfl (by decide : 0 < 1) rfl rfl 31 (by decide) (List.mem_of_getElem? (i := 3) rfl) rfl rfl dX8_joinField_31 ?_
        refine lv_iload_n hx hb dX8_joinField_34 rfl (lv_at hl 0 rfl) ?_
        obtain ⟨h157, hm⟩ := chkS hm
        refine g_iald K hw 25 0 rfl (by decide) rfl rfl h157 dX8_joinField_35 ?_
        obtain ⟨z159, hc158, hm⟩ := bindS hm
        refine g_calli (GG := GM cy ad) K hw (va_runV (As := [.int (S.1 31 z151.toNatClampNeg)]) (rest := []) (g_fix K) (c_X8_hasNumbersAlone l D cy ad H.size n S (S.1 31 z151.toNatClampNeg)  hc158) (cwV 1 (g_hts K) gX8_joinField_X8_hasNumbersAlone rfl rfl rfl (by decide +kernel) ⟨Nat.le_of_ble_eq_true rfl, Nat.le_of_ble_eq_true rfl⟩) ⟨g_blind rides_none, g_recv K hw 0 rfl (by decide : 0 < 1) rfl rfl, g_pre (X2 := fun _ _ => True) K hw (fun _ _ _ => trivial)⟩ rfl rfl hl.1 rfl (lv_room (Nat.le_of_ble_eq_true rfl)) dX8_joinField_36 ⟨Nat.le_of_ble_eq_true rfl, Nat.le_of_ble_eq_true rfl⟩) (fun r u H locs hp hw => ?_)
        obtain ⟨rfl, hu⟩ := hp
        rw [hu] at hw
        refine lv_if_eq (tgt := 50) hx hb dX8_joinField_39 (by decide) (fun c160 => ?_) (fun c160 => ?_)
        · replace hm := (if_pos c160).symm.trans hm
          refine lv_iconst (v := 0) hx hb dX8_joinField_50 (by decide) ?_
          exact g_zret (GG := GM cy ad) K hw rfl (Option.some.inj hm).symm dX8_joinField_51
        · replace hm := (if_neg c160).symm.trans hm
          refine lv_aload_n hx hb dX8_joinField_42 rfl (lv_at hl 1 rfl) ?_
          refine lv_iload_n hx hb dX8_joinField_43 rfl (lv_at hl 0 rfl) ?_
          obtain ⟨z162, hc161, hm⟩ := bindS hm
          refine g_calli (GG := GM cy ad) K hw (va_runV (As := [.int z151]) (rest := []) (g_fix K) (c_X8_isHeld l D cy ad H.size n S z151  hc161) (cwV 1 (g_hts K) gX8_joinField_X8_isHeld rfl rfl rfl (by decide +kernel) ⟨Nat.le_of_ble_eq_true rfl, Nat.le_of_ble_eq_true rfl⟩) ⟨g_blind rides_none, g_recv K hw 0 rfl (by decide : 0 < 1) rfl rfl, g_pre (X2 := fun _ _ => True) K hw (fun _ _ _ => trivial)⟩ rfl rfl hl.1 rfl (lv_room (Nat.le_of_ble_eq_true rfl)) dX8_joinField_44 ⟨Nat.le_of_ble_eq_true rfl, Nat.le_of_ble_eq_true rfl⟩) (fun r u H locs hp hw => ?_)
          obtain ⟨rfl, hu⟩ := hp
          rw [hu] at hw
          refine lv_if_eq (tgt := 52) hx hb dX8_joinField_47 (by decide) (fun c163 => ?_) (fun c163 => ?_)
          · replace hm := (if_pos c163).symm.trans hm
            refine lv_aload_n hx hb dX8_joinField_52 rfl (lv_at hl 1 rfl) ?_
            refine g_get (ref := "MigrantHeapModel") (C := RX8) (T := TX8) (N := 44) (ci := 8) K in_X8_joinField_X8 hw 0 rfl (by decide : 0 < 1) rfl rfl 31 (by decide) (List.mem_of_getElem? (i := 3) rfl) rfl rfl dX8_joinField_53 ?_
            refine lv_iload_n hx hb dX8_joinField_56 rfl (lv_at hl 0 rfl) ?_
            obtain ⟨h164, hm⟩ := chkS hm
            refine g_iald K hw 25 0 rfl (by decide) rfl rfl h164 dX8_joinField_57 ?_
            obtain ⟨x165, hx165, hm⟩ := nm_ex hm
            refine W.eq (g2 := F0 m 58 ls (.int x165 :: [])) (by rw [hx165]) ?_
            refine lv_istore_n (lv' := [(3, .int x165), (2, .int z151), (0, .ref (ad 0 0)), (1, .int x1)]) hx hb dX8_joinField_58 rfl hl (by decide) rfl (fun ls hl => ?_)
            refine lv_iconst (v := 0) hx hb dX8_joinField_59 (by decide) ?_
            refine lv_istore (lv' := [(4, .int 0), (3, .int x165), (2, .int z151), (0, .ref (ad 0 0)), (1, .int x1)]) hx hb dX8_joinField_60 hl (by decide) rfl (fun ls hl => ?_)
            obtain ⟨z166, hz167, hm⟩ := bindS hm
            refine t_X8_joinField_L62 K n z151 x165 z166 (fun w168 hww168 => ?_) ((S, 0)) hz167 H locs hw ls (lv_sub hl [3, 2, 1, 0] rfl)
            · intro H locs hw ls hl 
              try rw [hww168] at hm
              refine lv_aload_n hx hb dX8_joinField_94 rfl (lv_at hl 0 rfl) ?_
              refine lv_iload_n hx hb dX8_joinField_95 rfl (lv_at hl 1 rfl) ?_
              obtain ⟨z170, hc169, hm⟩ := bindS hm
              refine g_callv (GG := GM cy ad) K hw (va_runV (As := [.int z151]) (rest := []) (g_fix K) (c_X8_takeField l D cy ad H.size n w168 z151  hc169) (cwV 1 (g_hts K) gX8_joinField_X8_takeField rfl rfl rfl (by decide +kernel) ⟨Nat.le_of_ble_eq_true rfl, Nat.le_of_ble_eq_true rfl⟩) ⟨g_blind rides_none, g_recv K hw 0 rfl (by decide : 0 < 1) rfl rfl, g_pre (X2 := fun _ _ => True) K hw (fun _ _ _ => trivial)⟩ rfl rfl hl.1 rfl (lv_room (Nat.le_of_ble_eq_true rfl)) dX8_joinField_96 ⟨Nat.le_of_ble_eq_true rfl, Nat.le_of_ble_eq_true rfl⟩) (fun u H locs hp hw => ?_)
              obtain rfl := hp
              refine lv_iconst (v := 0) hx hb dX8_joinField_99 (by decide) ?_
              refine lv_istore (lv' := [(4, .int 0), (0, .ref (ad 0 0)), (2, .int z151), (3, .int x165)]) hx hb dX8_joinField_100 hl (by decide) rfl (fun ls hl => ?_)
              obtain ⟨z171, hz172, hm⟩ := bindS hm
              refine t_X8_joinField_L102 K n x165 z171 (fun w173 hww173 => ?_) (fun w174 hww174 => ?_) ((z170, 0)) hz172 H locs hw ls (lv_sub hl [1, 3, 0] rfl)
              · intro H locs hw ls hl 
                subst hww173
                replace hm := (sumL _ _ _).symm.trans hm
                refine lv_iconst (v := 0) hx hb dX8_joinField_157 (by decide) ?_
                exact g_zret (GG := GM cy ad) K hw rfl (Option.some.inj hm).symm dX8_joinField_158
              · intro H locs hw ls hl 
                subst hww174
                replace hm := (sumR _ _ _).symm.trans hm
                refine lv_iconst (v := 0) hx hb dX8_joinField_230 (by decide) ?_
                refine lv_istore (lv' := [(4, .int 0), (0, .ref (ad 0 0)), (3, .int x165)]) hx hb dX8_joinField_231 hl (by decide) rfl (fun ls hl => ?_)
                obtain ⟨z175, hz176, hm⟩ := bindS hm
                refine t_X8_joinField_L233 K n x165 z175 (fun w177 hww177 => ?_) ((w174, 0)) hz176 H locs hw ls (lv_sub hl [1, 2, 0] rfl)
                · intro H locs hw ls hl 
                  try rw [hww177] at hm
                  refine lv_aload_n hx hb dX8_joinField_273 rfl (lv_at hl 0 rfl) ?_
                  refine lv_iconst (v := 1) hx hb dX8_joinField_274 (by decide) ?_
                  refine g_put (v := .int 1) (ty := .boolean) (ref := "MigrantHeapModel") (C := RX8) (T := TX8) (N := 44) (ci := 8) K in_X8_joinField_X8 tyX8 tyX8_ok nmX8 hw 0 rfl (by decide : 0 < 1) rfl rfl 35 (by decide) (List.mem_of_getElem? (i := 14) rfl) rfl rfl (by decide +kernel) rfl rfl (Nat.le_of_ble_eq_true rfl) dX8_joinField_275 (eM_35 cy ad w177 1) (fun H locs hw => ?_)
                  obtain ⟨S178, hS178, hm⟩ := nm_ex hm
                  rw [← hS178] at hw
                  refine lv_aload_n hx hb dX8_joinField_278 rfl (lv_at hl 0 rfl) ?_
                  refine lv_dup hx hb dX8_joinField_279 rfl ?_
                  refine g_get (ref := "MigrantHeapModel") (C := RX8) (T := TX8) (N := 44) (ci := 8) K in_X8_joinField_X8 hw 0 rfl (by decide : 0 < 1) rfl rfl 36 (by decide) (List.mem_of_getElem? (i := 15) rfl) rfl rfl dX8_joinField_280 ?_
                  refine lv_iconst (v := 1) hx hb dX8_joinField_283 (by decide) ?_
                  refine lv_iload_n hx hb dX8_joinField_284 rfl (lv_at hl 1 rfl) ?_
                  refine lv_ishl hx hb dX8_joinField_285 ?_
                  refine lv_ior hx hb dX8_joinField_286 ?_
                  refine g_put (v := .int ((S178.1 36 0) ||| (1 <<< (x165 &&& 31)))) (ty := .int) (ref := "MigrantHeapModel") (C := RX8) (T := TX8) (N := 44) (ci := 8) K in_X8_joinField_X8 tyX8 tyX8_ok nmX8 hw 0 rfl (by decide : 0 < 1) rfl rfl 36 (by decide) (List.mem_of_getElem? (i := 15) rfl) rfl rfl (by decide +kernel) rfl rfl (Nat.le_of_ble_eq_true rfl) dX8_joinField_287 (eM_36 cy ad S178 ((S178.1 36 0) ||| (1 <<< (x165 &&& 31)))) (fun H locs hw => ?_)
                  obtain ⟨S179, hS179, hm⟩ := nm_ex hm
                  rw [← hS179] at hw
                  refine lv_iconst (v := 1) hx hb dX8_joinField_290 (by decide) ?_
                  exact g_zret (GG := GM cy ad) K hw rfl (Option.some.inj hm).symm dX8_joinField_291
          · replace hm := (if_neg c163).symm.trans hm
            refine lv_iconst (v := 0) hx hb dX8_joinField_50 (by decide) ?_
            exact g_zret (GG := GM cy ad) K hw rfl (Option.some.inj hm).symm dX8_joinField_51
set_option maxRecDepth 100000 in
set_option maxHeartbeats 4000000 in
theorem c_X8_joinField (l : Launch) (D : va_G) (cy : Nat → ClassId) (ad : Nat → Nat → Nat) (sz n : Nat) (S : MSt) (x1 : Int32)  {out : Int32 × MSt} (hm : m_X8_joinField n S x1 = some out) : Met l yX8_joinField wsX8_joinField rm_X8_joinField (va_Pc [.ref (ad 0 0), .int x1] (Pre D (tysC cy) (GM cy ad S) (fun _ _ => True) sz)) (va_Qi (fun r (u : MSt) => out = (r, u)) (fun u => Pst D (tysC cy) (AA (adrs (GM cy ad S)) sz) (GM cy ad u)) (AA (adrs (GM cy ad S)) sz)) 0 0 (AA (adrs (GM cy ad S)) sz) := by
  refine g_met (by decide) rfl (Nat.le_of_ble_eq_true rfl) ?_
  intro p e s m args below meth c K hw ls hl
  exact t_X8_joinField_0 (cy := cy) K n S x1  hm _ _ hw ls hl
end W_X8_joinField
