section W_X8_settle
variable {p : Program} {l : Launch} {e : Env} {s : State} {m : MethodId} {args : Array Value} {below : List Frame} {meth : Method} {c : Code} {D : va_G} {A : Nat → Prop} {cy : Nat → ClassId} {ad : Nat → Nat → Nat} {Q : State → Prop}
abbrev rm_X8_settle : Room := { frames := 0, cells := 0, slots := 0, locals := 0 }
theorem in_X8_settle_X8 : ∀ w ∈ u_ws RX8 TX8 44, w ∈ wsX8_settle := by decide +kernel
set_option maxRecDepth 100000 in
set_option maxHeartbeats 4000000 in
theorem t_X8_settle_J344 (K : Cx p s m args meth c D A (tysC cy) RX8 cX8_settle 4 none wsX8_settle (fun _ _ => True)) (n : Nat) (S : MSt) (x2 : Int32) (y1 : Int32) (y2 : Int32) {out : (MSt × Int32) ⊕ MSt} {z : MSt} (hm : m_X8_settle_J344 n S x2 y1 y2 = some out) (hg : Gd (fun (x : (MSt × Int32)) => ∀ (H : Heap) (locs : List Loc), Wd D A s.heap (GM cy ad x.1) H locs → ∀ ls : Array Slot, lv_has ls 4 [(0, .ref (ad 0 0)), (2, .int x.2)] → W p l e rm_X8_settle s m args below meth c H locs 0 0 Q (F0 m 306 ls [])) z out) (hE0 : ∀ w : MSt, z = w → ∀ (H : Heap) (locs : List Loc), Wd D A s.heap (GM cy ad w) H locs → ∀ ls : Array Slot, lv_has ls 4 [] → W p l e rm_X8_settle s m args below meth c H locs 0 0 Q (F0 m 351 ls [])) : ∀ (H : Heap) (locs : List Loc), Wd D A s.heap (GM cy ad S) H locs → ∀ ls : Array Slot, lv_has ls 4 [(0, .ref (ad 0 0)), (2, .int x2)] → W p l e rm_X8_settle s m args below meth c H locs 0 0 Q (F0 m 344 ls [.int y2, .int y1, .ref (ad 2 0)]) := by
  intro H locs hw ls hl 
  obtain ⟨hx, hb, hml, hown, hts, hr, hlo, hK, hA, hX⟩ := id K
  unfold m_X8_settle_J344 at hm
  obtain ⟨h148, hm⟩ := chkS hm
  obtain ⟨h150, hm⟩ := chkS hm
  refine g_zast K hw 2 2 rfl (by decide) rfl rfl h148 h150 dX8_settle_344 (eM_3 cy ad S y1.toNatClampNeg y2) (fun H locs hw => ?_)
  obtain ⟨S149, hS149, hm⟩ := nm_ex hm
  rw [← hS149] at hw
  obtain ⟨x151, hx151, hm⟩ := nm_ex hm
  refine lv_iinc (v := x151) (lv' := [(2, .int x151), (0, .ref (ad 0 0))]) hx hb dX8_settle_345 hl (k := 1) rfl (by rw [hx151]; rfl) (by decide) rfl (fun ls hl => ?_)
  refine lv_goto (tgt := 306) hx hb dX8_settle_348 (by decide) ?_
  obtain rfl := Option.some.inj hm
  exact hg H locs hw ls (lv_sub hl [1, 0] rfl)
set_option maxRecDepth 100000 in
set_option maxHeartbeats 4000000 in
theorem t_X8_settle_J343 (K : Cx p s m args meth c D A (tysC cy) RX8 cX8_settle 4 none wsX8_settle (fun _ _ => True)) (n : Nat) (S : MSt) (x2 : Int32) (y1 : Int32) {out : (MSt × Int32) ⊕ MSt} {z : MSt} (hm : m_X8_settle_J343 n S x2 y1 = some out) (hg : Gd (fun (x : (MSt × Int32)) => ∀ (H : Heap) (locs : List Loc), Wd D A s.heap (GM cy ad x.1) H locs → ∀ ls : Array Slot, lv_has ls 4 [(0, .ref (ad 0 0)), (2, .int x.2)] → W p l e rm_X8_settle s m args below meth c H locs 0 0 Q (F0 m 306 ls [])) z out) (hE0 : ∀ w : MSt, z = w → ∀ (H : Heap) (locs : List Loc), Wd D A s.heap (GM cy ad w) H locs → ∀ ls : Array Slot, lv_has ls 4 [] → W p l e rm_X8_settle s m args below meth c H locs 0 0 Q (F0 m 351 ls [])) : ∀ (H : Heap) (locs : List Loc), Wd D A s.heap (GM cy ad S) H locs → ∀ ls : Array Slot, lv_has ls 4 [(0, .ref (ad 0 0)), (2, .int x2)] → W p l e rm_X8_settle s m args below meth c H locs 0 0 Q (F0 m 343 ls [.int y1, .ref (ad 2 0)]) := by
  intro H locs hw ls hl 
  obtain ⟨hx, hb, hml, hown, hts, hr, hlo, hK, hA, hX⟩ := id K
  unfold m_X8_settle_J343 at hm
  refine lv_iconst (v := 0) hx hb dX8_settle_343 (by decide) ?_
  exact t_X8_settle_J344 K n S x2 y1 0 hm hg hE0 H locs hw ls (lv_sub hl [0, 1] rfl)
set_option maxRecDepth 100000 in
set_option maxHeartbeats 4000000 in
theorem t_X8_settle_L306 (K : Cx p s m args meth c D A (tysC cy) RX8 cX8_settle 4 none wsX8_settle (fun _ _ => True)) (n : Nat)   (z : MSt) (hE0 : ∀ w : MSt, z = w → ∀ (H : Heap) (locs : List Loc), Wd D A s.heap (GM cy ad w) H locs → ∀ ls : Array Slot, lv_has ls 4 [] → W p l e rm_X8_settle s m args below meth c H locs 0 0 Q (F0 m 351 ls [])) : ∀ (x : (MSt × Int32)), lpO (b_X8_settle_306 n ) n x = some z → (fun (x : (MSt × Int32)) => ∀ (H : Heap) (locs : List Loc), Wd D A s.heap (GM cy ad x.1) H locs → ∀ ls : Array Slot, lv_has ls 4 [(0, .ref (ad 0 0)), (2, .int x.2)] → W p l e rm_X8_settle s m args below meth c H locs 0 0 Q (F0 m 306 ls [])) x := by
  intro x hx0
  refine lpO_ind2 (P := fun (x : (MSt × Int32)) => ∀ (H : Heap) (locs : List Loc), Wd D A s.heap (GM cy ad x.1) H locs → ∀ ls : Array Slot, lv_has ls 4 [(0, .ref (ad 0 0)), (2, .int x.2)] → W p l e rm_X8_settle s m args below meth c H locs 0 0 Q (F0 m 306 ls [])) (z := z) ?_ n x hx0
  clear hx0 x
  intro x out hm hg H locs hw ls hl 
  obtain ⟨hx, hb, hml, hown, hts, hr, hlo, hK, hA, hX⟩ := id K
  unfold b_X8_settle_306 at hm
  refine lv_iload_n hx hb dX8_settle_306 rfl (lv_at hl 1 rfl) ?_
  refine lv_aload_n hx hb dX8_settle_307 rfl (lv_at hl 0 rfl) ?_
  refine g_get (ref := "MigrantHeapModel") (C := RX8) (T := TX8) (N := 44) (ci := 8) K in_X8_settle_X8 hw 0 rfl (by decide : 0 < 1) rfl rfl 1 (by decide) (List.mem_of_getElem? (i := 23) rfl) rfl rfl dX8_settle_308 ?_
  refine lv_icmp_ge (tgt := 351) hx hb dX8_settle_311 (by decide) (fun c152 => ?_) (fun c152 => ?_)
  · replace hm := (if_pos c152).symm.trans hm
    obtain rfl := Option.some.inj hm
    exact hE0 _ hg.symm H locs hw ls (lv_sub hl [] rfl)
  · replace hm := (if_neg c152).symm.trans hm
    refine lv_aload_n hx hb dX8_settle_314 rfl (lv_at hl 0 rfl) ?_
    refine g_get (ref := "MigrantHeapModel") (C := RX8) (T := TX8) (N := 44) (ci := 8) K in_X8_settle_X8 hw 0 rfl (by decide : 0 < 1) rfl rfl 3 (by decide) (List.mem_of_getElem? (i := 21) rfl) rfl rfl dX8_settle_315 ?_
    refine lv_iload_n hx hb dX8_settle_318 rfl (lv_at hl 1 rfl) ?_
    refine lv_aload_n hx hb dX8_settle_319 rfl (lv_at hl 0 rfl) ?_
    refine g_get (ref := "MigrantHeapModel") (C := RX8) (T := TX8) (N := 44) (ci := 8) K in_X8_settle_X8 hw 0 rfl (by decide : 0 < 1) rfl rfl 3 (by decide) (List.mem_of_getElem? (i := 21) rfl) rfl rfl dX8_settle_320 ?_
    refine lv_iload_n hx hb dX8_settle_323 rfl (lv_at hl 1 rfl) ?_
    obtain ⟨h153, hm⟩ := chkS hm
    refine g_zald K hw 2 2 rfl (by decide) rfl rfl h153 dX8_settle_324 ?_
    refine lv_if_eq (tgt := 343) hx hb dX8_settle_325 (by decide) (fun c154 => ?_) (fun c154 => ?_)
    · replace hm := (if_pos c154).symm.trans hm
      exact t_X8_settle_J343 K n x.1 x.2 x.2 hm hg hE0 H locs hw ls (lv_sub hl [0, 1] rfl)
    · replace hm := (if_neg c154).symm.trans hm
      refine lv_aload_n hx hb dX8_settle_328 rfl (lv_at hl 0 rfl) ?_
      refine g_get (ref := "MigrantHeapModel") (C := RX8) (T := TX8) (N := 44) (ci := 8) K in_X8_settle_X8 hw 0 rfl (by decide : 0 < 1) rfl rfl 36 (by decide) (List.mem_of_getElem? (i := 24) rfl) rfl rfl dX8_settle_329 ?_
      refine lv_iload_n hx hb dX8_settle_332 rfl (lv_at hl 1 rfl) ?_
      refine lv_ishr hx hb dX8_settle_333 ?_
      refine lv_iconst (v := 1) hx hb dX8_settle_334 (by decide) ?_
      refine lv_iand hx hb dX8_settle_335 ?_
      refine lv_if_ne (tgt := 343) hx hb dX8_settle_336 (by decide) (fun c155 => ?_) (fun c155 => ?_)
      · replace hm := (if_pos c155).symm.trans hm
        exact t_X8_settle_J343 K n x.1 x.2 x.2 hm hg hE0 H locs hw ls (lv_sub hl [0, 1] rfl)
      · replace hm := (if_neg (fun h => h c155)).symm.trans hm
        refine lv_iconst (v := 1) hx hb dX8_settle_339 (by decide) ?_
        refine lv_goto (tgt := 344) hx hb dX8_settle_340 (by decide) ?_
        exact t_X8_settle_J344 K n x.1 x.2 x.2 1 hm hg hE0 H locs hw ls (lv_sub hl [0, 1] rfl)
set_option maxRecDepth 100000 in
set_option maxHeartbeats 4000000 in
theorem t_X8_settle_J303 (K : Cx p s m args meth c D A (tysC cy) RX8 cX8_settle 4 none wsX8_settle (fun _ _ => True)) (n : Nat) (S : MSt) (y1 : Int32) (y2 : Int32) {out : MSt} (hm : m_X8_settle_J303 n S y1 y2 = some out) : ∀ (H : Heap) (locs : List Loc), Wd D A s.heap (GM cy ad S) H locs → ∀ ls : Array Slot, lv_has ls 4 [(0, .ref (ad 0 0))] → W p l e rm_X8_settle s m args below meth c H locs 0 0 (MQ below (va_Qv (fun (u : MSt) => out = u) (fun u => Pst D (tysC cy) A (GM cy ad u)) A) args s 0 0 A) (F0 m 303 ls [.int y2, .int y1, .ref (ad 2 0)]) := by
  intro H locs hw ls hl 
  obtain ⟨hx, hb, hml, hown, hts, hr, hlo, hK, hA, hX⟩ := id K
  unfold m_X8_settle_J303 at hm
  obtain ⟨h156, hm⟩ := chkS hm
  obtain ⟨h158, hm⟩ := chkS hm
  refine g_zast K hw 2 2 rfl (by decide) rfl rfl h156 h158 dX8_settle_303 (eM_3 cy ad S y1.toNatClampNeg y2) (fun H locs hw => ?_)
  obtain ⟨S157, hS157, hm⟩ := nm_ex hm
  rw [← hS157] at hw
  refine lv_iconst (v := 0) hx hb dX8_settle_304 (by decide) ?_
  refine lv_istore_n (lv' := [(2, .int 0), (0, .ref (ad 0 0))]) hx hb dX8_settle_305 rfl hl (by decide) rfl (fun ls hl => ?_)
  obtain ⟨z159, hz160, hm⟩ := bindS hm
  refine t_X8_settle_L306 K n  z159 (fun w161 hww161 => ?_) ((S157, 0)) hz160 H locs hw ls (lv_sub hl [1, 0] rfl)
  · intro H locs hw ls hl 
    try rw [hww161] at hm
    exact g_vret (GG := GM cy ad) K hw (Option.some.inj hm).symm dX8_settle_351
set_option maxRecDepth 100000 in
set_option maxHeartbeats 4000000 in
theorem t_X8_settle_J269 (K : Cx p s m args meth c D A (tysC cy) RX8 cX8_settle 4 none wsX8_settle (fun _ _ => True)) (n : Nat) (S : MSt) (x1 : Int32) (x2 : Int32) (y1 : Int32) (y2 : Int32) {out : (MSt × Int32) ⊕ MSt} {z : MSt} (hm : m_X8_settle_J269 n S x1 x2 y1 y2 = some out) (hg : Gd (fun (x : (MSt × Int32)) => ∀ (H : Heap) (locs : List Loc), Wd D A s.heap (GM cy ad x.1) H locs → ∀ ls : Array Slot, lv_has ls 4 [(0, .ref (ad 0 0)), (1, .int x1), (2, .int x.2)] → W p l e rm_X8_settle s m args below meth c H locs 0 0 Q (F0 m 194 ls [])) z out) (hE0 : ∀ w : MSt, z = w → ∀ (H : Heap) (locs : List Loc), Wd D A s.heap (GM cy ad w) H locs → ∀ ls : Array Slot, lv_has ls 4 [(0, .ref (ad 0 0)), (1, .int x1)] → W p l e rm_X8_settle s m args below meth c H locs 0 0 Q (F0 m 276 ls [])) : ∀ (H : Heap) (locs : List Loc), Wd D A s.heap (GM cy ad S) H locs → ∀ ls : Array Slot, lv_has ls 4 [(0, .ref (ad 0 0)), (1, .int x1), (2, .int x2)] → W p l e rm_X8_settle s m args below meth c H locs 0 0 Q (F0 m 269 ls [.int y2, .int y1, .ref (ad 15 0)]) := by
  intro H locs hw ls hl 
  obtain ⟨hx, hb, hml, hown, hts, hr, hlo, hK, hA, hX⟩ := id K
  unfold m_X8_settle_J269 at hm
  obtain ⟨h162, hm⟩ := chkS hm
  refine g_iast K hw 15 0 rfl (by decide) rfl rfl h162 dX8_settle_269 (eM_16 cy ad S y1.toNatClampNeg y2) (fun H locs hw => ?_)
  obtain ⟨S163, hS163, hm⟩ := nm_ex hm
  rw [← hS163] at hw
  obtain ⟨x164, hx164, hm⟩ := nm_ex hm
  refine lv_iinc (v := x164) (lv' := [(2, .int x164), (0, .ref (ad 0 0)), (1, .int x1)]) hx hb dX8_settle_270 hl (k := 2) rfl (by rw [hx164]; rfl) (by decide) rfl (fun ls hl => ?_)
  refine lv_goto (tgt := 194) hx hb dX8_settle_273 (by decide) ?_
  obtain rfl := Option.some.inj hm
  exact hg H locs hw ls (lv_sub hl [1, 2, 0] rfl)
set_option maxRecDepth 100000 in
set_option maxHeartbeats 4000000 in
theorem t_X8_settle_J244 (K : Cx p s m args meth c D A (tysC cy) RX8 cX8_settle 4 none wsX8_settle (fun _ _ => True)) (n : Nat) (S : MSt) (x1 : Int32) (x2 : Int32) (x3 : Int32) (y1 : Int32) (y2 : Int32) {out : (MSt × Int32) ⊕ MSt} {z : MSt} (hm : m_X8_settle_J244 n S x1 x2 x3 y1 y2 = some out) (hg : Gd (fun (x : (MSt × Int32)) => ∀ (H : Heap) (locs : List Loc), Wd D A s.heap (GM cy ad x.1) H locs → ∀ ls : Array Slot, lv_has ls 4 [(0, .ref (ad 0 0)), (1, .int x1), (2, .int x.2)] → W p l e rm_X8_settle s m args below meth c H locs 0 0 Q (F0 m 194 ls [])) z out) (hE0 : ∀ w : MSt, z = w → ∀ (H : Heap) (locs : List Loc), Wd D A s.heap (GM cy ad w) H locs → ∀ ls : Array Slot, lv_has ls 4 [(0, .ref (ad 0 0)), (1, .int x1)] → W p l e rm_X8_settle s m args below meth c H locs 0 0 Q (F0 m 276 ls [])) : ∀ (H : Heap) (locs : List Loc), Wd D A s.heap (GM cy ad S) H locs → ∀ ls : Array Slot, lv_has ls 4 [(0, .ref (ad 0 0)), (1, .int x1), (2, .int x2), (3, .int x3)] → W p l e rm_X8_settle s m args below meth c H locs 0 0 Q (F0 m 244 ls [.int y2, .int y1, .ref (ad 16 0)]) := by
  intro H locs hw ls hl 
  obtain ⟨hx, hb, hml, hown, hts, hr, hlo, hK, hA, hX⟩ := id K
  unfold m_X8_settle_J244 at hm
  obtain ⟨h165, hm⟩ := chkS hm
  refine g_iast K hw 16 0 rfl (by decide) rfl rfl h165 dX8_settle_244 (eM_17 cy ad S y1.toNatClampNeg y2) (fun H locs hw => ?_)
  obtain ⟨S166, hS166, hm⟩ := nm_ex hm
  rw [← hS166] at hw
  refine lv_aload_n hx hb dX8_settle_245 rfl (lv_at hl 0 rfl) ?_
  refine g_get (ref := "MigrantHeapModel") (C := RX8) (T := TX8) (N := 44) (ci := 8) K in_X8_settle_X8 hw 0 rfl (by decide : 0 < 1) rfl rfl 16 (by decide) (List.mem_of_getElem? (i := 18) rfl) rfl rfl dX8_settle_246 ?_
  refine lv_iload_n hx hb dX8_settle_249 rfl (lv_at hl 2 rfl) ?_
  refine lv_iload_n hx hb dX8_settle_250 rfl (lv_at hl 3 rfl) ?_
  refine lv_if_eq (tgt := 263) hx hb dX8_settle_251 (by decide) (fun c167 => ?_) (fun c167 => ?_)
  · replace hm := (if_pos c167).symm.trans hm
    refine lv_aload_n hx hb dX8_settle_263 rfl (lv_at hl 0 rfl) ?_
    refine g_get (ref := "MigrantHeapModel") (C := RX8) (T := TX8) (N := 44) (ci := 8) K in_X8_settle_X8 hw 0 rfl (by decide : 0 < 1) rfl rfl 16 (by decide) (List.mem_of_getElem? (i := 18) rfl) rfl rfl dX8_settle_264 ?_
    refine lv_iload_n hx hb dX8_settle_267 rfl (lv_at hl 2 rfl) ?_
    obtain ⟨h168, hm⟩ := chkS hm
    refine g_iald K hw 15 0 rfl (by decide) rfl rfl h168 dX8_settle_268 ?_
    exact t_X8_settle_J269 K n S166 x1 x2 x2 (S166.1 16 x2.toNatClampNeg) hm hg hE0 H locs hw ls (lv_sub hl [0, 1, 2] rfl)
  · replace hm := (if_neg c167).symm.trans hm
    refine lv_aload_n hx hb dX8_settle_254 rfl (lv_at hl 0 rfl) ?_
    refine g_get (ref := "MigrantHeapModel") (C := RX8) (T := TX8) (N := 44) (ci := 8) K in_X8_settle_X8 hw 0 rfl (by decide : 0 < 1) rfl rfl 34 (by decide) (List.mem_of_getElem? (i := 19) rfl) rfl rfl dX8_settle_255 ?_
    refine lv_iload_n hx hb dX8_settle_258 rfl (lv_at hl 2 rfl) ?_
    obtain ⟨h169, hm⟩ := chkS hm
    refine g_iald K hw 28 0 rfl (by decide) rfl rfl h169 dX8_settle_259 ?_
    refine lv_goto (tgt := 269) hx hb dX8_settle_260 (by decide) ?_
    exact t_X8_settle_J269 K n S166 x1 x2 x2 (S166.1 34 x2.toNatClampNeg) hm hg hE0 H locs hw ls (lv_sub hl [0, 1, 2] rfl)
set_option maxRecDepth 100000 in
set_option maxHeartbeats 4000000 in
theorem t_X8_settle_J219 (K : Cx p s m args meth c D A (tysC cy) RX8 cX8_settle 4 none wsX8_settle (fun _ _ => True)) (n : Nat) (S : MSt) (x1 : Int32) (x2 : Int32) (y0 : Int32) {out : (MSt × Int32) ⊕ MSt} {z : MSt} (hm : m_X8_settle_J219 n S x1 x2 y0 = some out) (hg : Gd (fun (x : (MSt × Int32)) => ∀ (H : Heap) (locs : List Loc), Wd D A s.heap (GM cy ad x.1) H locs → ∀ ls : Array Slot, lv_has ls 4 [(0, .ref (ad 0 0)), (1, .int x1), (2, .int x.2)] → W p l e rm_X8_settle s m args below meth c H locs 0 0 Q (F0 m 194 ls [])) z out) (hE0 : ∀ w : MSt, z = w → ∀ (H : Heap) (locs : List Loc), Wd D A s.heap (GM cy ad w) H locs → ∀ ls : Array Slot, lv_has ls 4 [(0, .ref (ad 0 0)), (1, .int x1)] → W p l e rm_X8_settle s m args below meth c H locs 0 0 Q (F0 m 276 ls [])) : ∀ (H : Heap) (locs : List Loc), Wd D A s.heap (GM cy ad S) H locs → ∀ ls : Array Slot, lv_has ls 4 [(0, .ref (ad 0 0)), (1, .int x1), (2, .int x2)] → W p l e rm_X8_settle s m args below meth c H locs 0 0 Q (F0 m 219 ls [.int y0]) := by
  intro H locs hw ls hl 
  obtain ⟨hx, hb, hml, hown, hts, hr, hlo, hK, hA, hX⟩ := id K
  unfold m_X8_settle_J219 at hm
  refine lv_istore_n (lv' := [(3, .int y0), (0, .ref (ad 0 0)), (1, .int x1), (2, .int x2)]) hx hb dX8_settle_219 rfl hl (by decide) rfl (fun ls hl => ?_)
  refine lv_aload_n hx hb dX8_settle_220 rfl (lv_at hl 1 rfl) ?_
  refine g_get (ref := "MigrantHeapModel") (C := RX8) (T := TX8) (N := 44) (ci := 8) K in_X8_settle_X8 hw 0 rfl (by decide : 0 < 1) rfl rfl 17 (by decide) (List.mem_of_getElem? (i := 17) rfl) rfl rfl dX8_settle_221 ?_
  refine lv_iload_n hx hb dX8_settle_224 rfl (lv_at hl 3 rfl) ?_
  refine lv_iload_n hx hb dX8_settle_225 rfl (lv_at hl 0 rfl) ?_
  refine lv_if_eq (tgt := 238) hx hb dX8_settle_226 (by decide) (fun c170 => ?_) (fun c170 => ?_)
  · replace hm := (if_pos c170).symm.trans hm
    refine lv_aload_n hx hb dX8_settle_238 rfl (lv_at hl 1 rfl) ?_
    refine g_get (ref := "MigrantHeapModel") (C := RX8) (T := TX8) (N := 44) (ci := 8) K in_X8_settle_X8 hw 0 rfl (by decide : 0 < 1) rfl rfl 17 (by decide) (List.mem_of_getElem? (i := 17) rfl) rfl rfl dX8_settle_239 ?_
    refine lv_iload_n hx hb dX8_settle_242 rfl (lv_at hl 3 rfl) ?_
    obtain ⟨h171, hm⟩ := chkS hm
    refine g_iald K hw 16 0 rfl (by decide) rfl rfl h171 dX8_settle_243 ?_
    exact t_X8_settle_J244 K n S x1 x2 y0 x2 (S.1 17 x2.toNatClampNeg) hm hg hE0 H locs hw ls (lv_sub hl [1, 2, 3, 0] rfl)
  · replace hm := (if_neg c170).symm.trans hm
    refine lv_aload_n hx hb dX8_settle_229 rfl (lv_at hl 1 rfl) ?_
    refine g_get (ref := "MigrantHeapModel") (C := RX8) (T := TX8) (N := 44) (ci := 8) K in_X8_settle_X8 hw 0 rfl (by decide : 0 < 1) rfl rfl 16 (by decide) (List.mem_of_getElem? (i := 18) rfl) rfl rfl dX8_settle_230 ?_
    refine lv_iload_n hx hb dX8_settle_233 rfl (lv_at hl 3 rfl) ?_
    obtain ⟨h172, hm⟩ := chkS hm
    refine g_iald K hw 15 0 rfl (by decide) rfl rfl h172 dX8_settle_234 ?_
    refine lv_goto (tgt := 244) hx hb dX8_settle_235 (by decide) ?_
    exact t_X8_settle_J244 K n S x1 x2 y0 x2 (S.1 16 x2.toNatClampNeg) hm hg hE0 H locs hw ls (lv_sub hl [1, 2, 3, 0] rfl)
set_option maxRecDepth 100000 in
set_option maxHeartbeats 4000000 in
theorem t_X8_settle_L194 (K : Cx p s m args meth c D A (tysC cy) RX8 cX8_settle 4 none wsX8_settle (fun _ _ => True)) (n : Nat) (x1 : Int32)  (z : MSt) (hE0 : ∀ w : MSt, z = w → ∀ (H : Heap) (locs : List Loc), Wd D A s.heap (GM cy ad w) H locs → ∀ ls : Array Slot, lv_has ls 4 [(0, .ref (ad 0 0)), (1, .int x1)] → W p l e rm_X8_settle s m args below meth c H locs 0 0 Q (F0 m 276 ls [])) : ∀ (x : (MSt × Int32)), lpO (b_X8_settle_194 n x1) n x = some z → (fun (x : (MSt × Int32)) => ∀ (H : Heap) (locs : List Loc), Wd D A s.heap (GM cy ad x.1) H locs → ∀ ls : Array Slot, lv_has ls 4 [(0, .ref (ad 0 0)), (1, .int x1), (2, .int x.2)] → W p l e rm_X8_settle s m args below meth c H locs 0 0 Q (F0 m 194 ls [])) x := by
  intro x hx0
  refine lpO_ind2 (P := fun (x : (MSt × Int32)) => ∀ (H : Heap) (locs : List Loc), Wd D A s.heap (GM cy ad x.1) H locs → ∀ ls : Array Slot, lv_has ls 4 [(0, .ref (ad 0 0)), (1, .int x1), (2, .int x.2)] → W p l e rm_X8_settle s m args below meth c H locs 0 0 Q (F0 m 194 ls [])) (z := z) ?_ n x hx0
  clear hx0 x
  intro x out hm hg H locs hw ls hl 
  obtain ⟨hx, hb, hml, hown, hts, hr, hlo, hK, hA, hX⟩ := id K
  unfold b_X8_settle_194 at hm
  refine lv_iload_n hx hb dX8_settle_194 rfl (lv_at hl 2 rfl) ?_
  refine lv_sipush (v := 144) hx hb dX8_settle_195 (by decide) ?_
  refine lv_icmp_ge (tgt := 276) hx hb dX8_settle_198 (by decide) (fun c173 => ?_) (fun c173 => ?_)
  · replace hm := (if_pos c173).symm.trans hm
    obtain rfl := Option.some.inj hm
    exact hE0 _ hg.symm H locs hw ls (lv_sub hl [0, 1] rfl)
  · replace hm := (if_neg c173).symm.trans hm
    refine lv_aload_n hx hb dX8_settle_201 rfl (lv_at hl 0 rfl) ?_
    refine g_get (ref := "MigrantHeapModel") (C := RX8) (T := TX8) (N := 44) (ci := 8) K in_X8_settle_X8 hw 0 rfl (by decide : 0 < 1) rfl rfl 14 (by decide) (List.mem_of_getElem? (i := 16) rfl) rfl rfl dX8_settle_202 ?_
    refine lv_iload_n hx hb dX8_settle_205 rfl (lv_at hl 2 rfl) ?_
    refine lv_bipush (v := 6) hx hb dX8_settle_206 (by decide) ?_
    refine lv_idiv hx hb dX8_settle_208 (by decide) ?_
    obtain ⟨h174, hm⟩ := chkS hm
    refine g_iald K hw 13 0 rfl (by decide) rfl rfl h174 dX8_settle_209 ?_
    refine lv_iload_n hx hb dX8_settle_210 rfl (lv_at hl 1 rfl) ?_
    refine lv_icmp_ne (tgt := 218) hx hb dX8_settle_211 (by decide) (fun c175 => ?_) (fun c175 => ?_)
    · replace hm := (if_pos c175).symm.trans hm
      refine lv_iconst (v := 0) hx hb dX8_settle_218 (by decide) ?_
      exact t_X8_settle_J219 K n x.1 x1 x.2 0 hm hg hE0 H locs hw ls (lv_sub hl [0, 1, 2] rfl)
    · replace hm := (if_neg (fun h => h c175)).symm.trans hm
      refine lv_iconst (v := 1) hx hb dX8_settle_214 (by decide) ?_
      refine lv_goto (tgt := 219) hx hb dX8_settle_215 (by decide) ?_
      exact t_X8_settle_J219 K n x.1 x1 x.2 1 hm hg hE0 H locs hw ls (lv_sub hl [0, 1, 2] rfl)
set_option maxRecDepth 100000 in
set_option maxHeartbeats 4000000 in
theorem t_X8_settle_L2 (K : Cx p s m args meth c D A (tysC cy) RX8 cX8_settle 4 none wsX8_settle (fun _ _ => True)) (n : Nat) (x1 : Int32)  (z : MSt) (hE0 : ∀ w : MSt, z = w → ∀ (H : Heap) (locs : List Loc), Wd D A s.heap (GM cy ad w) H locs → ∀ ls : Array Slot, lv_has ls 4 [(0, .ref (ad 0 0)), (1, .int x1)] → W p l e rm_X8_settle s m args below meth c H locs 0 0 Q (F0 m 170 ls [])) : ∀ (x : (MSt × Int32)), lpO (b_X8_settle_2 n x1) n x = some z → (fun (x : (MSt × Int32)) => ∀ (H : Heap) (locs : List Loc), Wd D A s.heap (GM cy ad x.1) H locs → ∀ ls : Array Slot, lv_has ls 4 [(0, .ref (ad 0 0)), (1, .int x1), (2, .int x.2)] → W p l e rm_X8_settle s m args below meth c H locs 0 0 Q (F0 m 2 ls [])) x := by
  intro x hx0
  refine lpO_ind2 (P := fun (x : (MSt × Int32)) => ∀ (H : Heap) (locs : List Loc), Wd D A s.heap (GM cy ad x.1) H locs → ∀ ls : Array Slot, lv_has ls 4 [(0, .ref (ad 0 0)), (1, .int x1), (2, .int x.2)] → W p l e rm_X8_settle s m args below meth c H locs 0 0 Q (F0 m 2 ls [])) (z := z) ?_ n x hx0
  clear hx0 x
  intro x out hm hg H locs hw ls hl 
  obtain ⟨hx, hb, hml, hown, hts, hr, hlo, hK, hA, hX⟩ := id K
  unfold b_X8_settle_2 at hm
  refine lv_iload_n hx hb dX8_settle_2 rfl (lv_at hl 2 rfl) ?_
  refine lv_bipush (v := 6) hx hb dX8_settle_3 (by decide) ?_
  refine lv_icmp_ge (tgt := 170) hx hb dX8_settle_5 (by decide) (fun c176 => ?_) (fun c176 => ?_)
  · replace hm := (if_pos c176).symm.trans hm
    obtain rfl := Option.some.inj hm
    exact hE0 _ hg.symm H locs hw ls (lv_sub hl [0, 1] rfl)
  · replace hm := (if_neg c176).symm.trans hm
    refine lv_aload_n hx hb dX8_settle_8 rfl (lv_at hl 0 rfl) ?_
    refine g_get (ref := "MigrantHeapModel") (C := RX8) (T := TX8) (N := 44) (ci := 8) K in_X8_settle_X8 hw 0 rfl (by decide : 0 < 1) rfl rfl 10 (by decide) (List.mem_of_getElem? (i := 1) rfl) rfl rfl dX8_settle_9 ?_
    refine lv_bipush (v := 6) hx hb dX8_settle_12 (by decide) ?_
    refine lv_iload_n hx hb dX8_settle_14 rfl (lv_at hl 1 rfl) ?_
    refine lv_imul hx hb dX8_settle_15 ?_
    refine lv_iload_n hx hb dX8_settle_16 rfl (lv_at hl 2 rfl) ?_
    refine lv_iadd hx hb dX8_settle_17 ?_
    refine lv_aload_n hx hb dX8_settle_18 rfl (lv_at hl 0 rfl) ?_
    refine g_get (ref := "MigrantHeapModel") (C := RX8) (T := TX8) (N := 44) (ci := 8) K in_X8_settle_X8 hw 0 rfl (by decide : 0 < 1) rfl rfl 5 (by decide) (List.mem_of_getElem? (i := 2) rfl) rfl rfl dX8_settle_19 ?_
    refine lv_bipush (v := 6) hx hb dX8_settle_22 (by decide) ?_
    refine lv_iload_n hx hb dX8_settle_24 rfl (lv_at hl 1 rfl) ?_
    refine lv_imul hx hb dX8_settle_25 ?_
    refine lv_iload_n hx hb dX8_settle_26 rfl (lv_at hl 2 rfl) ?_
    refine lv_iadd hx hb dX8_settle_27 ?_
    obtain ⟨h177, hm⟩ := chkS hm
    refine g_iald K hw 4 0 rfl (by decide) rfl rfl h177 dX8_settle_28 ?_
    obtain ⟨h178, hm⟩ := chkS hm
    refine g_iast K hw 9 0 rfl (by decide) rfl rfl h178 dX8_settle_29 (eM_10 cy ad x.1 (((6 * x1) + x.2).toNatClampNeg) (x.1.1 5 ((6 * x1) + x.2).toNatClampNeg)) (fun H locs hw => ?_)
    obtain ⟨S179, hS179, hm⟩ := nm_ex hm
    rw [← hS179] at hw
    refine lv_aload_n hx hb dX8_settle_30 rfl (lv_at hl 0 rfl) ?_
    refine g_get (ref := "MigrantHeapModel") (C := RX8) (T := TX8) (N := 44) (ci := 8) K in_X8_settle_X8 hw 0 rfl (by decide : 0 < 1) rfl rfl 11 (by decide) (List.mem_of_getElem? (i := 3) rfl) rfl rfl dX8_settle_31 ?_
    refine lv_bipush (v := 6) hx hb dX8_settle_34 (by decide) ?_
    refine lv_iload_n hx hb dX8_settle_36 rfl (lv_at hl 1 rfl) ?_
    refine lv_imul hx hb dX8_settle_37 ?_
    refine lv_iload_n hx hb dX8_settle_38 rfl (lv_at hl 2 rfl) ?_
    refine lv_iadd hx hb dX8_settle_39 ?_
    refine lv_aload_n hx hb dX8_settle_40 rfl (lv_at hl 0 rfl) ?_
    refine g_get (ref := "MigrantHeapModel") (C := RX8) (T := TX8) (N := 44) (ci := 8) K in_X8_settle_X8 hw 0 rfl (by decide : 0 < 1) rfl rfl 6 (by decide) (List.mem_of_getElem? (i := 4) rfl) rfl rfl dX8_settle_41 ?_
    refine lv_bipush (v := 6) hx hb dX8_settle_44 (by decide) ?_
    refine lv_iload_n hx hb dX8_settle_46 rfl (lv_at hl 1 rfl) ?_
    refine lv_imul hx hb dX8_settle_47 ?_
    refine lv_iload_n hx hb dX8_settle_48 rfl (lv_at hl 2 rfl) ?_
    refine lv_iadd hx hb dX8_settle_49 ?_
    obtain ⟨h180, hm⟩ := chkS hm
    refine g_iald K hw 5 0 rfl (by decide) rfl rfl h180 dX8_settle_50 ?_
    obtain ⟨h181, hm⟩ := chkS hm
    refine g_iast K hw 10 0 rfl (by decide) rfl rfl h181 dX8_settle_51 (eM_11 cy ad S179 (((6 * x1) + x.2).toNatClampNeg) (S179.1 6 ((6 * x1) + x.2).toNatClampNeg)) (fun H locs hw => ?_)
    obtain ⟨S182, hS182, hm⟩ := nm_ex hm
    rw [← hS182] at hw
    refine lv_aload_n hx hb dX8_settle_52 rfl (lv_at hl 0 rfl) ?_
    refine g_get (ref := "MigrantHeapModel") (C := RX8) (T := TX8) (N := 44) (ci := 8) K in_X8_settle_X8 hw 0 rfl (by decide : 0 < 1) rfl rfl 12 (by decide) (List.mem_of_getElem? (i := 5) rfl) rfl rfl dX8_settle_53 ?_
    refine lv_bipush (v := 6) hx hb dX8_settle_56 (by decide) ?_
    refine lv_iload_n hx hb dX8_settle_58 rfl (lv_at hl 1 rfl) ?_
    refine lv_imul hx hb dX8_settle_59 ?_
    refine lv_iload_n hx hb dX8_settle_60 rfl (lv_at hl 2 rfl) ?_
    refine lv_iadd hx hb dX8_settle_61 ?_
    refine lv_aload_n hx hb dX8_settle_62 rfl (lv_at hl 0 rfl) ?_
    refine g_get (ref := "MigrantHeapModel") (C := RX8) (T := TX8) (N := 44) (ci := 8) K in_X8_settle_X8 hw 0 rfl (by decide : 0 < 1) rfl rfl 7 (by decide) (List.mem_of_getElem? (i := 6) rfl) rfl rfl dX8_settle_63 ?_
    refine lv_bipush (v := 6) hx hb dX8_settle_66 (by decide) ?_
    refine lv_iload_n hx hb dX8_settle_68 rfl (lv_at hl 1 rfl) ?_
    refine lv_imul hx hb dX8_settle_69 ?_
    refine lv_iload_n hx hb dX8_settle_70 rfl (lv_at hl 2 rfl) ?_
    refine lv_iadd hx hb dX8_settle_71 ?_
    obtain ⟨h183, hm⟩ := chkS hm
    refine g_iald K hw 6 0 rfl (by decide) rfl rfl h183 dX8_settle_72 ?_
    obtain ⟨h184, hm⟩ := chkS hm
    refine g_iast K hw 11 0 rfl (by decide) rfl rfl h184 dX8_settle_73 (eM_12 cy ad S182 (((6 * x1) + x.2).toNatClampNeg) (S182.1 7 ((6 * x1) + x.2).toNatClampNeg)) (fun H locs hw => ?_)
    obtain ⟨S185, hS185, hm⟩ := nm_ex hm
    rw [← hS185] at hw
    refine lv_aload_n hx hb dX8_settle_74 rfl (lv_at hl 0 rfl) ?_
    refine g_get (ref := "MigrantHeapModel") (C := RX8) (T := TX8) (N := 44) (ci := 8) K in_X8_settle_X8 hw 0 rfl (by decide : 0 < 1) rfl rfl 13 (by decide) (List.mem_of_getElem? (i := 7) rfl) rfl rfl dX8_settle_75 ?_
    refine lv_bipush (v := 6) hx hb dX8_settle_78 (by decide) ?_
    refine lv_iload_n hx hb dX8_settle_80 rfl (lv_at hl 1 rfl) ?_
    refine lv_imul hx hb dX8_settle_81 ?_
    refine lv_iload_n hx hb dX8_settle_82 rfl (lv_at hl 2 rfl) ?_
    refine lv_iadd hx hb dX8_settle_83 ?_
    refine lv_aload_n hx hb dX8_settle_84 rfl (lv_at hl 0 rfl) ?_
    refine g_get (ref := "MigrantHeapModel") (C := RX8) (T := TX8) (N := 44) (ci := 8) K in_X8_settle_X8 hw 0 rfl (by decide : 0 < 1) rfl rfl 8 (by decide) (List.mem_of_getElem? (i := 8) rfl) rfl rfl dX8_settle_85 ?_
    refine lv_bipush (v := 6) hx hb dX8_settle_88 (by decide) ?_
    refine lv_iload_n hx hb dX8_settle_90 rfl (lv_at hl 1 rfl) ?_
    refine lv_imul hx hb dX8_settle_91 ?_
    refine lv_iload_n hx hb dX8_settle_92 rfl (lv_at hl 2 rfl) ?_
    refine lv_iadd hx hb dX8_settle_93 ?_
    obtain ⟨h186, hm⟩ := chkS hm
    refine g_iald K hw 7 0 rfl (by decide) rfl rfl h186 dX8_settle_94 ?_
    obtain ⟨h187, hm⟩ := chkS hm
    refine g_iast K hw 12 0 rfl (by decide) rfl rfl h187 dX8_settle_95 (eM_13 cy ad S185 (((6 * x1) + x.2).toNatClampNeg) (S185.1 8 ((6 * x1) + x.2).toNatClampNeg)) (fun H locs hw => ?_)
    obtain ⟨S188, hS188, hm⟩ := nm_ex hm
    rw [← hS188] at hw
    refine lv_aload_n hx hb dX8_settle_96 rfl (lv_at hl 0 rfl) ?_
    refine g_get (ref := "MigrantHeapModel") (C := RX8) (T := TX8) (N := 44) (ci := 8) K in_X8_settle_X8 hw 0 rfl (by decide : 0 < 1) rfl rfl 5 (by decide) (List.mem_of_getElem? (i := 2) rfl) rfl rfl dX8_settle_97 ?_
    refine lv_bipush (v := 6) hx hb dX8_settle_100 (by decide) ?_
    refine lv_iload_n hx hb dX8_settle_102 rfl (lv_at hl 1 rfl) ?_
    refine lv_imul hx hb dX8_settle_103 ?_
    refine lv_iload_n hx hb dX8_settle_104 rfl (lv_at hl 2 rfl) ?_
    refine lv_iadd hx hb dX8_settle_105 ?_
    refine lv_aload_n hx hb dX8_settle_106 rfl (lv_at hl 0 rfl) ?_
    refine g_get (ref := "MigrantHeapModel") (C := RX8) (T := TX8) (N := 44) (ci := 8) K in_X8_settle_X8 hw 0 rfl (by decide : 0 < 1) rfl rfl 29 (by decide) (List.mem_of_getElem? (i := 9) rfl) rfl rfl dX8_settle_107 ?_
    refine lv_iload_n hx hb dX8_settle_110 rfl (lv_at hl 2 rfl) ?_
    obtain ⟨h189, hm⟩ := chkS hm
    refine g_iald K hw 23 0 rfl (by decide) rfl rfl h189 dX8_settle_111 ?_
    obtain ⟨h190, hm⟩ := chkS hm
    refine g_iast K hw 4 0 rfl (by decide) rfl rfl h190 dX8_settle_112 (eM_5 cy ad S188 (((6 * x1) + x.2).toNatClampNeg) (S188.1 29 x.2.toNatClampNeg)) (fun H locs hw => ?_)
    obtain ⟨S191, hS191, hm⟩ := nm_ex hm
    rw [← hS191] at hw
    refine lv_aload_n hx hb dX8_settle_113 rfl (lv_at hl 0 rfl) ?_
    refine g_get (ref := "MigrantHeapModel") (C := RX8) (T := TX8) (N := 44) (ci := 8) K in_X8_settle_X8 hw 0 rfl (by decide : 0 < 1) rfl rfl 6 (by decide) (List.mem_of_getElem? (i := 4) rfl) rfl rfl dX8_settle_114 ?_
    refine lv_bipush (v := 6) hx hb dX8_settle_117 (by decide) ?_
    refine lv_iload_n hx hb dX8_settle_119 rfl (lv_at hl 1 rfl) ?_
    refine lv_imul hx hb dX8_settle_120 ?_
    refine lv_iload_n hx hb dX8_settle_121 rfl (lv_at hl 2 rfl) ?_
    refine lv_iadd hx hb dX8_settle_122 ?_
    refine lv_aload_n hx hb dX8_settle_123 rfl (lv_at hl 0 rfl) ?_
    refine g_get (ref := "MigrantHeapModel") (C := RX8) (T := TX8) (N := 44) (ci := 8) K in_X8_settle_X8 hw 0 rfl (by decide : 0 < 1) rfl rfl 30 (by decide) (List.mem_of_getElem? (i := 10) rfl) rfl rfl dX8_settle_124 ?_
    refine lv_iload_n hx hb dX8_settle_127 rfl (lv_at hl 2 rfl) ?_
    obtain ⟨h192, hm⟩ := chkS hm
    refine g_iald K hw 24 0 rfl (by decide) rfl rfl h192 dX8_settle_128 ?_
    obtain ⟨h193, hm⟩ := chkS hm
    refine g_iast K hw 5 0 rfl (by decide) rfl rfl h193 dX8_settle_129 (eM_6 cy ad S191 (((6 * x1) + x.2).toNatClampNeg) (S191.1 30 x.2.toNatClampNeg)) (fun H locs hw => ?_)
    obtain ⟨S194, hS194, hm⟩ := nm_ex hm
    rw [← hS194] at hw
    refine lv_aload_n hx hb dX8_settle_130 rfl (lv_at hl 0 rfl) ?_
    refine g_get (ref := "MigrantHeapModel") (C := RX8) (T := TX8) (N := 44) (ci := 8) K in_X8_settle_X8 hw 0 rfl (by decide : 0 < 1) rfl rfl 7 (by decide) (List.mem_of_getElem? (i := 6) rfl) rfl rfl dX8_settle_131 ?_
    refine lv_bipush (v := 6) hx hb dX8_settle_134 (by decide) ?_
    refine lv_iload_n hx hb dX8_settle_136 rfl (lv_at hl 1 rfl) ?_
    refine lv_imul hx hb dX8_settle_137 ?_
    refine lv_iload_n hx hb dX8_settle_138 rfl (lv_at hl 2 rfl) ?_
    refine lv_iadd hx hb dX8_settle_139 ?_
    refine lv_aload_n hx hb dX8_settle_140 rfl (lv_at hl 0 rfl) ?_
    refine g_get (ref := "MigrantHeapModel") (C := RX8) (T := TX8) (N := 44) (ci := 8) K in_X8_settle_X8 hw 0 rfl (by decide : 0 < 1) rfl rfl 31 (by decide) (List.mem_of_getElem? (i := 11) rfl) rfl rfl dX8_settle_141 ?_
    refine lv_iload_n hx hb dX8_settle_144 rfl (lv_at hl 2 rfl) ?_
    obtain ⟨h195, hm⟩ := chkS hm
    refine g_iald K hw 25 0 rfl (by decide) rfl rfl h195 dX8_settle_145 ?_
    obtain ⟨h196, hm⟩ := chkS hm
    refine g_iast K hw 6 0 rfl (by decide) rfl rfl h196 dX8_settle_146 (eM_7 cy ad S194 (((6 * x1) + x.2).toNatClampNeg) (S194.1 31 x.2.toNatClampNeg)) (fun H locs hw => ?_)
    obtain ⟨S197, hS197, hm⟩ := nm_ex hm
    rw [← hS197] at hw
    refine lv_aload_n hx hb dX8_settle_147 rfl (lv_at hl 0 rfl) ?_
    refine g_get (ref := "MigrantHeapModel") (C := RX8) (T := TX8) (N := 44) (ci := 8) K in_X8_settle_X8 hw 0 rfl (by decide : 0 < 1) rfl rfl 8 (by decide) (List.mem_of_getElem? (i := 8) rfl) rfl rfl dX8_settle_148 ?_
    refine lv_bipush (v := 6) hx hb dX8_settle_151 (by decide) ?_
    refine lv_iload_n hx hb dX8_settle_153 rfl (lv_at hl 1 rfl) ?_
    refine lv_imul hx hb dX8_settle_154 ?_
    refine lv_iload_n hx hb dX8_settle_155 rfl (lv_at hl 2 rfl) ?_
    refine lv_iadd hx hb dX8_settle_156 ?_
    refine lv_aload_n hx hb dX8_settle_157 rfl (lv_at hl 0 rfl) ?_
    refine g_get (ref := "MigrantHeapModel") (C := RX8) (T := TX8) (N := 44) (ci := 8) K in_X8_settle_X8 hw 0 rfl (by decide : 0 < 1) rfl rfl 32 (by decide) (List.mem_of_getElem? (i := 12) rfl) rfl rfl dX8_settle_158 ?_
    refine lv_iload_n hx hb dX8_settle_161 rfl (lv_at hl 2 rfl) ?_
    obtain ⟨h198, hm⟩ := chkS hm
    refine g_iald K hw 26 0 rfl (by decide) rfl rfl h198 dX8_settle_162 ?_
    obtain ⟨h199, hm⟩ := chkS hm
    refine g_iast K hw 7 0 rfl (by decide) rfl rfl h199 dX8_settle_163 (eM_8 cy ad S197 (((6 * x1) + x.2).toNatClampNeg) (S197.1 32 x.2.toNatClampNeg)) (fun H locs hw => ?_)
    obtain ⟨S200, hS200, hm⟩ := nm_ex hm
    rw [← hS200] at hw
    obtain ⟨x201, hx201, hm⟩ := nm_ex hm
    refine lv_iinc (v := x201) (lv' := [(2, .int x201), (0, .ref (ad 0 0)), (1, .int x1)]) hx hb dX8_settle_164 hl (k := 2) rfl (by rw [hx201]; rfl) (by decide) rfl (fun ls hl => ?_)
    refine lv_goto (tgt := 2) hx hb dX8_settle_167 (by decide) ?_
    obtain rfl := Option.some.inj hm
    exact hg H locs hw ls (lv_sub hl [1, 2, 0] rfl)
set_option maxRecDepth 100000 in
set_option maxHeartbeats 4000000 in
theorem t_X8_settle_0 (K : Cx p s m args meth c D A (tysC cy) RX8 cX8_settle 4 none wsX8_settle (fun _ _ => True)) (n : Nat) (S : MSt) (x1 : Int32)  {out : MSt} (hm : m_X8_settle n S x1 = some out) : ∀ (H : Heap) (locs : List Loc), Wd D A s.heap (GM cy ad S) H locs → ∀ ls : Array Slot, lv_has ls 4 [(0, .ref (ad 0 0)), (1, .int x1)] → W p l e rm_X8_settle s m args below meth c H locs 0 0 (MQ below (va_Qv (fun (u : MSt) => out = u) (fun u => Pst D (tysC cy) A (GM cy ad u)) A) args s 0 0 A) (F0 m 0 ls []) := by
  intro H locs hw ls hl
  obtain ⟨hx, hb, hml, hown, hts, hr, hlo, hK, hA, hX⟩ := id K
  unfold m_X8_settle at hm
  refine lv_iconst (v := 0) hx hb dX8_settle_0 (by decide) ?_
  refine lv_istore_n (lv' := [(2, .int 0), (0, .ref (ad 0 0)), (1, .int x1)]) hx hb dX8_settle_1 rfl hl (by decide) rfl (fun ls hl => ?_)
  obtain ⟨z202, hz203, hm⟩ := bindS hm
  refine t_X8_settle_L2 K n x1 z202 (fun w204 hww204 => ?_) ((S, 0)) hz203 H locs hw ls (lv_sub hl [1, 2, 0] rfl)
  · intro H locs hw ls hl 
    try rw [hww204] at hm
    refine lv_aload_n hx hb dX8_settle_170 rfl (lv_at hl 0 rfl) ?_
    refine g_get (ref := "MigrantHeapModel") (C := RX8) (T := TX8) (N := 44) (ci := 8) K in_X8_settle_X8 hw 0 rfl (by decide : 0 < 1) rfl rfl 9 (by decide) (List.mem_of_getElem? (i := 13) rfl) rfl rfl dX8_settle_171 ?_
    refine lv_iload_n hx hb dX8_settle_174 rfl (lv_at hl 1 rfl) ?_
    refine lv_aload_n hx hb dX8_settle_175 rfl (lv_at hl 0 rfl) ?_
    refine g_get (ref := "MigrantHeapModel") (C := RX8) (T := TX8) (N := 44) (ci := 8) K in_X8_settle_X8 hw 0 rfl (by decide : 0 < 1) rfl rfl 4 (by decide) (List.mem_of_getElem? (i := 14) rfl) rfl rfl dX8_settle_176 ?_
    refine lv_iload_n hx hb dX8_settle_179 rfl (lv_at hl 1 rfl) ?_
    obtain ⟨h205, hm⟩ := chkS hm
    refine g_iald K hw 3 0 rfl (by decide) rfl rfl h205 dX8_settle_180 ?_
    obtain ⟨h206, hm⟩ := chkS hm
    refine g_iast K hw 8 0 rfl (by decide) rfl rfl h206 dX8_settle_181 (eM_9 cy ad w204 x1.toNatClampNeg (w204.1 4 x1.toNatClampNeg)) (fun H locs hw => ?_)
    obtain ⟨S207, hS207, hm⟩ := nm_ex hm
    rw [← hS207] at hw
    refine lv_aload_n hx hb dX8_settle_182 rfl (lv_at hl 0 rfl) ?_
    refine g_get (ref := "MigrantHeapModel") (C := RX8) (T := TX8) (N := 44) (ci := 8) K in_X8_settle_X8 hw 0 rfl (by decide : 0 < 1) rfl rfl 4 (by decide) (List.mem_of_getElem? (i := 14) rfl) rfl rfl dX8_settle_183 ?_
    refine lv_iload_n hx hb dX8_settle_186 rfl (lv_at hl 1 rfl) ?_
    refine lv_aload_n hx hb dX8_settle_187 rfl (lv_at hl 0 rfl) ?_
    refine g_get (ref := "MigrantHeapModel") (C := RX8) (T := TX8) (N := 44) (ci := 8) K in_X8_settle_X8 hw 0 rfl (by decide : 0 < 1) rfl rfl 28 (by decide) (List.mem_of_getElem? (i := 15) rfl) rfl rfl dX8_settle_188 ?_
    obtain ⟨h208, hm⟩ := chkS hm
    refine g_iast K hw 3 0 rfl (by decide) rfl rfl h208 dX8_settle_191 (eM_4 cy ad S207 x1.toNatClampNeg (S207.1 28 0)) (fun H locs hw => ?_)
    obtain ⟨S209, hS209, hm⟩ := nm_ex hm
    rw [← hS209] at hw
    refine lv_iconst (v := 0) hx hb dX8_settle_192 (by decide) ?_
    refine lv_istore_n (lv' := [(2, .int 0), (0, .ref (ad 0 0)), (1, .int x1)]) hx hb dX8_settle_193 rfl hl (by decide) rfl (fun ls hl => ?_)
    obtain ⟨z210, hz211, hm⟩ := bindS hm
    refine t_X8_settle_L194 K n x1 z210 (fun w212 hww212 => ?_) ((S209, 0)) hz211 H locs hw ls (lv_sub hl [1, 2, 0] rfl)
    · intro H locs hw ls hl 
      try rw [hww212] at hm
      refine lv_aload_n hx hb dX8_settle_276 rfl (lv_at hl 0 rfl) ?_
      refine g_get (ref := "MigrantHeapModel") (C := RX8) (T := TX8) (N := 44) (ci := 8) K in_X8_settle_X8 hw 0 rfl (by decide : 0 < 1) rfl rfl 2 (by decide) (List.mem_of_getElem? (i := 20) rfl) rfl rfl dX8_settle_277 ?_
      refine lv_iload_n hx hb dX8_settle_280 rfl (lv_at hl 1 rfl) ?_
      refine lv_dup2_11 hx hb dX8_settle_281 rfl rfl ?_
      obtain ⟨h213, hm⟩ := chkS hm
      refine g_iald K hw 1 0 rfl (by decide) rfl rfl h213 dX8_settle_282 ?_
      refine lv_iconst (v := 1) hx hb dX8_settle_283 (by decide) ?_
      refine lv_iadd hx hb dX8_settle_284 ?_
      obtain ⟨h214, hm⟩ := chkS hm
      refine g_iast K hw 1 0 rfl (by decide) rfl rfl h214 dX8_settle_285 (eM_2 cy ad w212 x1.toNatClampNeg ((w212.1 2 x1.toNatClampNeg) + 1)) (fun H locs hw => ?_)
      obtain ⟨S215, hS215, hm⟩ := nm_ex hm
      rw [← hS215] at hw
      refine lv_aload_n hx hb dX8_settle_286 rfl (lv_at hl 0 rfl) ?_
      refine g_get (ref := "MigrantHeapModel") (C := RX8) (T := TX8) (N := 44) (ci := 8) K in_X8_settle_X8 hw 0 rfl (by decide : 0 < 1) rfl rfl 3 (by decide) (List.mem_of_getElem? (i := 21) rfl) rfl rfl dX8_settle_287 ?_
      refine lv_iload_n hx hb dX8_settle_290 rfl (lv_at hl 1 rfl) ?_
      refine lv_aload_n hx hb dX8_settle_291 rfl (lv_at hl 0 rfl) ?_
      refine g_get (ref := "MigrantHeapModel") (C := RX8) (T := TX8) (N := 44) (ci := 8) K in_X8_settle_X8 hw 0 rfl (by decide : 0 < 1) rfl rfl 35 (by decide) (List.mem_of_getElem? (i := 22) rfl) rfl rfl dX8_settle_292 ?_
      refine lv_if_ne (tgt := 302) hx hb dX8_settle_295 (by decide) (fun c216 => ?_) (fun c216 => ?_)
      · replace hm := (if_pos c216).symm.trans hm
        refine lv_iconst (v := 0) hx hb dX8_settle_302 (by decide) ?_
        exact t_X8_settle_J303 K n S215 x1 0 hm H locs hw ls (lv_sub hl [0] rfl)
      · replace hm := (if_neg (fun h => h c216)).symm.trans hm
        refine lv_iconst (v := 1) hx hb dX8_settle_298 (by decide) ?_
        refine lv_goto (tgt := 303) hx hb dX8_settle_299 (by decide) ?_
        exact t_X8_settle_J303 K n S215 x1 1 hm H locs hw ls (lv_sub hl [0] rfl)
set_option maxRecDepth 100000 in
set_option maxHeartbeats 4000000 in
theorem c_X8_settle (l : Launch) (D : va_G) (cy : Nat → ClassId) (ad : Nat → Nat → Nat) (sz n : Nat) (S : MSt) (x1 : Int32)  {out : MSt} (hm : m_X8_settle n S x1 = some out) : Met l yX8_settle wsX8_settle rm_X8_settle (va_Pc [.ref (ad 0 0), .int x1] (Pre D (tysC cy) (GM cy ad S) (fun _ _ => True) sz)) (va_Qv (fun (u : MSt) => out = u) (fun u => Pst D (tysC cy) (AA (adrs (GM cy ad S)) sz) (GM cy ad u)) (AA (adrs (GM cy ad S)) sz)) 0 0 (AA (adrs (GM cy ad S)) sz) := by
  refine g_met (by decide) rfl (Nat.le_of_ble_eq_true rfl) ?_
  intro p e s m args below meth c K hw ls hl
  exact t_X8_settle_0 (cy := cy) K n S x1  hm _ _ hw ls hl
end W_X8_settle
section W_X8_change
variable {p : Program} {l : Launch} {e : Env} {s : State} {m : MethodId} {args : Array Value} {below : List Frame} {meth : Method} {c : Code} {D : va_G} {A : Nat → Prop} {cy : Nat → ClassId} {ad : Nat → Nat → Nat} {Q : State → Prop}
abbrev rm_X8_change : Room := { frames := 7, cells := 0, slots := 0, locals := 179 }
theorem in_X8_change_X8 : ∀ w ∈ u_ws RX8 TX8 44, w ∈ wsX8_change := by decide +kernel
set_option maxRecDepth 100000 in
set_option maxHeartbeats 4000000 in
theorem t_X8_change_J99 (K : Cx p s m args meth c D A (tysC cy) RX8 cX8_change 4 (some .int) wsX8_change (fun _ _ => True)) (n : Nat) (S : MSt) (x1 : Int32) (x2 : Int32) (x3 : Int32) (y1 : Int32) {out : (MSt × Int32) ⊕ MSt} {z : MSt} (hm : m_X8_change_J99 n S x1 x2 x3 y1 = some out) (hg : Gd (fun (x : (MSt × Int32)) => ∀ (H : Heap) (locs : List Loc), Wd D A s.heap (GM cy ad x.1) H locs → ∀ ls : Array Slot, lv_has ls 4 [(0, .ref (ad 0 0)), (1, .int x1), (2, .int x2), (3, .int x.2)] → W p l e rm_X8_change s m args below meth c H locs 0 0 Q (F0 m 73 ls [])) z out) (hE0 : ∀ w : MSt, z = w → ∀ (H : Heap) (locs : List Loc), Wd D A s.heap (GM cy ad w) H locs → ∀ ls : Array Slot, lv_has ls 4 [(0, .ref (ad 0 0)), (1, .int x1)] → W p l e rm_X8_change s m args below meth c H locs 0 0 Q (F0 m 108 ls [])) : ∀ (H : Heap) (locs : List Loc), Wd D A s.heap (GM cy ad S) H locs → ∀ ls : Array Slot, lv_has ls 4 [(0, .ref (ad 0 0)), (1, .int x1), (2, .int x2), (3, .int x3)] → W p l e rm_X8_change s m args below meth c H locs 0 0 Q (F0 m 99 ls [.int y1, .ref (ad 0 0)]) := by
  intro H locs hw ls hl 
  obtain ⟨hx, hb, hml, hown, hts, hr, hlo, hK, hA, hX⟩ := id K
  unfold m_X8_change_J99 at hm
  refine g_put (v := .int y1) (ty := .int) (ref := "MigrantHeapModel") (C := RX8) (T := TX8) (N := 44) (ci := 8) K in_X8_change_X8 tyX8 tyX8_ok nmX8 hw 0 rfl (by decide : 0 < 1) rfl rfl 26 (by decide) (List.mem_of_getElem? (i := 3) rfl) rfl rfl (by decide +kernel) rfl rfl (Nat.le_of_ble_eq_true rfl) dX8_change_99 (eM_26 cy ad S y1) (fun H locs hw => ?_)
  obtain ⟨S61, hS61, hm⟩ := nm_ex hm
  rw [← hS61] at hw
  obtain ⟨x62, hx62, hm⟩ := nm_ex hm
  refine lv_iinc (v := x62) (lv' := [(3, .int x62), (0, .ref (ad 0 0)), (1, .int x1), (2, .int x2)]) hx hb dX8_change_102 hl (k := 3) rfl (by rw [hx62]; rfl) (by decide) rfl (fun ls hl => ?_)
  refine lv_goto (tgt := 73) hx hb dX8_change_105 (by decide) ?_
  obtain rfl := Option.some.inj hm
  exact hg H locs hw ls (lv_sub hl [1, 2, 3, 0] rfl)
set_option maxRecDepth 100000 in
set_option maxHeartbeats 4000000 in
theorem t_X8_change_L73 (K : Cx p s m args meth c D A (tysC cy) RX8 cX8_change 4 (some .int) wsX8_change (fun _ _ => True)) (n : Nat) (x1 : Int32) (x2 : Int32)  (z : MSt) (hE0 : ∀ w : MSt, z = w → ∀ (H : Heap) (locs : List Loc), Wd D A s.heap (GM cy ad w) H locs → ∀ ls : Array Slot, lv_has ls 4 [(0, .ref (ad 0 0)), (1, .int x1)] → W p l e rm_X8_change s m args below meth c H locs 0 0 Q (F0 m 108 ls [])) : ∀ (x : (MSt × Int32)), lpO (b_X8_change_73 n x1 x2) n x = some z → (fun (x : (MSt × Int32)) => ∀ (H : Heap) (locs : List Loc), Wd D A s.heap (GM cy ad x.1) H locs → ∀ ls : Array Slot, lv_has ls 4 [(0, .ref (ad 0 0)), (1, .int x1), (2, .int x2), (3, .int x.2)] → W p l e rm_X8_change s m args below meth c H locs 0 0 Q (F0 m 73 ls [])) x := by
  intro x hx0
  refine lpO_ind2 (P := fun (x : (MSt × Int32)) => ∀ (H : Heap) (locs : List Loc), Wd D A s.heap (GM cy ad x.1) H locs → ∀ ls : Array Slot, lv_has ls 4 [(0, .ref (ad 0 0)), (1, .int x1), (2, .int x2), (3, .int x.2)] → W p l e rm_X8_change s m args below meth c H locs 0 0 Q (F0 m 73 ls [])) (z := z) ?_ n x hx0
  clear hx0 x
  intro x out hm hg H locs hw ls hl 
  obtain ⟨hx, hb, hml, hown, hts, hr, hlo, hK, hA, hX⟩ := id K
  unfold b_X8_change_73 at hm
  refine lv_iload_n hx hb dX8_change_73 rfl (lv_at hl 3 rfl) ?_
  refine lv_iload_n hx hb dX8_change_74 rfl (lv_at hl 2 rfl) ?_
  refine lv_icmp_ge (tgt := 108) hx hb dX8_change_75 (by decide) (fun c63 => ?_) (fun c63 => ?_)
  · replace hm := (if_pos c63).symm.trans hm
    obtain rfl := Option.some.inj hm
    exact hE0 _ hg.symm H locs hw ls (lv_sub hl [0, 1] rfl)
  · replace hm := (if_neg c63).symm.trans hm
    refine lv_aload_n hx hb dX8_change_78 rfl (lv_at hl 0 rfl) ?_
    refine g_get (ref := "MigrantHeapModel") (C := RX8) (T := TX8) (N := 44) (ci := 8) K in_X8_change_X8 hw 0 rfl (by decide : 0 < 1) rfl rfl 26 (by decide) (List.mem_of_getElem? (i := 3) rfl) rfl rfl dX8_change_79 ?_
    refine lv_if_ge (tgt := 108) hx hb dX8_change_82 (by decide) (fun c64 => ?_) (fun c64 => ?_)
    · replace hm := (if_pos c64).symm.trans hm
      obtain rfl := Option.some.inj hm
      exact hE0 _ hg.symm H locs hw ls (lv_sub hl [0, 1] rfl)
    · replace hm := (if_neg c64).symm.trans hm
      refine lv_aload_n hx hb dX8_change_85 rfl (lv_at hl 0 rfl) ?_
      refine lv_aload_n hx hb dX8_change_86 rfl (lv_at hl 0 rfl) ?_
      refine lv_iload_n hx hb dX8_change_87 rfl (lv_at hl 3 rfl) ?_
      obtain ⟨z66, hc65, hm⟩ := bindS hm
      refine g_calli (GG := GM cy ad) K hw (va_runV (As := [.int x.2]) (rest := [.ref (ad 0 0)]) (g_fix K) (c_X8_act l D cy ad H.size n x.1 x.2  hc65) (cwV 1 (g_hts K) gX8_change_X8_act rfl rfl rfl (by decide +kernel) ⟨Nat.le_of_ble_eq_true rfl, Nat.le_of_ble_eq_true rfl⟩) ⟨g_blind rides_none, g_recv K hw 0 rfl (by decide : 0 < 1) rfl rfl, g_pre (X2 := fun _ _ => True) K hw (fun _ _ _ => trivial)⟩ rfl rfl hl.1 rfl (lv_room (Nat.le_of_ble_eq_true rfl)) dX8_change_88 ⟨Nat.le_of_ble_eq_true rfl, Nat.le_of_ble_eq_true rfl⟩) (fun r u H locs hp hw => ?_)
      obtain ⟨rfl, rfl⟩ : r = z66.1 ∧ u = z66.2 := by rw [hp]; exact ⟨rfl, rfl⟩
      refine lv_if_eq (tgt := 98) hx hb dX8_change_91 (by decide) (fun c67 => ?_) (fun c67 => ?_)
      · replace hm := (if_pos c67).symm.trans hm
        refine lv_iload_n hx hb dX8_change_98 rfl (lv_at hl 3 rfl) ?_
        exact t_X8_change_J99 K n z66.2 x1 x2 x.2 x.2 hm hg hE0 H locs hw ls (lv_sub hl [0, 1, 2, 3] rfl)
      · replace hm := (if_neg c67).symm.trans hm
        refine lv_iconst (v := (-1)) hx hb dX8_change_94 (by decide) ?_
        refine lv_goto (tgt := 99) hx hb dX8_change_95 (by decide) ?_
        exact t_X8_change_J99 K n z66.2 x1 x2 x.2 (-1) hm hg hE0 H locs hw ls (lv_sub hl [0, 1, 2, 3] rfl)
set_option maxRecDepth 100000 in
set_option maxHeartbeats 4000000 in
theorem t_X8_change_J21 (K : Cx p s m args meth c D A (tysC cy) RX8 cX8_change 4 (some .int) wsX8_change (fun _ _ => True)) (n : Nat) (S : MSt) (x1 : Int32) (y1 : Int32) {out : Int32 × MSt} (hm : m_X8_change_J21 n S x1 y1 = some out) : ∀ (H : Heap) (locs : List Loc), Wd D A s.heap (GM cy ad S) H locs → ∀ ls : Array Slot, lv_has ls 4 [(0, .ref (ad 0 0)), (1, .int x1)] → W p l e rm_X8_change s m args below meth c H locs 0 0 (MQ below (va_Qi (fun r (u : MSt) => out = (r, u)) (fun u => Pst D (tysC cy) A (GM cy ad u)) A) args s 0 0 A) (F0 m 21 ls [.int y1, .ref (ad 0 0)]) := by
  intro H locs hw ls hl 
  obtain ⟨hx, hb, hml, hown, hts, hr, hlo, hK, hA, hX⟩ := id K
  unfold m_X8_change_J21 at hm
  refine g_put (v := .int y1) (ty := .int) (ref := "MigrantHeapModel") (C := RX8) (T := TX8) (N := 44) (ci := 8) K in_X8_change_X8 tyX8 tyX8_ok nmX8 hw 0 rfl (by decide : 0 < 1) rfl rfl 0 (by decide) (List.mem_of_getElem? (i := 2) rfl) rfl rfl (by decide +kernel) rfl rfl (Nat.le_of_ble_eq_true rfl) dX8_change_21 (eM_0 cy ad S y1) (fun H locs hw => ?_)
  obtain ⟨S68, hS68, hm⟩ := nm_ex hm
  rw [← hS68] at hw
  refine lv_aload_n hx hb dX8_change_24 rfl (lv_at hl 0 rfl) ?_
  refine g_get (ref := "MigrantHeapModel") (C := RX8) (T := TX8) (N := 44) (ci := 8) K in_X8_change_X8 hw 0 rfl (by decide : 0 < 1) rfl rfl 0 (by decide) (List.mem_of_getElem? (i := 2) rfl) rfl rfl dX8_change_25 ?_
  refine lv_if_le (tgt := 33) hx hb dX8_change_28 (by decide) (fun c69 => ?_) (fun c69 => ?_)
  · replace hm := (if_pos c69).symm.trans hm
    refine lv_aload_n hx hb dX8_change_33 rfl (lv_at hl 0 rfl) ?_
    refine g_get (ref := "MigrantHeapModel") (C := RX8) (T := TX8) (N := 44) (ci := 8) K in_X8_change_X8 hw 0 rfl (by decide : 0 < 1) rfl rfl 22 (by decide) (List.mem_of_getElem? (i := 1) rfl) rfl rfl dX8_change_34 ?_
    obtain ⟨x70, hx70, hm⟩ := nm_ex hm
    refine W.eq (g2 := F0 m 37 ls (.int x70 :: [])) (by rw [hx70]) ?_
    refine lv_istore_n (lv' := [(2, .int x70), (0, .ref (ad 0 0)), (1, .int x1)]) hx hb dX8_change_37 rfl hl (by decide) rfl (fun ls hl => ?_)
    refine lv_aload_n hx hb dX8_change_38 rfl (lv_at hl 1 rfl) ?_
    refine lv_iconst (v := 0) hx hb dX8_change_39 (by decide) ?_
    refine g_put (v := .int 0) (ty := .int) (ref := "MigrantHeapModel") (C := RX8) (T := TX8) (N := 44) (ci := 8) K in_X8_change_X8 tyX8 tyX8_ok nmX8 hw 0 rfl (by decide : 0 < 1) rfl rfl 22 (by decide) (List.mem_of_getElem? (i := 1) rfl) rfl rfl (by decide +kernel) rfl rfl (Nat.le_of_ble_eq_true rfl) dX8_change_40 (eM_22 cy ad S68 0) (fun H locs hw => ?_)
    obtain ⟨S71, hS71, hm⟩ := nm_ex hm
    rw [← hS71] at hw
    refine lv_aload_n hx hb dX8_change_43 rfl (lv_at hl 1 rfl) ?_
    refine lv_iconst (v := (-1)) hx hb dX8_change_44 (by decide) ?_
    refine g_put (v := .int (-1)) (ty := .int) (ref := "MigrantHeapModel") (C := RX8) (T := TX8) (N := 44) (ci := 8) K in_X8_change_X8 tyX8 tyX8_ok nmX8 hw 0 rfl (by decide : 0 < 1) rfl rfl 26 (by decide) (List.mem_of_getElem? (i := 3) rfl) rfl rfl (by decide +kernel) rfl rfl (Nat.le_of_ble_eq_true rfl) dX8_change_45 (eM_26 cy ad S71 (-1)) (fun H locs hw => ?_)
    obtain ⟨S72, hS72, hm⟩ := nm_ex hm
    rw [← hS72] at hw
    refine lv_aload_n hx hb dX8_change_48 rfl (lv_at hl 1 rfl) ?_
    refine g_get (ref := "MigrantHeapModel") (C := RX8) (T := TX8) (N := 44) (ci := 8) K in_X8_change_X8 hw 0 rfl (by decide : 0 < 1) rfl rfl 2 (by decide) (List.mem_of_getElem? (i := 4) rfl) rfl rfl dX8_change_49 ?_
    refine lv_iload_n hx hb dX8_change_52 rfl (lv_at hl 2 rfl) ?_
    obtain ⟨h73, hm⟩ := chkS hm
    refine g_iald K hw 1 0 rfl (by decide) rfl rfl h73 dX8_change_53 ?_
    refine lv_bipush (v := 9) hx hb dX8_change_54 (by decide) ?_
    refine lv_icmp_ne (tgt := 66) hx hb dX8_change_56 (by decide) (fun c74 => ?_) (fun c74 => ?_)
    · replace hm := (if_pos c74).symm.trans hm
      refine lv_aload_n hx hb dX8_change_66 rfl (lv_at hl 1 rfl) ?_
      refine lv_iload_n hx hb dX8_change_67 rfl (lv_at hl 2 rfl) ?_
      obtain ⟨z76, hc75, hm⟩ := bindS hm
      refine g_callv (GG := GM cy ad) K hw (va_runV (As := [.int x1]) (rest := []) (g_fix K) (c_X8_begin l D cy ad H.size n S72 x1  hc75) (cwV 1 (g_hts K) gX8_change_X8_begin rfl rfl rfl (by decide +kernel) ⟨Nat.le_of_ble_eq_true rfl, Nat.le_of_ble_eq_true rfl⟩) ⟨g_blind rides_none, g_recv K hw 0 rfl (by decide : 0 < 1) rfl rfl, g_pre (X2 := fun _ _ => True) K hw (fun _ _ _ => trivial)⟩ rfl rfl hl.1 rfl (lv_room (Nat.le_of_ble_eq_true rfl)) dX8_change_68 ⟨Nat.le_of_ble_eq_true rfl, Nat.le_of_ble_eq_true rfl⟩) (fun u H locs hp hw => ?_)
      obtain rfl := hp
      refine lv_iconst (v := 0) hx hb dX8_change_71 (by decide) ?_
      refine lv_istore_n (lv' := [(3, .int 0), (2, .int x70), (0, .ref (ad 0 0)), (1, .int x1)]) hx hb dX8_change_72 rfl hl (by decide) rfl (fun ls hl => ?_)
      obtain ⟨z77, hz78, hm⟩ := bindS hm
      refine t_X8_change_L73 K n x1 x70 z77 (fun w79 hww79 => ?_) ((z76, 0)) hz78 H locs hw ls (lv_sub hl [2, 3, 1, 0] rfl)
      · intro H locs hw ls hl 
        try rw [hww79] at hm
        refine lv_aload_n hx hb dX8_change_108 rfl (lv_at hl 0 rfl) ?_
        refine g_get (ref := "MigrantHeapModel") (C := RX8) (T := TX8) (N := 44) (ci := 8) K in_X8_change_X8 hw 0 rfl (by decide : 0 < 1) rfl rfl 26 (by decide) (List.mem_of_getElem? (i := 3) rfl) rfl rfl dX8_change_109 ?_
        refine lv_if_lt (tgt := 126) hx hb dX8_change_112 (by decide) (fun c80 => ?_) (fun c80 => ?_)
        · replace hm := (if_pos c80).symm.trans hm
          refine lv_aload_n hx hb dX8_change_126 rfl (lv_at hl 0 rfl) ?_
          refine lv_iload_n hx hb dX8_change_127 rfl (lv_at hl 1 rfl) ?_
          obtain ⟨z82, hc81, hm⟩ := bindS hm
          refine g_callv (GG := GM cy ad) K hw (va_runV (As := [.int x1]) (rest := []) (g_fix K) (c_X8_settle l D cy ad H.size n w79 x1  hc81) (cwV 1 (g_hts K) gX8_change_X8_settle rfl rfl rfl (by decide +kernel) ⟨Nat.le_of_ble_eq_true rfl, Nat.le_of_ble_eq_true rfl⟩) ⟨g_blind rides_none, g_recv K hw 0 rfl (by decide : 0 < 1) rfl rfl, g_pre (X2 := fun _ _ => True) K hw (fun _ _ _ => trivial)⟩ rfl rfl hl.1 rfl (lv_room (Nat.le_of_ble_eq_true rfl)) dX8_change_128 ⟨Nat.le_of_ble_eq_true rfl, Nat.le_of_ble_eq_true rfl⟩) (fun u H locs hp hw => ?_)
          obtain rfl := hp
          refine lv_aload_n hx hb dX8_change_131 rfl (lv_at hl 0 rfl) ?_
          refine g_get (ref := "MigrantHeapModel") (C := RX8) (T := TX8) (N := 44) (ci := 8) K in_X8_change_X8 hw 0 rfl (by decide : 0 < 1) rfl rfl 2 (by decide) (List.mem_of_getElem? (i := 4) rfl) rfl rfl dX8_change_132 ?_
          refine lv_iload_n hx hb dX8_change_135 rfl (lv_at hl 1 rfl) ?_
          obtain ⟨h83, hm⟩ := chkS hm
          refine g_iald K hw 1 0 rfl (by decide) rfl rfl h83 dX8_change_136 ?_
          exact g_iret (GG := GM cy ad) K hw (Option.some.inj hm).symm dX8_change_137
        · replace hm := (if_neg c80).symm.trans hm
          refine lv_aload_n hx hb dX8_change_115 rfl (lv_at hl 0 rfl) ?_
          obtain ⟨z85, hc84, hm⟩ := bindS hm
          refine g_callv (GG := GM cy ad) K hw (va_runV (As := []) (rest := []) (g_fix K) (c_X8_restore l D cy ad H.size n w79   hc84) (cwV 0 (g_hts K) gX8_change_X8_restore rfl rfl rfl (by decide +kernel) ⟨Nat.le_of_ble_eq_true rfl, Nat.le_of_ble_eq_true rfl⟩) ⟨g_blind rides_none, g_recv K hw 0 rfl (by decide : 0 < 1) rfl rfl, g_pre (X2 := fun _ _ => True) K hw (fun _ _ _ => trivial)⟩ rfl rfl hl.1 rfl (lv_room (Nat.le_of_ble_eq_true rfl)) dX8_change_116 ⟨Nat.le_of_ble_eq_true rfl, Nat.le_of_ble_eq_true rfl⟩) (fun u H locs hp hw => ?_)
          obtain rfl := hp
          refine lv_aload_n hx hb dX8_change_119 rfl (lv_at hl 0 rfl) ?_
          refine lv_iconst (v := 2) hx hb dX8_change_120 (by decide) ?_
          refine g_put (v := .int 2) (ty := .int) (ref := "MigrantHeapModel") (C := RX8) (T := TX8) (N := 44) (ci := 8) K in_X8_change_X8 tyX8 tyX8_ok nmX8 hw 0 rfl (by decide : 0 < 1) rfl rfl 0 (by decide) (List.mem_of_getElem? (i := 2) rfl) rfl rfl (by decide +kernel) rfl rfl (Nat.le_of_ble_eq_true rfl) dX8_change_121 (eM_0 cy ad z85 2) (fun H locs hw => ?_)
          obtain ⟨S86, hS86, hm⟩ := nm_ex hm
          rw [← hS86] at hw
          refine lv_iconst (v := 0) hx hb dX8_change_124 (by decide) ?_
          exact g_iret (GG := GM cy ad) K hw (Option.some.inj hm).symm dX8_change_125
    · replace hm := (if_neg (fun h => h c74)).symm.trans hm
      refine lv_aload_n hx hb dX8_change_59 rfl (lv_at hl 1 rfl) ?_
      refine lv_iconst (v := 2) hx hb dX8_change_60 (by decide) ?_
      refine g_put (v := .int 2) (ty := .int) (ref := "MigrantHeapModel") (C := RX8) (T := TX8) (N := 44) (ci := 8) K in_X8_change_X8 tyX8 tyX8_ok nmX8 hw 0 rfl (by decide : 0 < 1) rfl rfl 0 (by decide) (List.mem_of_getElem? (i := 2) rfl) rfl rfl (by decide +kernel) rfl rfl (Nat.le_of_ble_eq_true rfl) dX8_change_61 (eM_0 cy ad S72 2) (fun H locs hw => ?_)
      obtain ⟨S87, hS87, hm⟩ := nm_ex hm
      rw [← hS87] at hw
      refine lv_iconst (v := 0) hx hb dX8_change_64 (by decide) ?_
      exact g_iret (GG := GM cy ad) K hw (Option.some.inj hm).symm dX8_change_65
  · replace hm := (if_neg c69).symm.trans hm
    refine lv_iconst (v := 0) hx hb dX8_change_31 (by decide) ?_
    exact g_iret (GG := GM cy ad) K hw (Option.some.inj hm).symm dX8_change_32
set_option maxRecDepth 100000 in
set_option maxHeartbeats 4000000 in
theorem t_X8_change_J16 (K : Cx p s m args meth c D A (tysC cy) RX8 cX8_change 4 (some .int) wsX8_change (fun _ _ => True)) (n : Nat) (S : MSt) (x1 : Int32) {out : Int32 × MSt} (hm : m_X8_change_J16 n S x1 = some out) : ∀ (H : Heap) (locs : List Loc), Wd D A s.heap (GM cy ad S) H locs → ∀ ls : Array Slot, lv_has ls 4 [(0, .ref (ad 0 0)), (1, .int x1)] → W p l e rm_X8_change s m args below meth c H locs 0 0 (MQ below (va_Qi (fun r (u : MSt) => out = (r, u)) (fun u => Pst D (tysC cy) A (GM cy ad u)) A) args s 0 0 A) (F0 m 16 ls [.ref (ad 0 0)]) := by
  intro H locs hw ls hl 
  obtain ⟨hx, hb, hml, hown, hts, hr, hlo, hK, hA, hX⟩ := id K
  unfold m_X8_change_J16 at hm
  refine lv_iconst (v := 1) hx hb dX8_change_16 (by decide) ?_
  refine lv_goto (tgt := 21) hx hb dX8_change_17 (by decide) ?_
  exact t_X8_change_J21 K n S x1 1 hm H locs hw ls (lv_sub hl [0, 1] rfl)
set_option maxRecDepth 100000 in
set_option maxHeartbeats 4000000 in
theorem t_X8_change_0 (K : Cx p s m args meth c D A (tysC cy) RX8 cX8_change 4 (some .int) wsX8_change (fun _ _ => True)) (n : Nat) (S : MSt) (x1 : Int32)  {out : Int32 × MSt} (hm : m_X8_change n S x1 = some out) : ∀ (H : Heap) (locs : List Loc), Wd D A s.heap (GM cy ad S) H locs → ∀ ls : Array Slot, lv_has ls 4 [(0, .ref (ad 0 0)), (1, .int x1)] → W p l e rm_X8_change s m args below meth c H locs 0 0 (MQ below (va_Qi (fun r (u : MSt) => out = (r, u)) (fun u => Pst D (tysC cy) A (GM cy ad u)) A) args s 0 0 A) (F0 m 0 ls []) := by
  intro H locs hw ls hl
  obtain ⟨hx, hb, hml, hown, hts, hr, hlo, hK, hA, hX⟩ := id K
  unfold m_X8_change at hm
  refine lv_aload_n hx hb dX8_change_0 rfl (lv_at hl 0 rfl) ?_
  refine lv_aload_n hx hb dX8_change_1 rfl (lv_at hl 0 rfl) ?_
  refine lv_iload_n hx hb dX8_change_2 rfl (lv_at hl 1 rfl) ?_
  obtain ⟨z89, hc88, hm⟩ := bindS hm
  refine g_calli (GG := GM cy ad) K hw (va_runV (As := [.int x1]) (rest := [.ref (ad 0 0)]) (g_fix K) (c_X8_isClass l D cy ad H.size n S x1  hc88) (cwV 1 (g_hts K) gX8_change_X8_isClass rfl rfl rfl (by decide +kernel) ⟨Nat.le_of_ble_eq_true rfl, Nat.le_of_ble_eq_true rfl⟩) ⟨g_blind rides_none, g_recv K hw 0 rfl (by decide : 0 < 1) rfl rfl, g_pre (X2 := fun _ _ => True) K hw (fun _ _ _ => trivial)⟩ rfl rfl hl.1 rfl (lv_room (Nat.le_of_ble_eq_true rfl)) dX8_change_3 ⟨Nat.le_of_ble_eq_true rfl, Nat.le_of_ble_eq_true rfl⟩) (fun r u H locs hp hw => ?_)
  obtain ⟨rfl, hu⟩ := hp
  rw [hu] at hw
  refine lv_if_eq (tgt := 16) hx hb dX8_change_6 (by decide) (fun c90 => ?_) (fun c90 => ?_)
  · replace hm := (if_pos c90).symm.trans hm
    exact t_X8_change_J16 K n S x1 hm H locs hw ls (lv_sub hl [0, 1] rfl)
  · replace hm := (if_neg c90).symm.trans hm
    refine lv_aload_n hx hb dX8_change_9 rfl (lv_at hl 0 rfl) ?_
    refine g_get (ref := "MigrantHeapModel") (C := RX8) (T := TX8) (N := 44) (ci := 8) K in_X8_change_X8 hw 0 rfl (by decide : 0 < 1) rfl rfl 22 (by decide) (List.mem_of_getElem? (i := 1) rfl) rfl rfl dX8_change_10 ?_
    refine lv_if_ne (tgt := 20) hx hb dX8_change_13 (by decide) (fun c91 => ?_) (fun c91 => ?_)
    · replace hm := (if_pos c91).symm.trans hm
      refine lv_iconst (v := 0) hx hb dX8_change_20 (by decide) ?_
      exact t_X8_change_J21 K n S x1 0 hm H locs hw ls (lv_sub hl [0, 1] rfl)
    · replace hm := (if_neg (fun h => h c91)).symm.trans hm
      exact t_X8_change_J16 K n S x1 hm H locs hw ls (lv_sub hl [0, 1] rfl)
set_option maxRecDepth 100000 in
set_option maxHeartbeats 4000000 in
theorem c_X8_change (l : Launch) (D : va_G) (cy : Nat → ClassId) (ad : Nat → Nat → Nat) (sz n : Nat) (S : MSt) (x1 : Int32)  {out : Int32 × MSt} (hm : m_X8_change n S x1 = some out) : Met l yX8_change wsX8_change rm_X8_change (va_Pc [.ref (ad 0 0), .int x1] (Pre D (tysC cy) (GM cy ad S) (fun _ _ => True) sz)) (va_Qi (fun r (u : MSt) => out = (r, u)) (fun u => Pst D (tysC cy) (AA (adrs (GM cy ad S)) sz) (GM cy ad u)) (AA (adrs (GM cy ad S)) sz)) 0 0 (AA (adrs (GM cy ad S)) sz) := by
  refine g_met (by decide) rfl (Nat.le_of_ble_eq_true rfl) ?_
  intro p e s m args below meth c K hw ls hl
  exact t_X8_change_0 (cy := cy) K n S x1  hm _ _ hw ls hl
end W_X8_change
