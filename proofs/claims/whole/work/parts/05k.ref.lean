section W_X8_spread
variable {p : Program} {l : Launch} {e : Env} {s : State} {m : MethodId} {args : Array Value} {below : List Frame} {meth : Method} {c : Code} {D : va_G} {A : Nat → Prop} {cy : Nat → ClassId} {ad : Nat → Nat → Nat} {Q : State → Prop}
abbrev rm_X8_spread : Room := { frames := 0, cells := 0, slots := 0, locals := 0 }
theorem in_X8_spread_X8 : ∀ w ∈ u_ws RX8 TX8 44, w ∈ wsX8_spread := by decide +kernel
set_option maxRecDepth 100000 in
set_option maxHeartbeats 4000000 in
theorem t_X8_spread_J76 (K : Cx p s m args meth c D A (tysC cy) RX8 cX8_spread 5 none wsX8_spread (fun _ _ => True)) (n : Nat) (S : MSt) (x1 : Int32) (x2 : Int32) (x3 : Int32) (y0 : Int32) {out : (MSt × Int32 × Int32) ⊕ (MSt × Int32)} {z : (MSt × Int32)} (hm : m_X8_spread_J76 n S x1 x2 x3 y0 = some out) (hg : Gd (fun (x : (MSt × Int32 × Int32)) => ∀ (H : Heap) (locs : List Loc), Wd D A s.heap (GM cy ad x.1) H locs → ∀ ls : Array Slot, lv_has ls 5 [(0, .ref (ad 0 0)), (1, .int x.2.1), (2, .int x2), (3, .int x.2.2)] → W p l e rm_X8_spread s m args below meth c H locs 0 0 Q (F0 m 18 ls [])) z out) (hE0 : ∀ w : (MSt × Int32), z = w → ∀ (H : Heap) (locs : List Loc), Wd D A s.heap (GM cy ad w.1) H locs → ∀ ls : Array Slot, lv_has ls 5 [(0, .ref (ad 0 0)), (1, .int w.2), (2, .int x2)] → W p l e rm_X8_spread s m args below meth c H locs 0 0 Q (F0 m 109 ls [])) : ∀ (H : Heap) (locs : List Loc), Wd D A s.heap (GM cy ad S) H locs → ∀ ls : Array Slot, lv_has ls 5 [(0, .ref (ad 0 0)), (1, .int x1), (2, .int x2), (3, .int x3)] → W p l e rm_X8_spread s m args below meth c H locs 0 0 Q (F0 m 76 ls [.int y0]) := by
  intro H locs hw ls hl 
  obtain ⟨hx, hb, hml, hown, hts, hr, hlo, hK, hA, hX⟩ := id K
  unfold m_X8_spread_J76 at hm
  refine lv_istore (lv' := [(4, .int y0), (0, .ref (ad 0 0)), (1, .int x1), (2, .int x2), (3, .int x3)]) hx hb dX8_spread_76 hl (by decide) rfl (fun ls hl => ?_)
  refine lv_iload hx hb dX8_spread_78 (lv_at hl 0 rfl) ?_
  refine lv_if_lt (tgt := 103) hx hb dX8_spread_80 (by decide) (fun c40 => ?_) (fun c40 => ?_)
  · replace hm := (if_pos c40).symm.trans hm
    obtain ⟨x41, hx41, hm⟩ := nm_ex hm
    refine lv_iinc (v := x41) (lv' := [(3, .int x41), (4, .int y0), (0, .ref (ad 0 0)), (1, .int x1), (2, .int x2)]) hx hb dX8_spread_103 hl (k := 4) rfl (by rw [hx41]; rfl) (by decide) rfl (fun ls hl => ?_)
    refine lv_goto (tgt := 18) hx hb dX8_spread_106 (by decide) ?_
    obtain rfl := Option.some.inj hm
    exact hg H locs hw ls (lv_sub hl [2, 3, 4, 0] rfl)
  · replace hm := (if_neg c40).symm.trans hm
    refine lv_aload_n hx hb dX8_spread_83 rfl (lv_at hl 1 rfl) ?_
    refine g_get (ref := "MigrantHeapModel") (C := RX8) (T := TX8) (N := 44) (ci := 8) K in_X8_spread_X8 hw 0 rfl (by decide : 0 < 1) rfl rfl 18 (by decide) (List.mem_of_getElem? (i := 1) rfl) rfl rfl dX8_spread_84 ?_
    refine lv_iload hx hb dX8_spread_87 (lv_at hl 0 rfl) ?_
    obtain ⟨h42, hm⟩ := chkS hm
    refine g_zald K hw 17 2 rfl (by decide) rfl rfl h42 dX8_spread_89 ?_
    refine lv_if_ne (tgt := 103) hx hb dX8_spread_90 (by decide) (fun c43 => ?_) (fun c43 => ?_)
    · replace hm := (if_pos c43).symm.trans hm
      obtain ⟨x44, hx44, hm⟩ := nm_ex hm
      refine lv_iinc (v := x44) (lv' := [(3, .int x44), (4, .int y0), (0, .ref (ad 0 0)), (1, .int x1), (2, .int x2)]) hx hb dX8_spread_103 hl (k := 4) rfl (by rw [hx44]; rfl) (by decide) rfl (fun ls hl => ?_)
      refine lv_goto (tgt := 18) hx hb dX8_spread_106 (by decide) ?_
      obtain rfl := Option.some.inj hm
      exact hg H locs hw ls (lv_sub hl [2, 3, 4, 0] rfl)
    · replace hm := (if_neg (fun h => h c43)).symm.trans hm
      refine lv_aload_n hx hb dX8_spread_93 rfl (lv_at hl 1 rfl) ?_
      refine g_get (ref := "MigrantHeapModel") (C := RX8) (T := TX8) (N := 44) (ci := 8) K in_X8_spread_X8 hw 0 rfl (by decide : 0 < 1) rfl rfl 18 (by decide) (List.mem_of_getElem? (i := 1) rfl) rfl rfl dX8_spread_94 ?_
      refine lv_iload hx hb dX8_spread_97 (lv_at hl 0 rfl) ?_
      refine lv_iconst (v := 1) hx hb dX8_spread_99 (by decide) ?_
      obtain ⟨h45, hm⟩ := chkS hm
      refine g_zast K hw 17 2 rfl (by decide) rfl rfl h45 rfl dX8_spread_100 (eM_18 cy ad S y0.toNatClampNeg 1) (fun H locs hw => ?_)
      obtain ⟨S46, hS46, hm⟩ := nm_ex hm
      rw [← hS46] at hw
      refine lv_iconst (v := 1) hx hb dX8_spread_101 (by decide) ?_
      refine lv_istore_n (lv' := [(1, .int 1), (4, .int y0), (0, .ref (ad 0 0)), (2, .int x2), (3, .int x3)]) hx hb dX8_spread_102 rfl hl (by decide) rfl (fun ls hl => ?_)
      obtain ⟨x47, hx47, hm⟩ := nm_ex hm
      refine lv_iinc (v := x47) (lv' := [(3, .int x47), (1, .int 1), (4, .int y0), (0, .ref (ad 0 0)), (2, .int x2)]) hx hb dX8_spread_103 hl (k := 4) rfl (by rw [hx47]; rfl) (by decide) rfl (fun ls hl => ?_)
      refine lv_goto (tgt := 18) hx hb dX8_spread_106 (by decide) ?_
      obtain rfl := Option.some.inj hm
      exact hg H locs hw ls (lv_sub hl [3, 1, 4, 0] rfl)
set_option maxRecDepth 100000 in
set_option maxHeartbeats 4000000 in
theorem t_X8_spread_L18 (K : Cx p s m args meth c D A (tysC cy) RX8 cX8_spread 5 none wsX8_spread (fun _ _ => True)) (n : Nat) (x2 : Int32)  (z : (MSt × Int32)) (hE0 : ∀ w : (MSt × Int32), z = w → ∀ (H : Heap) (locs : List Loc), Wd D A s.heap (GM cy ad w.1) H locs → ∀ ls : Array Slot, lv_has ls 5 [(0, .ref (ad 0 0)), (1, .int w.2), (2, .int x2)] → W p l e rm_X8_spread s m args below meth c H locs 0 0 Q (F0 m 109 ls [])) : ∀ (x : (MSt × Int32 × Int32)), lpO (b_X8_spread_18 n x2) n x = some z → (fun (x : (MSt × Int32 × Int32)) => ∀ (H : Heap) (locs : List Loc), Wd D A s.heap (GM cy ad x.1) H locs → ∀ ls : Array Slot, lv_has ls 5 [(0, .ref (ad 0 0)), (1, .int x.2.1), (2, .int x2), (3, .int x.2.2)] → W p l e rm_X8_spread s m args below meth c H locs 0 0 Q (F0 m 18 ls [])) x := by
  intro x hx0
  refine lpO_ind2 (P := fun (x : (MSt × Int32 × Int32)) => ∀ (H : Heap) (locs : List Loc), Wd D A s.heap (GM cy ad x.1) H locs → ∀ ls : Array Slot, lv_has ls 5 [(0, .ref (ad 0 0)), (1, .int x.2.1), (2, .int x2), (3, .int x.2.2)] → W p l e rm_X8_spread s m args below meth c H locs 0 0 Q (F0 m 18 ls [])) (z := z) ?_ n x hx0
  clear hx0 x
  intro x out hm hg H locs hw ls hl 
  obtain ⟨hx, hb, hml, hown, hts, hr, hlo, hK, hA, hX⟩ := id K
  unfold b_X8_spread_18 at hm
  refine lv_aload_n hx hb dX8_spread_18 rfl (lv_at hl 0 rfl) ?_
  refine g_get (ref := "MigrantHeapModel") (C := RX8) (T := TX8) (N := 44) (ci := 8) K in_X8_spread_X8 hw 0 rfl (by decide : 0 < 1) rfl rfl 18 (by decide) (List.mem_of_getElem? (i := 1) rfl) rfl rfl dX8_spread_19 ?_
  refine lv_iload_n hx hb dX8_spread_22 rfl (lv_at hl 2 rfl) ?_
  obtain ⟨h48, hm⟩ := chkS hm
  refine g_zald K hw 17 2 rfl (by decide) rfl rfl h48 dX8_spread_23 ?_
  refine lv_if_eq (tgt := 109) hx hb dX8_spread_24 (by decide) (fun c49 => ?_) (fun c49 => ?_)
  · replace hm := (if_pos c49).symm.trans hm
    obtain rfl := Option.some.inj hm
    exact hE0 _ hg.symm H locs hw ls (lv_sub hl [0, 1, 2] rfl)
  · replace hm := (if_neg c49).symm.trans hm
    refine lv_iload_n hx hb dX8_spread_27 rfl (lv_at hl 3 rfl) ?_
    refine lv_aload_n hx hb dX8_spread_28 rfl (lv_at hl 0 rfl) ?_
    refine g_get (ref := "MigrantHeapModel") (C := RX8) (T := TX8) (N := 44) (ci := 8) K in_X8_spread_X8 hw 0 rfl (by decide : 0 < 1) rfl rfl 4 (by decide) (List.mem_of_getElem? (i := 2) rfl) rfl rfl dX8_spread_29 ?_
    refine lv_aload_n hx hb dX8_spread_32 rfl (lv_at hl 0 rfl) ?_
    refine g_get (ref := "MigrantHeapModel") (C := RX8) (T := TX8) (N := 44) (ci := 8) K in_X8_spread_X8 hw 0 rfl (by decide : 0 < 1) rfl rfl 14 (by decide) (List.mem_of_getElem? (i := 3) rfl) rfl rfl dX8_spread_33 ?_
    refine lv_iload_n hx hb dX8_spread_36 rfl (lv_at hl 2 rfl) ?_
    obtain ⟨h50, hm⟩ := chkS hm
    refine g_iald K hw 13 0 rfl (by decide) rfl rfl h50 dX8_spread_37 ?_
    obtain ⟨h51, hm⟩ := chkS hm
    refine g_iald K hw 3 0 rfl (by decide) rfl rfl h51 dX8_spread_38 ?_
    refine lv_icmp_ge (tgt := 109) hx hb dX8_spread_39 (by decide) (fun c52 => ?_) (fun c52 => ?_)
    · replace hm := (if_pos c52).symm.trans hm
      obtain rfl := Option.some.inj hm
      exact hE0 _ hg.symm H locs hw ls (lv_sub hl [0, 1, 2] rfl)
    · replace hm := (if_neg c52).symm.trans hm
      refine lv_aload_n hx hb dX8_spread_42 rfl (lv_at hl 0 rfl) ?_
      refine g_get (ref := "MigrantHeapModel") (C := RX8) (T := TX8) (N := 44) (ci := 8) K in_X8_spread_X8 hw 0 rfl (by decide : 0 < 1) rfl rfl 6 (by decide) (List.mem_of_getElem? (i := 4) rfl) rfl rfl dX8_spread_43 ?_
      refine lv_bipush (v := 6) hx hb dX8_spread_46 (by decide) ?_
      refine lv_aload_n hx hb dX8_spread_48 rfl (lv_at hl 0 rfl) ?_
      refine g_get (ref := "MigrantHeapModel") (C := RX8) (T := TX8) (N := 44) (ci := 8) K in_X8_spread_X8 hw 0 rfl (by decide : 0 < 1) rfl rfl 14 (by decide) (List.mem_of_getElem? (i := 3) rfl) rfl rfl dX8_spread_49 ?_
      refine lv_iload_n hx hb dX8_spread_52 rfl (lv_at hl 2 rfl) ?_
      obtain ⟨h53, hm⟩ := chkS hm
      refine g_iald K hw 13 0 rfl (by decide) rfl rfl h53 dX8_spread_53 ?_
      refine lv_imul hx hb dX8_spread_54 ?_
      refine lv_iload_n hx hb dX8_spread_55 rfl (lv_at hl 3 rfl) ?_
      refine lv_iadd hx hb dX8_spread_56 ?_
      obtain ⟨h54, hm⟩ := chkS hm
      refine g_iald K hw 5 0 rfl (by decide) rfl rfl h54 dX8_spread_57 ?_
      refine lv_if_ne (tgt := 65) hx hb dX8_spread_58 (by decide) (fun c55 => ?_) (fun c55 => ?_)
      · replace hm := (if_pos c55).symm.trans hm
        refine lv_aload_n hx hb dX8_spread_65 rfl (lv_at hl 0 rfl) ?_
        refine g_get (ref := "MigrantHeapModel") (C := RX8) (T := TX8) (N := 44) (ci := 8) K in_X8_spread_X8 hw 0 rfl (by decide : 0 < 1) rfl rfl 16 (by decide) (List.mem_of_getElem? (i := 5) rfl) rfl rfl dX8_spread_66 ?_
        refine lv_bipush (v := 6) hx hb dX8_spread_69 (by decide) ?_
        refine lv_iload_n hx hb dX8_spread_71 rfl (lv_at hl 2 rfl) ?_
        refine lv_imul hx hb dX8_spread_72 ?_
        refine lv_iload_n hx hb dX8_spread_73 rfl (lv_at hl 3 rfl) ?_
        refine lv_iadd hx hb dX8_spread_74 ?_
        obtain ⟨h56, hm⟩ := chkS hm
        refine g_iald K hw 15 0 rfl (by decide) rfl rfl h56 dX8_spread_75 ?_
        exact t_X8_spread_J76 K n x.1 x.2.1 x2 x.2.2 (x.1.1 16 ((6 * x2) + x.2.2).toNatClampNeg) hm hg hE0 H locs hw ls (lv_sub hl [0, 1, 2, 3] rfl)
      · replace hm := (if_neg (fun h => h c55)).symm.trans hm
        refine lv_iconst (v := (-1)) hx hb dX8_spread_61 (by decide) ?_
        refine lv_goto (tgt := 76) hx hb dX8_spread_62 (by decide) ?_
        exact t_X8_spread_J76 K n x.1 x.2.1 x2 x.2.2 (-1) hm hg hE0 H locs hw ls (lv_sub hl [0, 1, 2, 3] rfl)
set_option maxRecDepth 100000 in
set_option maxHeartbeats 4000000 in
theorem t_X8_spread_L10 (K : Cx p s m args meth c D A (tysC cy) RX8 cX8_spread 5 none wsX8_spread (fun _ _ => True)) (n : Nat)   (z : (MSt × Int32)) (hE0 : ∀ w : (MSt × Int32), z = w → ∀ (H : Heap) (locs : List Loc), Wd D A s.heap (GM cy ad w.1) H locs → ∀ ls : Array Slot, lv_has ls 5 [(0, .ref (ad 0 0)), (1, .int w.2)] → W p l e rm_X8_spread s m args below meth c H locs 0 0 Q (F0 m 115 ls [])) : ∀ (x : (MSt × Int32 × Int32)), lpO (b_X8_spread_10 n ) n x = some z → (fun (x : (MSt × Int32 × Int32)) => ∀ (H : Heap) (locs : List Loc), Wd D A s.heap (GM cy ad x.1) H locs → ∀ ls : Array Slot, lv_has ls 5 [(0, .ref (ad 0 0)), (1, .int x.2.1), (2, .int x.2.2)] → W p l e rm_X8_spread s m args below meth c H locs 0 0 Q (F0 m 10 ls [])) x := by
  intro x hx0
  refine lpO_ind2 (P := fun (x : (MSt × Int32 × Int32)) => ∀ (H : Heap) (locs : List Loc), Wd D A s.heap (GM cy ad x.1) H locs → ∀ ls : Array Slot, lv_has ls 5 [(0, .ref (ad 0 0)), (1, .int x.2.1), (2, .int x.2.2)] → W p l e rm_X8_spread s m args below meth c H locs 0 0 Q (F0 m 10 ls [])) (z := z) ?_ n x hx0
  clear hx0 x
  intro x out hm hg H locs hw ls hl 
  obtain ⟨hx, hb, hml, hown, hts, hr, hlo, hK, hA, hX⟩ := id K
  unfold b_X8_spread_10 at hm
  refine lv_iload_n hx hb dX8_spread_10 rfl (lv_at hl 2 rfl) ?_
  refine lv_bipush (v := 24) hx hb dX8_spread_11 (by decide) ?_
  refine lv_icmp_ge (tgt := 115) hx hb dX8_spread_13 (by decide) (fun c57 => ?_) (fun c57 => ?_)
  · replace hm := (if_pos c57).symm.trans hm
    obtain rfl := Option.some.inj hm
    exact hE0 _ hg.symm H locs hw ls (lv_sub hl [0, 1] rfl)
  · replace hm := (if_neg c57).symm.trans hm
    refine lv_iconst (v := 0) hx hb dX8_spread_16 (by decide) ?_
    refine lv_istore_n (lv' := [(3, .int 0), (0, .ref (ad 0 0)), (1, .int x.2.1), (2, .int x.2.2)]) hx hb dX8_spread_17 rfl hl (by decide) rfl (fun ls hl => ?_)
    obtain ⟨z58, hz59, hm⟩ := bindS hm
    refine t_X8_spread_L18 K n x.2.2 z58 (fun w60 hww60 => ?_) ((x.1, x.2.1, 0)) hz59 H locs hw ls (lv_sub hl [1, 2, 3, 0] rfl)
    · intro H locs hw ls hl 
      try rw [hww60] at hm
      obtain ⟨x61, hx61, hm⟩ := nm_ex hm
      refine lv_iinc (v := x61) (lv' := [(2, .int x61), (0, .ref (ad 0 0)), (1, .int w60.2)]) hx hb dX8_spread_109 hl (k := 2) rfl (by rw [hx61]; rfl) (by decide) rfl (fun ls hl => ?_)
      refine lv_goto (tgt := 10) hx hb dX8_spread_112 (by decide) ?_
      obtain rfl := Option.some.inj hm
      exact hg H locs hw ls (lv_sub hl [1, 2, 0] rfl)
set_option maxRecDepth 100000 in
set_option maxHeartbeats 4000000 in
theorem t_X8_spread_L2 (K : Cx p s m args meth c D A (tysC cy) RX8 cX8_spread 5 none wsX8_spread (fun _ _ => True)) (n : Nat)   (z : MSt) (hE0 : ∀ w : MSt, z = w → ∀ (H : Heap) (locs : List Loc), Wd D A s.heap (GM cy ad w) H locs → ∀ ls : Array Slot, lv_has ls 5 [] → W p l e rm_X8_spread s m args below meth c H locs 0 0 Q (F0 m 118 ls [])) : ∀ (x : (MSt × Int32)), lpO (b_X8_spread_2 n ) n x = some z → (fun (x : (MSt × Int32)) => ∀ (H : Heap) (locs : List Loc), Wd D A s.heap (GM cy ad x.1) H locs → ∀ ls : Array Slot, lv_has ls 5 [(0, .ref (ad 0 0)), (1, .int x.2)] → W p l e rm_X8_spread s m args below meth c H locs 0 0 Q (F0 m 2 ls [])) x := by
  intro x hx0
  refine lpO_ind2 (P := fun (x : (MSt × Int32)) => ∀ (H : Heap) (locs : List Loc), Wd D A s.heap (GM cy ad x.1) H locs → ∀ ls : Array Slot, lv_has ls 5 [(0, .ref (ad 0 0)), (1, .int x.2)] → W p l e rm_X8_spread s m args below meth c H locs 0 0 Q (F0 m 2 ls [])) (z := z) ?_ n x hx0
  clear hx0 x
  intro x out hm hg H locs hw ls hl 
  obtain ⟨hx, hb, hml, hown, hts, hr, hlo, hK, hA, hX⟩ := id K
  unfold b_X8_spread_2 at hm
  refine lv_iload_n hx hb dX8_spread_2 rfl (lv_at hl 1 rfl) ?_
  refine lv_if_eq (tgt := 118) hx hb dX8_spread_3 (by decide) (fun c62 => ?_) (fun c62 => ?_)
  · replace hm := (if_pos c62).symm.trans hm
    obtain rfl := Option.some.inj hm
    exact hE0 _ hg.symm H locs hw ls (lv_sub hl [] rfl)
  · replace hm := (if_neg c62).symm.trans hm
    refine lv_iconst (v := 0) hx hb dX8_spread_6 (by decide) ?_
    refine lv_istore_n (lv' := [(1, .int 0), (0, .ref (ad 0 0))]) hx hb dX8_spread_7 rfl hl (by decide) rfl (fun ls hl => ?_)
    refine lv_iconst (v := 0) hx hb dX8_spread_8 (by decide) ?_
    refine lv_istore_n (lv' := [(2, .int 0), (1, .int 0), (0, .ref (ad 0 0))]) hx hb dX8_spread_9 rfl hl (by decide) rfl (fun ls hl => ?_)
    obtain ⟨z63, hz64, hm⟩ := bindS hm
    refine t_X8_spread_L10 K n  z63 (fun w65 hww65 => ?_) ((x.1, 0, 0)) hz64 H locs hw ls (lv_sub hl [2, 1, 0] rfl)
    · intro H locs hw ls hl 
      try rw [hww65] at hm
      refine lv_goto (tgt := 2) hx hb dX8_spread_115 (by decide) ?_
      obtain rfl := Option.some.inj hm
      exact hg H locs hw ls (lv_sub hl [0, 1] rfl)
set_option maxRecDepth 100000 in
set_option maxHeartbeats 4000000 in
theorem t_X8_spread_0 (K : Cx p s m args meth c D A (tysC cy) RX8 cX8_spread 5 none wsX8_spread (fun _ _ => True)) (n : Nat) (S : MSt)   {out : MSt} (hm : m_X8_spread n S  = some out) : ∀ (H : Heap) (locs : List Loc), Wd D A s.heap (GM cy ad S) H locs → ∀ ls : Array Slot, lv_has ls 5 [(0, .ref (ad 0 0))] → W p l e rm_X8_spread s m args below meth c H locs 0 0 (MQ below (va_Qv (fun (u : MSt) => out = u) (fun u => Pst D (tysC cy) A (GM cy ad u)) A) args s 0 0 A) (F0 m 0 ls []) := by
  intro H locs hw ls hl
  obtain ⟨hx, hb, hml, hown, hts, hr, hlo, hK, hA, hX⟩ := id K
  unfold m_X8_spread at hm
  refine lv_iconst (v := 1) hx hb dX8_spread_0 (by decide) ?_
  refine lv_istore_n (lv' := [(1, .int 1), (0, .ref (ad 0 0))]) hx hb dX8_spread_1 rfl hl (by decide) rfl (fun ls hl => ?_)
  obtain ⟨z66, hz67, hm⟩ := bindS hm
  refine t_X8_spread_L2 K n  z66 (fun w68 hww68 => ?_) ((S, 1)) hz67 H locs hw ls (lv_sub hl [1, 0] rfl)
  · intro H locs hw ls hl 
    try rw [hww68] at hm
    exact g_vret (GG := GM cy ad) K hw (Option.some.inj hm).symm dX8_spread_118
set_option maxRecDepth 100000 in
set_option maxHeartbeats 4000000 in
theorem c_X8_spread (l : Launch) (D : va_G) (cy : Nat → ClassId) (ad : Nat → Nat → Nat) (sz n : Nat) (S : MSt)   {out : MSt} (hm : m_X8_spread n S  = some out) : Met l yX8_spread wsX8_spread rm_X8_spread (va_Pc [.ref (ad 0 0)] (Pre D (tysC cy) (GM cy ad S) (fun _ _ => True) sz)) (va_Qv (fun (u : MSt) => out = u) (fun u => Pst D (tysC cy) (AA (adrs (GM cy ad S)) sz) (GM cy ad u)) (AA (adrs (GM cy ad S)) sz)) 0 0 (AA (adrs (GM cy ad S)) sz) := by
  refine g_met (by decide) rfl (Nat.le_of_ble_eq_true rfl) ?_
  intro p e s m args below meth c K hw ls hl
  exact t_X8_spread_0 (cy := cy) K n S   hm _ _ hw ls hl
end W_X8_spread
section W_X8_forget
variable {p : Program} {l : Launch} {e : Env} {s : State} {m : MethodId} {args : Array Value} {below : List Frame} {meth : Method} {c : Code} {D : va_G} {A : Nat → Prop} {cy : Nat → ClassId} {ad : Nat → Nat → Nat} {Q : State → Prop}
abbrev rm_X8_forget : Room := { frames := 0, cells := 0, slots := 0, locals := 0 }
theorem in_X8_forget_X8 : ∀ w ∈ u_ws RX8 TX8 44, w ∈ wsX8_forget := by decide +kernel
set_option maxRecDepth 100000 in
set_option maxHeartbeats 4000000 in
theorem t_X8_forget_J105 (K : Cx p s m args meth c D A (tysC cy) RX8 cX8_forget 5 none wsX8_forget (fun _ _ => True)) (n : Nat) (S : MSt) (x1 : Int32) (x2 : Int32) (x3 : Int32) (y1 : Int32) (y2 : Int32) {out : (MSt × Int32) ⊕ MSt} {z : MSt} (hm : m_X8_forget_J105 n S x1 x2 x3 y1 y2 = some out) (hg : Gd (fun (x : (MSt × Int32)) => ∀ (H : Heap) (locs : List Loc), Wd D A s.heap (GM cy ad x.1) H locs → ∀ ls : Array Slot, lv_has ls 5 [(0, .ref (ad 0 0)), (1, .int x1), (2, .int x2), (3, .int x.2)] → W p l e rm_X8_forget s m args below meth c H locs 0 0 Q (F0 m 10 ls [])) z out) (hE0 : ∀ w : MSt, z = w → ∀ (H : Heap) (locs : List Loc), Wd D A s.heap (GM cy ad w) H locs → ∀ ls : Array Slot, lv_has ls 5 [(0, .ref (ad 0 0)), (1, .int x1), (2, .int x2)] → W p l e rm_X8_forget s m args below meth c H locs 0 0 Q (F0 m 112 ls [])) : ∀ (H : Heap) (locs : List Loc), Wd D A s.heap (GM cy ad S) H locs → ∀ ls : Array Slot, lv_has ls 5 [(0, .ref (ad 0 0)), (1, .int x1), (2, .int x2), (3, .int x3)] → W p l e rm_X8_forget s m args below meth c H locs 0 0 Q (F0 m 105 ls [.int y2, .int y1, .ref (ad 16 0)]) := by
  intro H locs hw ls hl 
  obtain ⟨hx, hb, hml, hown, hts, hr, hlo, hK, hA, hX⟩ := id K
  unfold m_X8_forget_J105 at hm
  obtain ⟨h36, hm⟩ := chkS hm
  refine g_iast K hw 16 0 rfl (by decide) rfl rfl h36 dX8_forget_105 (eM_17 cy ad S y1.toNatClampNeg y2) (fun H locs hw => ?_)
  obtain ⟨S37, hS37, hm⟩ := nm_ex hm
  rw [← hS37] at hw
  obtain ⟨x38, hx38, hm⟩ := nm_ex hm
  refine lv_iinc (v := x38) (lv' := [(3, .int x38), (0, .ref (ad 0 0)), (1, .int x1), (2, .int x2)]) hx hb dX8_forget_106 hl (k := 3) rfl (by rw [hx38]; rfl) (by decide) rfl (fun ls hl => ?_)
  refine lv_goto (tgt := 10) hx hb dX8_forget_109 (by decide) ?_
  obtain rfl := Option.some.inj hm
  exact hg H locs hw ls (lv_sub hl [1, 2, 3, 0] rfl)
set_option maxRecDepth 100000 in
set_option maxHeartbeats 4000000 in
theorem t_X8_forget_J73 (K : Cx p s m args meth c D A (tysC cy) RX8 cX8_forget 5 none wsX8_forget (fun _ _ => True)) (n : Nat) (S : MSt) (x1 : Int32) (x2 : Int32) (x3 : Int32) (y0 : Int32) {out : (MSt × Int32) ⊕ MSt} {z : MSt} (hm : m_X8_forget_J73 n S x1 x2 x3 y0 = some out) (hg : Gd (fun (x : (MSt × Int32)) => ∀ (H : Heap) (locs : List Loc), Wd D A s.heap (GM cy ad x.1) H locs → ∀ ls : Array Slot, lv_has ls 5 [(0, .ref (ad 0 0)), (1, .int x1), (2, .int x2), (3, .int x.2)] → W p l e rm_X8_forget s m args below meth c H locs 0 0 Q (F0 m 10 ls [])) z out) (hE0 : ∀ w : MSt, z = w → ∀ (H : Heap) (locs : List Loc), Wd D A s.heap (GM cy ad w) H locs → ∀ ls : Array Slot, lv_has ls 5 [(0, .ref (ad 0 0)), (1, .int x1), (2, .int x2)] → W p l e rm_X8_forget s m args below meth c H locs 0 0 Q (F0 m 112 ls [])) : ∀ (H : Heap) (locs : List Loc), Wd D A s.heap (GM cy ad S) H locs → ∀ ls : Array Slot, lv_has ls 5 [(0, .ref (ad 0 0)), (1, .int x1), (2, .int x2), (3, .int x3)] → W p l e rm_X8_forget s m args below meth c H locs 0 0 Q (F0 m 73 ls [.int y0]) := by
  intro H locs hw ls hl 
  obtain ⟨hx, hb, hml, hown, hts, hr, hlo, hK, hA, hX⟩ := id K
  unfold m_X8_forget_J73 at hm
  refine lv_istore (lv' := [(4, .int y0), (0, .ref (ad 0 0)), (1, .int x1), (2, .int x2), (3, .int x3)]) hx hb dX8_forget_73 hl (by decide) rfl (fun ls hl => ?_)
  refine lv_aload_n hx hb dX8_forget_75 rfl (lv_at hl 1 rfl) ?_
  refine g_get (ref := "MigrantHeapModel") (C := RX8) (T := TX8) (N := 44) (ci := 8) K in_X8_forget_X8 hw 0 rfl (by decide : 0 < 1) rfl rfl 17 (by decide) (List.mem_of_getElem? (i := 4) rfl) rfl rfl dX8_forget_76 ?_
  refine lv_bipush (v := 6) hx hb dX8_forget_79 (by decide) ?_
  refine lv_iload_n hx hb dX8_forget_81 rfl (lv_at hl 3 rfl) ?_
  refine lv_imul hx hb dX8_forget_82 ?_
  refine lv_iload_n hx hb dX8_forget_83 rfl (lv_at hl 4 rfl) ?_
  refine lv_iadd hx hb dX8_forget_84 ?_
  refine lv_iload hx hb dX8_forget_85 (lv_at hl 0 rfl) ?_
  refine lv_if_eq (tgt := 94) hx hb dX8_forget_87 (by decide) (fun c39 => ?_) (fun c39 => ?_)
  · replace hm := (if_pos c39).symm.trans hm
    refine lv_aload_n hx hb dX8_forget_94 rfl (lv_at hl 1 rfl) ?_
    refine g_get (ref := "MigrantHeapModel") (C := RX8) (T := TX8) (N := 44) (ci := 8) K in_X8_forget_X8 hw 0 rfl (by decide : 0 < 1) rfl rfl 17 (by decide) (List.mem_of_getElem? (i := 4) rfl) rfl rfl dX8_forget_95 ?_
    refine lv_bipush (v := 6) hx hb dX8_forget_98 (by decide) ?_
    refine lv_iload_n hx hb dX8_forget_100 rfl (lv_at hl 3 rfl) ?_
    refine lv_imul hx hb dX8_forget_101 ?_
    refine lv_iload_n hx hb dX8_forget_102 rfl (lv_at hl 4 rfl) ?_
    refine lv_iadd hx hb dX8_forget_103 ?_
    obtain ⟨h40, hm⟩ := chkS hm
    refine g_iald K hw 16 0 rfl (by decide) rfl rfl h40 dX8_forget_104 ?_
    exact t_X8_forget_J105 K n S x1 x2 x3 ((6 * x2) + x3) (S.1 17 ((6 * x2) + x3).toNatClampNeg) hm hg hE0 H locs hw ls (lv_sub hl [1, 2, 3, 4] rfl)
  · replace hm := (if_neg c39).symm.trans hm
    refine lv_iconst (v := (-1)) hx hb dX8_forget_90 (by decide) ?_
    refine lv_goto (tgt := 105) hx hb dX8_forget_91 (by decide) ?_
    exact t_X8_forget_J105 K n S x1 x2 x3 ((6 * x2) + x3) (-1) hm hg hE0 H locs hw ls (lv_sub hl [1, 2, 3, 4] rfl)
set_option maxRecDepth 100000 in
set_option maxHeartbeats 4000000 in
theorem t_X8_forget_J72 (K : Cx p s m args meth c D A (tysC cy) RX8 cX8_forget 5 none wsX8_forget (fun _ _ => True)) (n : Nat) (S : MSt) (x1 : Int32) (x2 : Int32) (x3 : Int32) {out : (MSt × Int32) ⊕ MSt} {z : MSt} (hm : m_X8_forget_J72 n S x1 x2 x3 = some out) (hg : Gd (fun (x : (MSt × Int32)) => ∀ (H : Heap) (locs : List Loc), Wd D A s.heap (GM cy ad x.1) H locs → ∀ ls : Array Slot, lv_has ls 5 [(0, .ref (ad 0 0)), (1, .int x1), (2, .int x2), (3, .int x.2)] → W p l e rm_X8_forget s m args below meth c H locs 0 0 Q (F0 m 10 ls [])) z out) (hE0 : ∀ w : MSt, z = w → ∀ (H : Heap) (locs : List Loc), Wd D A s.heap (GM cy ad w) H locs → ∀ ls : Array Slot, lv_has ls 5 [(0, .ref (ad 0 0)), (1, .int x1), (2, .int x2)] → W p l e rm_X8_forget s m args below meth c H locs 0 0 Q (F0 m 112 ls [])) : ∀ (H : Heap) (locs : List Loc), Wd D A s.heap (GM cy ad S) H locs → ∀ ls : Array Slot, lv_has ls 5 [(0, .ref (ad 0 0)), (1, .int x1), (2, .int x2), (3, .int x3)] → W p l e rm_X8_forget s m args below meth c H locs 0 0 Q (F0 m 72 ls []) := by
  intro H locs hw ls hl 
  obtain ⟨hx, hb, hml, hown, hts, hr, hlo, hK, hA, hX⟩ := id K
  unfold m_X8_forget_J72 at hm
  refine lv_iconst (v := 0) hx hb dX8_forget_72 (by decide) ?_
  exact t_X8_forget_J73 K n S x1 x2 x3 0 hm hg hE0 H locs hw ls (lv_sub hl [0, 1, 2, 3] rfl)
set_option maxRecDepth 100000 in
set_option maxHeartbeats 4000000 in
theorem t_X8_forget_L10 (K : Cx p s m args meth c D A (tysC cy) RX8 cX8_forget 5 none wsX8_forget (fun _ _ => True)) (n : Nat) (x1 : Int32) (x2 : Int32)  (z : MSt) (hE0 : ∀ w : MSt, z = w → ∀ (H : Heap) (locs : List Loc), Wd D A s.heap (GM cy ad w) H locs → ∀ ls : Array Slot, lv_has ls 5 [(0, .ref (ad 0 0)), (1, .int x1), (2, .int x2)] → W p l e rm_X8_forget s m args below meth c H locs 0 0 Q (F0 m 112 ls [])) : ∀ (x : (MSt × Int32)), lpO (b_X8_forget_10 n x1 x2) n x = some z → (fun (x : (MSt × Int32)) => ∀ (H : Heap) (locs : List Loc), Wd D A s.heap (GM cy ad x.1) H locs → ∀ ls : Array Slot, lv_has ls 5 [(0, .ref (ad 0 0)), (1, .int x1), (2, .int x2), (3, .int x.2)] → W p l e rm_X8_forget s m args below meth c H locs 0 0 Q (F0 m 10 ls [])) x := by
  intro x hx0
  refine lpO_ind2 (P := fun (x : (MSt × Int32)) => ∀ (H : Heap) (locs : List Loc), Wd D A s.heap (GM cy ad x.1) H locs → ∀ ls : Array Slot, lv_has ls 5 [(0, .ref (ad 0 0)), (1, .int x1), (2, .int x2), (3, .int x.2)] → W p l e rm_X8_forget s m args below meth c H locs 0 0 Q (F0 m 10 ls [])) (z := z) ?_ n x hx0
  clear hx0 x
  intro x out hm hg H locs hw ls hl 
  obtain ⟨hx, hb, hml, hown, hts, hr, hlo, hK, hA, hX⟩ := id K
  unfold b_X8_forget_10 at hm
  refine lv_aload_n hx hb dX8_forget_10 rfl (lv_at hl 0 rfl) ?_
  refine g_get (ref := "MigrantHeapModel") (C := RX8) (T := TX8) (N := 44) (ci := 8) K in_X8_forget_X8 hw 0 rfl (by decide : 0 < 1) rfl rfl 14 (by decide) (List.mem_of_getElem? (i := 1) rfl) rfl rfl dX8_forget_11 ?_
  refine lv_iload_n hx hb dX8_forget_14 rfl (lv_at hl 2 rfl) ?_
  obtain ⟨h41, hm⟩ := chkS hm
  refine g_iald K hw 13 0 rfl (by decide) rfl rfl h41 dX8_forget_15 ?_
  refine lv_if_lt (tgt := 112) hx hb dX8_forget_16 (by decide) (fun c42 => ?_) (fun c42 => ?_)
  · replace hm := (if_pos c42).symm.trans hm
    obtain rfl := Option.some.inj hm
    exact hE0 _ hg.symm H locs hw ls (lv_sub hl [0, 1, 2] rfl)
  · replace hm := (if_neg c42).symm.trans hm
    refine lv_iload_n hx hb dX8_forget_19 rfl (lv_at hl 3 rfl) ?_
    refine lv_aload_n hx hb dX8_forget_20 rfl (lv_at hl 0 rfl) ?_
    refine g_get (ref := "MigrantHeapModel") (C := RX8) (T := TX8) (N := 44) (ci := 8) K in_X8_forget_X8 hw 0 rfl (by decide : 0 < 1) rfl rfl 9 (by decide) (List.mem_of_getElem? (i := 2) rfl) rfl rfl dX8_forget_21 ?_
    refine lv_aload_n hx hb dX8_forget_24 rfl (lv_at hl 0 rfl) ?_
    refine g_get (ref := "MigrantHeapModel") (C := RX8) (T := TX8) (N := 44) (ci := 8) K in_X8_forget_X8 hw 0 rfl (by decide : 0 < 1) rfl rfl 14 (by decide) (List.mem_of_getElem? (i := 1) rfl) rfl rfl dX8_forget_25 ?_
    refine lv_iload_n hx hb dX8_forget_28 rfl (lv_at hl 2 rfl) ?_
    obtain ⟨h43, hm⟩ := chkS hm
    refine g_iald K hw 13 0 rfl (by decide) rfl rfl h43 dX8_forget_29 ?_
    obtain ⟨h44, hm⟩ := chkS hm
    refine g_iald K hw 8 0 rfl (by decide) rfl rfl h44 dX8_forget_30 ?_
    refine lv_icmp_ge (tgt := 112) hx hb dX8_forget_31 (by decide) (fun c45 => ?_) (fun c45 => ?_)
    · replace hm := (if_pos c45).symm.trans hm
      obtain rfl := Option.some.inj hm
      exact hE0 _ hg.symm H locs hw ls (lv_sub hl [0, 1, 2] rfl)
    · replace hm := (if_neg c45).symm.trans hm
      refine lv_aload_n hx hb dX8_forget_34 rfl (lv_at hl 0 rfl) ?_
      refine g_get (ref := "MigrantHeapModel") (C := RX8) (T := TX8) (N := 44) (ci := 8) K in_X8_forget_X8 hw 0 rfl (by decide : 0 < 1) rfl rfl 11 (by decide) (List.mem_of_getElem? (i := 3) rfl) rfl rfl dX8_forget_35 ?_
      refine lv_bipush (v := 6) hx hb dX8_forget_38 (by decide) ?_
      refine lv_aload_n hx hb dX8_forget_40 rfl (lv_at hl 0 rfl) ?_
      refine g_get (ref := "MigrantHeapModel") (C := RX8) (T := TX8) (N := 44) (ci := 8) K in_X8_forget_X8 hw 0 rfl (by decide : 0 < 1) rfl rfl 14 (by decide) (List.mem_of_getElem? (i := 1) rfl) rfl rfl dX8_forget_41 ?_
      refine lv_iload_n hx hb dX8_forget_44 rfl (lv_at hl 2 rfl) ?_
      obtain ⟨h46, hm⟩ := chkS hm
      refine g_iald K hw 13 0 rfl (by decide) rfl rfl h46 dX8_forget_45 ?_
      refine lv_imul hx hb dX8_forget_46 ?_
      refine lv_iload_n hx hb dX8_forget_47 rfl (lv_at hl 3 rfl) ?_
      refine lv_iadd hx hb dX8_forget_48 ?_
      obtain ⟨h47, hm⟩ := chkS hm
      refine g_iald K hw 10 0 rfl (by decide) rfl rfl h47 dX8_forget_49 ?_
      refine lv_if_eq (tgt := 72) hx hb dX8_forget_50 (by decide) (fun c48 => ?_) (fun c48 => ?_)
      · replace hm := (if_pos c48).symm.trans hm
        exact t_X8_forget_J72 K n x.1 x1 x2 x.2 hm hg hE0 H locs hw ls (lv_sub hl [0, 1, 2, 3] rfl)
      · replace hm := (if_neg c48).symm.trans hm
        refine lv_aload_n hx hb dX8_forget_53 rfl (lv_at hl 0 rfl) ?_
        refine g_get (ref := "MigrantHeapModel") (C := RX8) (T := TX8) (N := 44) (ci := 8) K in_X8_forget_X8 hw 0 rfl (by decide : 0 < 1) rfl rfl 17 (by decide) (List.mem_of_getElem? (i := 4) rfl) rfl rfl dX8_forget_54 ?_
        refine lv_bipush (v := 6) hx hb dX8_forget_57 (by decide) ?_
        refine lv_iload_n hx hb dX8_forget_59 rfl (lv_at hl 2 rfl) ?_
        refine lv_imul hx hb dX8_forget_60 ?_
        refine lv_iload_n hx hb dX8_forget_61 rfl (lv_at hl 3 rfl) ?_
        refine lv_iadd hx hb dX8_forget_62 ?_
        obtain ⟨h49, hm⟩ := chkS hm
        refine g_iald K hw 16 0 rfl (by decide) rfl rfl h49 dX8_forget_63 ?_
        refine lv_iload_n hx hb dX8_forget_64 rfl (lv_at hl 1 rfl) ?_
        refine lv_icmp_ne (tgt := 72) hx hb dX8_forget_65 (by decide) (fun c50 => ?_) (fun c50 => ?_)
        · replace hm := (if_pos c50).symm.trans hm
          exact t_X8_forget_J72 K n x.1 x1 x2 x.2 hm hg hE0 H locs hw ls (lv_sub hl [0, 1, 2, 3] rfl)
        · replace hm := (if_neg (fun h => h c50)).symm.trans hm
          refine lv_iconst (v := 1) hx hb dX8_forget_68 (by decide) ?_
          refine lv_goto (tgt := 73) hx hb dX8_forget_69 (by decide) ?_
          exact t_X8_forget_J73 K n x.1 x1 x2 x.2 1 hm hg hE0 H locs hw ls (lv_sub hl [0, 1, 2, 3] rfl)
set_option maxRecDepth 100000 in
set_option maxHeartbeats 4000000 in
theorem t_X8_forget_L2 (K : Cx p s m args meth c D A (tysC cy) RX8 cX8_forget 5 none wsX8_forget (fun _ _ => True)) (n : Nat) (x1 : Int32)  (z : MSt) (hE0 : ∀ w : MSt, z = w → ∀ (H : Heap) (locs : List Loc), Wd D A s.heap (GM cy ad w) H locs → ∀ ls : Array Slot, lv_has ls 5 [] → W p l e rm_X8_forget s m args below meth c H locs 0 0 Q (F0 m 118 ls [])) : ∀ (x : (MSt × Int32)), lpO (b_X8_forget_2 n x1) n x = some z → (fun (x : (MSt × Int32)) => ∀ (H : Heap) (locs : List Loc), Wd D A s.heap (GM cy ad x.1) H locs → ∀ ls : Array Slot, lv_has ls 5 [(0, .ref (ad 0 0)), (1, .int x1), (2, .int x.2)] → W p l e rm_X8_forget s m args below meth c H locs 0 0 Q (F0 m 2 ls [])) x := by
  intro x hx0
  refine lpO_ind2 (P := fun (x : (MSt × Int32)) => ∀ (H : Heap) (locs : List Loc), Wd D A s.heap (GM cy ad x.1) H locs → ∀ ls : Array Slot, lv_has ls 5 [(0, .ref (ad 0 0)), (1, .int x1), (2, .int x.2)] → W p l e rm_X8_forget s m args below meth c H locs 0 0 Q (F0 m 2 ls [])) (z := z) ?_ n x hx0
  clear hx0 x
  intro x out hm hg H locs hw ls hl 
  obtain ⟨hx, hb, hml, hown, hts, hr, hlo, hK, hA, hX⟩ := id K
  unfold b_X8_forget_2 at hm
  refine lv_iload_n hx hb dX8_forget_2 rfl (lv_at hl 2 rfl) ?_
  refine lv_bipush (v := 24) hx hb dX8_forget_3 (by decide) ?_
  refine lv_icmp_ge (tgt := 118) hx hb dX8_forget_5 (by decide) (fun c51 => ?_) (fun c51 => ?_)
  · replace hm := (if_pos c51).symm.trans hm
    obtain rfl := Option.some.inj hm
    exact hE0 _ hg.symm H locs hw ls (lv_sub hl [] rfl)
  · replace hm := (if_neg c51).symm.trans hm
    refine lv_iconst (v := 0) hx hb dX8_forget_8 (by decide) ?_
    refine lv_istore_n (lv' := [(3, .int 0), (0, .ref (ad 0 0)), (1, .int x1), (2, .int x.2)]) hx hb dX8_forget_9 rfl hl (by decide) rfl (fun ls hl => ?_)
    obtain ⟨z52, hz53, hm⟩ := bindS hm
    refine t_X8_forget_L10 K n x1 x.2 z52 (fun w54 hww54 => ?_) ((x.1, 0)) hz53 H locs hw ls (lv_sub hl [1, 2, 3, 0] rfl)
    · intro H locs hw ls hl 
      try rw [hww54] at hm
      obtain ⟨x55, hx55, hm⟩ := nm_ex hm
      refine lv_iinc (v := x55) (lv' := [(2, .int x55), (0, .ref (ad 0 0)), (1, .int x1)]) hx hb dX8_forget_112 hl (k := 2) rfl (by rw [hx55]; rfl) (by decide) rfl (fun ls hl => ?_)
      refine lv_goto (tgt := 2) hx hb dX8_forget_115 (by decide) ?_
      obtain rfl := Option.some.inj hm
      exact hg H locs hw ls (lv_sub hl [1, 2, 0] rfl)
set_option maxRecDepth 100000 in
set_option maxHeartbeats 4000000 in
theorem t_X8_forget_0 (K : Cx p s m args meth c D A (tysC cy) RX8 cX8_forget 5 none wsX8_forget (fun _ _ => True)) (n : Nat) (S : MSt) (x1 : Int32)  {out : MSt} (hm : m_X8_forget n S x1 = some out) : ∀ (H : Heap) (locs : List Loc), Wd D A s.heap (GM cy ad S) H locs → ∀ ls : Array Slot, lv_has ls 5 [(0, .ref (ad 0 0)), (1, .int x1)] → W p l e rm_X8_forget s m args below meth c H locs 0 0 (MQ below (va_Qv (fun (u : MSt) => out = u) (fun u => Pst D (tysC cy) A (GM cy ad u)) A) args s 0 0 A) (F0 m 0 ls []) := by
  intro H locs hw ls hl
  obtain ⟨hx, hb, hml, hown, hts, hr, hlo, hK, hA, hX⟩ := id K
  unfold m_X8_forget at hm
  refine lv_iconst (v := 0) hx hb dX8_forget_0 (by decide) ?_
  refine lv_istore_n (lv' := [(2, .int 0), (0, .ref (ad 0 0)), (1, .int x1)]) hx hb dX8_forget_1 rfl hl (by decide) rfl (fun ls hl => ?_)
  obtain ⟨z56, hz57, hm⟩ := bindS hm
  refine t_X8_forget_L2 K n x1 z56 (fun w58 hww58 => ?_) ((S, 0)) hz57 H locs hw ls (lv_sub hl [1, 2, 0] rfl)
  · intro H locs hw ls hl 
    try rw [hww58] at hm
    exact g_vret (GG := GM cy ad) K hw (Option.some.inj hm).symm dX8_forget_118
set_option maxRecDepth 100000 in
set_option maxHeartbeats 4000000 in
theorem c_X8_forget (l : Launch) (D : va_G) (cy : Nat → ClassId) (ad : Nat → Nat → Nat) (sz n : Nat) (S : MSt) (x1 : Int32)  {out : MSt} (hm : m_X8_forget n S x1 = some out) : Met l yX8_forget wsX8_forget rm_X8_forget (va_Pc [.ref (ad 0 0), .int x1] (Pre D (tysC cy) (GM cy ad S) (fun _ _ => True) sz)) (va_Qv (fun (u : MSt) => out = u) (fun u => Pst D (tysC cy) (AA (adrs (GM cy ad S)) sz) (GM cy ad u)) (AA (adrs (GM cy ad S)) sz)) 0 0 (AA (adrs (GM cy ad S)) sz) := by
  refine g_met (by decide) rfl (Nat.le_of_ble_eq_true rfl) ?_
  intro p e s m args below meth c K hw ls hl
  exact t_X8_forget_0 (cy := cy) K n S x1  hm _ _ hw ls hl
end W_X8_forget
section W_X8_collect
variable {p : Program} {l : Launch} {e : Env} {s : State} {m : MethodId} {args : Array Value} {below : List Frame} {meth : Method} {c : Code} {D : va_G} {A : Nat → Prop} {cy : Nat → ClassId} {ad : Nat → Nat → Nat} {Q : State → Prop}
abbrev rm_X8_collect : Room := { frames := 1, cells := 0, slots := 0, locals := 24 }
theorem in_X8_collect_X8 : ∀ w ∈ u_ws RX8 TX8 44, w ∈ wsX8_collect := by decide +kernel
set_option maxRecDepth 100000 in
set_option maxHeartbeats 4000000 in
theorem t_X8_collect_L69 (K : Cx p s m args meth c D A (tysC cy) RX8 cX8_collect 3 (some .int) wsX8_collect (fun _ _ => True)) (n : Nat)   (z : (MSt × Int32)) (hE0 : ∀ w : (MSt × Int32), z = w → ∀ (H : Heap) (locs : List Loc), Wd D A s.heap (GM cy ad w.1) H locs → ∀ ls : Array Slot, lv_has ls 3 [(1, .int w.2)] → W p l e rm_X8_collect s m args below meth c H locs 0 0 Q (F0 m 114 ls [])) : ∀ (x : (MSt × Int32 × Int32)), lpO (b_X8_collect_69 n ) n x = some z → (fun (x : (MSt × Int32 × Int32)) => ∀ (H : Heap) (locs : List Loc), Wd D A s.heap (GM cy ad x.1) H locs → ∀ ls : Array Slot, lv_has ls 3 [(0, .ref (ad 0 0)), (1, .int x.2.1), (2, .int x.2.2)] → W p l e rm_X8_collect s m args below meth c H locs 0 0 Q (F0 m 69 ls [])) x := by
  intro x hx0
  refine lpO_ind2 (P := fun (x : (MSt × Int32 × Int32)) => ∀ (H : Heap) (locs : List Loc), Wd D A s.heap (GM cy ad x.1) H locs → ∀ ls : Array Slot, lv_has ls 3 [(0, .ref (ad 0 0)), (1, .int x.2.1), (2, .int x.2.2)] → W p l e rm_X8_collect s m args below meth c H locs 0 0 Q (F0 m 69 ls [])) (z := z) ?_ n x hx0
  clear hx0 x
  intro x out hm hg H locs hw ls hl 
  obtain ⟨hx, hb, hml, hown, hts, hr, hlo, hK, hA, hX⟩ := id K
  unfold b_X8_collect_69 at hm
  refine lv_iload_n hx hb dX8_collect_69 rfl (lv_at hl 2 rfl) ?_
  refine lv_bipush (v := 24) hx hb dX8_collect_70 (by decide) ?_
  refine lv_icmp_ge (tgt := 114) hx hb dX8_collect_72 (by decide) (fun c64 => ?_) (fun c64 => ?_)
  · replace hm := (if_pos c64).symm.trans hm
    obtain rfl := Option.some.inj hm
    exact hE0 _ hg.symm H locs hw ls (lv_sub hl [1] rfl)
  · replace hm := (if_neg c64).symm.trans hm
    refine lv_aload_n hx hb dX8_collect_75 rfl (lv_at hl 0 rfl) ?_
    refine g_get (ref := "MigrantHeapModel") (C := RX8) (T := TX8) (N := 44) (ci := 8) K in_X8_collect_X8 hw 0 rfl (by decide : 0 < 1) rfl rfl 14 (by decide) (List.mem_of_getElem? (i := 4) rfl) rfl rfl dX8_collect_76 ?_
    refine lv_iload_n hx hb dX8_collect_79 rfl (lv_at hl 2 rfl) ?_
    obtain ⟨h65, hm⟩ := chkS hm
    refine g_iald K hw 13 0 rfl (by decide) rfl rfl h65 dX8_collect_80 ?_
    refine lv_if_lt (tgt := 108) hx hb dX8_collect_81 (by decide) (fun c66 => ?_) (fun c66 => ?_)
    · replace hm := (if_pos c66).symm.trans hm
      obtain ⟨x67, hx67, hm⟩ := nm_ex hm
      refine lv_iinc (v := x67) (lv' := [(2, .int x67), (0, .ref (ad 0 0)), (1, .int x.2.1)]) hx hb dX8_collect_108 hl (k := 2) rfl (by rw [hx67]; rfl) (by decide) rfl (fun ls hl => ?_)
      refine lv_goto (tgt := 69) hx hb dX8_collect_111 (by decide) ?_
      obtain rfl := Option.some.inj hm
      exact hg H locs hw ls (lv_sub hl [1, 2, 0] rfl)
    · replace hm := (if_neg c66).symm.trans hm
      refine lv_aload_n hx hb dX8_collect_84 rfl (lv_at hl 0 rfl) ?_
      refine g_get (ref := "MigrantHeapModel") (C := RX8) (T := TX8) (N := 44) (ci := 8) K in_X8_collect_X8 hw 0 rfl (by decide : 0 < 1) rfl rfl 18 (by decide) (List.mem_of_getElem? (i := 2) rfl) rfl rfl dX8_collect_85 ?_
      refine lv_iload_n hx hb dX8_collect_88 rfl (lv_at hl 2 rfl) ?_
      obtain ⟨h68, hm⟩ := chkS hm
      refine g_zald K hw 17 2 rfl (by decide) rfl rfl h68 dX8_collect_89 ?_
      refine lv_if_ne (tgt := 108) hx hb dX8_collect_90 (by decide) (fun c69 => ?_) (fun c69 => ?_)
      · replace hm := (if_pos c69).symm.trans hm
        obtain ⟨x70, hx70, hm⟩ := nm_ex hm
        refine lv_iinc (v := x70) (lv' := [(2, .int x70), (0, .ref (ad 0 0)), (1, .int x.2.1)]) hx hb dX8_collect_108 hl (k := 2) rfl (by rw [hx70]; rfl) (by decide) rfl (fun ls hl => ?_)
        refine lv_goto (tgt := 69) hx hb dX8_collect_111 (by decide) ?_
        obtain rfl := Option.some.inj hm
        exact hg H locs hw ls (lv_sub hl [1, 2, 0] rfl)
      · replace hm := (if_neg (fun h => h c69)).symm.trans hm
        refine lv_aload_n hx hb dX8_collect_93 rfl (lv_at hl 0 rfl) ?_
        refine g_get (ref := "MigrantHeapModel") (C := RX8) (T := TX8) (N := 44) (ci := 8) K in_X8_collect_X8 hw 0 rfl (by decide : 0 < 1) rfl rfl 14 (by decide) (List.mem_of_getElem? (i := 4) rfl) rfl rfl dX8_collect_94 ?_
        refine lv_iload_n hx hb dX8_collect_97 rfl (lv_at hl 2 rfl) ?_
        refine lv_iconst (v := (-1)) hx hb dX8_collect_98 (by decide) ?_
        obtain ⟨h71, hm⟩ := chkS hm
        refine g_iast K hw 13 0 rfl (by decide) rfl rfl h71 dX8_collect_99 (eM_14 cy ad x.1 x.2.2.toNatClampNeg (-1)) (fun H locs hw => ?_)
        obtain ⟨S72, hS72, hm⟩ := nm_ex hm
        rw [← hS72] at hw
        refine lv_aload_n hx hb dX8_collect_100 rfl (lv_at hl 0 rfl) ?_
        refine lv_iload_n hx hb dX8_collect_101 rfl (lv_at hl 2 rfl) ?_
        obtain ⟨z74, hc73, hm⟩ := bindS hm
        refine g_callv (GG := GM cy ad) K hw (va_runV (As := [.int x.2.2]) (rest := []) (g_fix K) (c_X8_forget l D cy ad H.size n S72 x.2.2  hc73) (cwV 1 (g_hts K) gX8_collect_X8_forget rfl rfl rfl (by decide +kernel) ⟨Nat.le_of_ble_eq_true rfl, Nat.le_of_ble_eq_true rfl⟩) ⟨g_blind rides_none, g_recv K hw 0 rfl (by decide : 0 < 1) rfl rfl, g_pre (X2 := fun _ _ => True) K hw (fun _ _ _ => trivial)⟩ rfl rfl hl.1 rfl (lv_room (Nat.le_of_ble_eq_true rfl)) dX8_collect_102 ⟨Nat.le_of_ble_eq_true rfl, Nat.le_of_ble_eq_true rfl⟩) (fun u H locs hp hw => ?_)
        obtain rfl := hp
        obtain ⟨x75, hx75, hm⟩ := nm_ex hm
        refine lv_iinc (v := x75) (lv' := [(1, .int x75), (0, .ref (ad 0 0)), (2, .int x.2.2)]) hx hb dX8_collect_105 hl (k := 1) rfl (by rw [hx75]; rfl) (by decide) rfl (fun ls hl => ?_)
        obtain ⟨x76, hx76, hm⟩ := nm_ex hm
        refine lv_iinc (v := x76) (lv' := [(2, .int x76), (1, .int x75), (0, .ref (ad 0 0))]) hx hb dX8_collect_108 hl (k := 2) rfl (by rw [hx76]; rfl) (by decide) rfl (fun ls hl => ?_)
        refine lv_goto (tgt := 69) hx hb dX8_collect_111 (by decide) ?_
        obtain rfl := Option.some.inj hm
        exact hg H locs hw ls (lv_sub hl [2, 1, 0] rfl)
set_option maxRecDepth 100000 in
set_option maxHeartbeats 4000000 in
theorem t_X8_collect_L28 (K : Cx p s m args meth c D A (tysC cy) RX8 cX8_collect 3 (some .int) wsX8_collect (fun _ _ => True)) (n : Nat)   (z : MSt) (hE0 : ∀ w : MSt, z = w → ∀ (H : Heap) (locs : List Loc), Wd D A s.heap (GM cy ad w) H locs → ∀ ls : Array Slot, lv_has ls 3 [(0, .ref (ad 0 0))] → W p l e rm_X8_collect s m args below meth c H locs 0 0 Q (F0 m 61 ls [])) : ∀ (x : (MSt × Int32)), lpO (b_X8_collect_28 n ) n x = some z → (fun (x : (MSt × Int32)) => ∀ (H : Heap) (locs : List Loc), Wd D A s.heap (GM cy ad x.1) H locs → ∀ ls : Array Slot, lv_has ls 3 [(0, .ref (ad 0 0)), (1, .int x.2)] → W p l e rm_X8_collect s m args below meth c H locs 0 0 Q (F0 m 28 ls [])) x := by
  intro x hx0
  refine lpO_ind2 (P := fun (x : (MSt × Int32)) => ∀ (H : Heap) (locs : List Loc), Wd D A s.heap (GM cy ad x.1) H locs → ∀ ls : Array Slot, lv_has ls 3 [(0, .ref (ad 0 0)), (1, .int x.2)] → W p l e rm_X8_collect s m args below meth c H locs 0 0 Q (F0 m 28 ls [])) (z := z) ?_ n x hx0
  clear hx0 x
  intro x out hm hg H locs hw ls hl 
  obtain ⟨hx, hb, hml, hown, hts, hr, hlo, hK, hA, hX⟩ := id K
  unfold b_X8_collect_28 at hm
  refine lv_iload_n hx hb dX8_collect_28 rfl (lv_at hl 1 rfl) ?_
  refine lv_bipush (v := 8) hx hb dX8_collect_29 (by decide) ?_
  refine lv_icmp_ge (tgt := 61) hx hb dX8_collect_31 (by decide) (fun c77 => ?_) (fun c77 => ?_)
  · replace hm := (if_pos c77).symm.trans hm
    obtain rfl := Option.some.inj hm
    exact hE0 _ hg.symm H locs hw ls (lv_sub hl [0] rfl)
  · replace hm := (if_neg c77).symm.trans hm
    refine lv_aload_n hx hb dX8_collect_34 rfl (lv_at hl 0 rfl) ?_
    refine g_get (ref := "MigrantHeapModel") (C := RX8) (T := TX8) (N := 44) (ci := 8) K in_X8_collect_X8 hw 0 rfl (by decide : 0 < 1) rfl rfl 19 (by decide) (List.mem_of_getElem? (i := 3) rfl) rfl rfl dX8_collect_35 ?_
    refine lv_iload_n hx hb dX8_collect_38 rfl (lv_at hl 1 rfl) ?_
    obtain ⟨h78, hm⟩ := chkS hm
    refine g_iald K hw 18 0 rfl (by decide) rfl rfl h78 dX8_collect_39 ?_
    refine lv_if_lt (tgt := 55) hx hb dX8_collect_40 (by decide) (fun c79 => ?_) (fun c79 => ?_)
    · replace hm := (if_pos c79).symm.trans hm
      obtain ⟨x80, hx80, hm⟩ := nm_ex hm
      refine lv_iinc (v := x80) (lv' := [(1, .int x80), (0, .ref (ad 0 0))]) hx hb dX8_collect_55 hl (k := 1) rfl (by rw [hx80]; rfl) (by decide) rfl (fun ls hl => ?_)
      refine lv_goto (tgt := 28) hx hb dX8_collect_58 (by decide) ?_
      obtain rfl := Option.some.inj hm
      exact hg H locs hw ls (lv_sub hl [1, 0] rfl)
    · replace hm := (if_neg c79).symm.trans hm
      refine lv_aload_n hx hb dX8_collect_43 rfl (lv_at hl 0 rfl) ?_
      refine g_get (ref := "MigrantHeapModel") (C := RX8) (T := TX8) (N := 44) (ci := 8) K in_X8_collect_X8 hw 0 rfl (by decide : 0 < 1) rfl rfl 18 (by decide) (List.mem_of_getElem? (i := 2) rfl) rfl rfl dX8_collect_44 ?_
      refine lv_aload_n hx hb dX8_collect_47 rfl (lv_at hl 0 rfl) ?_
      refine g_get (ref := "MigrantHeapModel") (C := RX8) (T := TX8) (N := 44) (ci := 8) K in_X8_collect_X8 hw 0 rfl (by decide : 0 < 1) rfl rfl 19 (by decide) (List.mem_of_getElem? (i := 3) rfl) rfl rfl dX8_collect_48 ?_
      refine lv_iload_n hx hb dX8_collect_51 rfl (lv_at hl 1 rfl) ?_
      obtain ⟨h81, hm⟩ := chkS hm
      refine g_iald K hw 18 0 rfl (by decide) rfl rfl h81 dX8_collect_52 ?_
      refine lv_iconst (v := 1) hx hb dX8_collect_53 (by decide) ?_
      obtain ⟨h82, hm⟩ := chkS hm
      refine g_zast K hw 17 2 rfl (by decide) rfl rfl h82 rfl dX8_collect_54 (eM_18 cy ad x.1 ((x.1.1 19 x.2.toNatClampNeg).toNatClampNeg) 1) (fun H locs hw => ?_)
      obtain ⟨S83, hS83, hm⟩ := nm_ex hm
      rw [← hS83] at hw
      obtain ⟨x84, hx84, hm⟩ := nm_ex hm
      refine lv_iinc (v := x84) (lv' := [(1, .int x84), (0, .ref (ad 0 0))]) hx hb dX8_collect_55 hl (k := 1) rfl (by rw [hx84]; rfl) (by decide) rfl (fun ls hl => ?_)
      refine lv_goto (tgt := 28) hx hb dX8_collect_58 (by decide) ?_
      obtain rfl := Option.some.inj hm
      exact hg H locs hw ls (lv_sub hl [1, 0] rfl)
set_option maxRecDepth 100000 in
set_option maxHeartbeats 4000000 in
theorem t_X8_collect_L7 (K : Cx p s m args meth c D A (tysC cy) RX8 cX8_collect 3 (some .int) wsX8_collect (fun _ _ => True)) (n : Nat)   (z : MSt) (hE0 : ∀ w : MSt, z = w → ∀ (H : Heap) (locs : List Loc), Wd D A s.heap (GM cy ad w) H locs → ∀ ls : Array Slot, lv_has ls 3 [(0, .ref (ad 0 0))] → W p l e rm_X8_collect s m args below meth c H locs 0 0 Q (F0 m 26 ls [])) : ∀ (x : (MSt × Int32)), lpO (b_X8_collect_7 n ) n x = some z → (fun (x : (MSt × Int32)) => ∀ (H : Heap) (locs : List Loc), Wd D A s.heap (GM cy ad x.1) H locs → ∀ ls : Array Slot, lv_has ls 3 [(0, .ref (ad 0 0)), (1, .int x.2)] → W p l e rm_X8_collect s m args below meth c H locs 0 0 Q (F0 m 7 ls [])) x := by
  intro x hx0
  refine lpO_ind2 (P := fun (x : (MSt × Int32)) => ∀ (H : Heap) (locs : List Loc), Wd D A s.heap (GM cy ad x.1) H locs → ∀ ls : Array Slot, lv_has ls 3 [(0, .ref (ad 0 0)), (1, .int x.2)] → W p l e rm_X8_collect s m args below meth c H locs 0 0 Q (F0 m 7 ls [])) (z := z) ?_ n x hx0
  clear hx0 x
  intro x out hm hg H locs hw ls hl 
  obtain ⟨hx, hb, hml, hown, hts, hr, hlo, hK, hA, hX⟩ := id K
  unfold b_X8_collect_7 at hm
  refine lv_iload_n hx hb dX8_collect_7 rfl (lv_at hl 1 rfl) ?_
  refine lv_bipush (v := 24) hx hb dX8_collect_8 (by decide) ?_
  refine lv_icmp_ge (tgt := 26) hx hb dX8_collect_10 (by decide) (fun c85 => ?_) (fun c85 => ?_)
  · replace hm := (if_pos c85).symm.trans hm
    obtain rfl := Option.some.inj hm
    exact hE0 _ hg.symm H locs hw ls (lv_sub hl [0] rfl)
  · replace hm := (if_neg c85).symm.trans hm
    refine lv_aload_n hx hb dX8_collect_13 rfl (lv_at hl 0 rfl) ?_
    refine g_get (ref := "MigrantHeapModel") (C := RX8) (T := TX8) (N := 44) (ci := 8) K in_X8_collect_X8 hw 0 rfl (by decide : 0 < 1) rfl rfl 18 (by decide) (List.mem_of_getElem? (i := 2) rfl) rfl rfl dX8_collect_14 ?_
    refine lv_iload_n hx hb dX8_collect_17 rfl (lv_at hl 1 rfl) ?_
    refine lv_iconst (v := 0) hx hb dX8_collect_18 (by decide) ?_
    obtain ⟨h86, hm⟩ := chkS hm
    refine g_zast K hw 17 2 rfl (by decide) rfl rfl h86 rfl dX8_collect_19 (eM_18 cy ad x.1 x.2.toNatClampNeg 0) (fun H locs hw => ?_)
    obtain ⟨S87, hS87, hm⟩ := nm_ex hm
    rw [← hS87] at hw
    obtain ⟨x88, hx88, hm⟩ := nm_ex hm
    refine lv_iinc (v := x88) (lv' := [(1, .int x88), (0, .ref (ad 0 0))]) hx hb dX8_collect_20 hl (k := 1) rfl (by rw [hx88]; rfl) (by decide) rfl (fun ls hl => ?_)
    refine lv_goto (tgt := 7) hx hb dX8_collect_23 (by decide) ?_
    obtain rfl := Option.some.inj hm
    exact hg H locs hw ls (lv_sub hl [1, 0] rfl)
set_option maxRecDepth 100000 in
set_option maxHeartbeats 4000000 in
theorem t_X8_collect_0 (K : Cx p s m args meth c D A (tysC cy) RX8 cX8_collect 3 (some .int) wsX8_collect (fun _ _ => True)) (n : Nat) (S : MSt)   {out : Int32 × MSt} (hm : m_X8_collect n S  = some out) : ∀ (H : Heap) (locs : List Loc), Wd D A s.heap (GM cy ad S) H locs → ∀ ls : Array Slot, lv_has ls 3 [(0, .ref (ad 0 0))] → W p l e rm_X8_collect s m args below meth c H locs 0 0 (MQ below (va_Qi (fun r (u : MSt) => out = (r, u)) (fun u => Pst D (tysC cy) A (GM cy ad u)) A) args s 0 0 A) (F0 m 0 ls []) := by
  intro H locs hw ls hl
  obtain ⟨hx, hb, hml, hown, hts, hr, hlo, hK, hA, hX⟩ := id K
  unfold m_X8_collect at hm
  refine lv_aload_n hx hb dX8_collect_0 rfl (lv_at hl 0 rfl) ?_
  refine lv_iconst (v := 0) hx hb dX8_collect_1 (by decide) ?_
  refine g_put (v := .int 0) (ty := .int) (ref := "MigrantHeapModel") (C := RX8) (T := TX8) (N := 44) (ci := 8) K in_X8_collect_X8 tyX8 tyX8_ok nmX8 hw 0 rfl (by decide : 0 < 1) rfl rfl 0 (by decide) (List.mem_of_getElem? (i := 1) rfl) rfl rfl (by decide +kernel) rfl rfl (Nat.le_of_ble_eq_true rfl) dX8_collect_2 (eM_0 cy ad S 0) (fun H locs hw => ?_)
  obtain ⟨S89, hS89, hm⟩ := nm_ex hm
  rw [← hS89] at hw
  refine lv_iconst (v := 0) hx hb dX8_collect_5 (by decide) ?_
  refine lv_istore_n (lv' := [(1, .int 0), (0, .ref (ad 0 0))]) hx hb dX8_collect_6 rfl hl (by decide) rfl (fun ls hl => ?_)
  obtain ⟨z90, hz91, hm⟩ := bindS hm
  refine t_X8_collect_L7 K n  z90 (fun w92 hww92 => ?_) ((S89, 0)) hz91 H locs hw ls (lv_sub hl [1, 0] rfl)
  · intro H locs hw ls hl 
    try rw [hww92] at hm
    refine lv_iconst (v := 0) hx hb dX8_collect_26 (by decide) ?_
    refine lv_istore_n (lv' := [(1, .int 0), (0, .ref (ad 0 0))]) hx hb dX8_collect_27 rfl hl (by decide) rfl (fun ls hl => ?_)
    obtain ⟨z93, hz94, hm⟩ := bindS hm
    refine t_X8_collect_L28 K n  z93 (fun w95 hww95 => ?_) ((w92, 0)) hz94 H locs hw ls (lv_sub hl [1, 0] rfl)
    · intro H locs hw ls hl 
      try rw [hww95] at hm
      refine lv_aload_n hx hb dX8_collect_61 rfl (lv_at hl 0 rfl) ?_
      obtain ⟨z97, hc96, hm⟩ := bindS hm
      refine g_callv (GG := GM cy ad) K hw (va_runV (As := []) (rest := []) (g_fix K) (c_X8_spread l D cy ad H.size n w95   hc96) (cwV 0 (g_hts K) gX8_collect_X8_spread rfl rfl rfl (by decide +kernel) ⟨Nat.le_of_ble_eq_true rfl, Nat.le_of_ble_eq_true rfl⟩) ⟨g_blind rides_none, g_recv K hw 0 rfl (by decide : 0 < 1) rfl rfl, g_pre (X2 := fun _ _ => True) K hw (fun _ _ _ => trivial)⟩ rfl rfl hl.1 rfl (lv_room (Nat.le_of_ble_eq_true rfl)) dX8_collect_62 ⟨Nat.le_of_ble_eq_true rfl, Nat.le_of_ble_eq_true rfl⟩) (fun u H locs hp hw => ?_)
      obtain rfl := hp
      refine lv_iconst (v := 0) hx hb dX8_collect_65 (by decide) ?_
      refine lv_istore_n (lv' := [(1, .int 0), (0, .ref (ad 0 0))]) hx hb dX8_collect_66 rfl hl (by decide) rfl (fun ls hl => ?_)
      refine lv_iconst (v := 0) hx hb dX8_collect_67 (by decide) ?_
      refine lv_istore_n (lv' := [(2, .int 0), (1, .int 0), (0, .ref (ad 0 0))]) hx hb dX8_collect_68 rfl hl (by decide) rfl (fun ls hl => ?_)
      obtain ⟨z98, hz99, hm⟩ := bindS hm
      refine t_X8_collect_L69 K n  z98 (fun w100 hww100 => ?_) ((z97, 0, 0)) hz99 H locs hw ls (lv_sub hl [2, 1, 0] rfl)
      · intro H locs hw ls hl 
        try rw [hww100] at hm
        refine lv_iload_n hx hb dX8_collect_114 rfl (lv_at hl 0 rfl) ?_
        exact g_iret (GG := GM cy ad) K hw (Option.some.inj hm).symm dX8_collect_115
set_option maxRecDepth 100000 in
set_option maxHeartbeats 4000000 in
theorem c_X8_collect (l : Launch) (D : va_G) (cy : Nat → ClassId) (ad : Nat → Nat → Nat) (sz n : Nat) (S : MSt)   {out : Int32 × MSt} (hm : m_X8_collect n S  = some out) : Met l yX8_collect wsX8_collect rm_X8_collect (va_Pc [.ref (ad 0 0)] (Pre D (tysC cy) (GM cy ad S) (fun _ _ => True) sz)) (va_Qi (fun r (u : MSt) => out = (r, u)) (fun u => Pst D (tysC cy) (AA (adrs (GM cy ad S)) sz) (GM cy ad u)) (AA (adrs (GM cy ad S)) sz)) 0 0 (AA (adrs (GM cy ad S)) sz) := by
  refine g_met (by decide) rfl (Nat.le_of_ble_eq_true rfl) ?_
  intro p e s m args below meth c K hw ls hl
  exact t_X8_collect_0 (cy := cy) K n S   hm _ _ hw ls hl
end W_X8_collect
section W_X8_about
variable {p : Program} {l : Launch} {e : Env} {s : State} {m : MethodId} {args : Array Value} {below : List Frame} {meth : Method} {c : Code} {D : va_G} {A : Nat → Prop} {cy : Nat → ClassId} {ad : Nat → Nat → Nat} {Q : State → Prop}
abbrev rm_X8_about : Room := { frames := 1, cells := 0, slots := 0, locals := 23 }
theorem in_X8_about_X8 : ∀ w ∈ u_ws RX8 TX8 44, w ∈ wsX8_about := by decide +kernel
set_option maxRecDepth 100000 in
set_option maxHeartbeats 4000000 in
theorem t_X8_about_J23 (K : Cx p s m args meth c D A (tysC cy) RX8 cX8_about 3 (some .int) wsX8_about (fun _ _ => True)) (n : Nat) (S : MSt) (x1 : Int32) (x2 : Int32) (y1 : Int32) {out : Int32 × MSt} (hm : m_X8_about_J23 n S x1 x2 y1 = some out) : ∀ (H : Heap) (locs : List Loc), Wd D A s.heap (GM cy ad S) H locs → ∀ ls : Array Slot, lv_has ls 3 [(0, .ref (ad 0 0)), (1, .int x1), (2, .int x2)] → W p l e rm_X8_about s m args below meth c H locs 0 0 (MQ below (va_Qi (fun r (u : MSt) => out = (r, u)) (fun u => Pst D (tysC cy) A (GM cy ad u)) A) args s 0 0 A) (F0 m 23 ls [.int y1, .ref (ad 0 0)]) := by
  intro H locs hw ls hl 
  obtain ⟨hx, hb, hml, hown, hts, hr, hlo, hK, hA, hX⟩ := id K
  unfold m_X8_about_J23 at hm
  refine g_put (v := .int y1) (ty := .int) (ref := "MigrantHeapModel") (C := RX8) (T := TX8) (N := 44) (ci := 8) K in_X8_about_X8 tyX8 tyX8_ok nmX8 hw 0 rfl (by decide : 0 < 1) rfl rfl 0 (by decide) (List.mem_of_getElem? (i := 1) rfl) rfl rfl (by decide +kernel) rfl rfl (Nat.le_of_ble_eq_true rfl) dX8_about_23 (eM_0 cy ad S y1) (fun H locs hw => ?_)
  obtain ⟨S28, hS28, hm⟩ := nm_ex hm
  rw [← hS28] at hw
  refine lv_aload_n hx hb dX8_about_26 rfl (lv_at hl 0 rfl) ?_
  refine g_get (ref := "MigrantHeapModel") (C := RX8) (T := TX8) (N := 44) (ci := 8) K in_X8_about_X8 hw 0 rfl (by decide : 0 < 1) rfl rfl 0 (by decide) (List.mem_of_getElem? (i := 1) rfl) rfl rfl dX8_about_27 ?_
  refine lv_if_le (tgt := 35) hx hb dX8_about_30 (by decide) (fun c29 => ?_) (fun c29 => ?_)
  · replace hm := (if_pos c29).symm.trans hm
    refine lv_iload_n hx hb dX8_about_35 rfl (lv_at hl 2 rfl) ?_
    refine lv_if_ne (tgt := 48) hx hb dX8_about_36 (by decide) (fun c30 => ?_) (fun c30 => ?_)
    · replace hm := (if_pos c30).symm.trans hm
      refine lv_iload_n hx hb dX8_about_48 rfl (lv_at hl 2 rfl) ?_
      refine lv_iconst (v := 1) hx hb dX8_about_49 (by decide) ?_
      refine lv_icmp_ne (tgt := 61) hx hb dX8_about_50 (by decide) (fun c31 => ?_) (fun c31 => ?_)
      · replace hm := (if_pos c31).symm.trans hm
        refine lv_iload_n hx hb dX8_about_61 rfl (lv_at hl 2 rfl) ?_
        refine lv_iconst (v := 2) hx hb dX8_about_62 (by decide) ?_
        refine lv_icmp_ne (tgt := 74) hx hb dX8_about_63 (by decide) (fun c32 => ?_) (fun c32 => ?_)
        · replace hm := (if_pos c32).symm.trans hm
          refine lv_aload_n hx hb dX8_about_74 rfl (lv_at hl 0 rfl) ?_
          refine g_get (ref := "MigrantHeapModel") (C := RX8) (T := TX8) (N := 44) (ci := 8) K in_X8_about_X8 hw 0 rfl (by decide : 0 < 1) rfl rfl 4 (by decide) (List.mem_of_getElem? (i := 3) rfl) rfl rfl dX8_about_75 ?_
          refine lv_iload_n hx hb dX8_about_78 rfl (lv_at hl 1 rfl) ?_
          obtain ⟨h33, hm⟩ := chkS hm
          refine g_iald K hw 3 0 rfl (by decide) rfl rfl h33 dX8_about_79 ?_
          exact g_iret (GG := GM cy ad) K hw (Option.some.inj hm).symm dX8_about_80
        · replace hm := (if_neg (fun h => h c32)).symm.trans hm
          refine lv_aload_n hx hb dX8_about_66 rfl (lv_at hl 0 rfl) ?_
          refine lv_iload_n hx hb dX8_about_67 rfl (lv_at hl 1 rfl) ?_
          obtain ⟨z35, hc34, hm⟩ := bindS hm
          refine g_calli (GG := GM cy ad) K hw (va_runV (As := [.int x1]) (rest := []) (g_fix K) (c_X8_behind l D cy ad H.size n S28 x1  hc34) (cwV 1 (g_hts K) gX8_about_X8_behind rfl rfl rfl (by decide +kernel) ⟨Nat.le_of_ble_eq_true rfl, Nat.le_of_ble_eq_true rfl⟩) ⟨g_blind rides_none, g_recv K hw 0 rfl (by decide : 0 < 1) rfl rfl, g_pre (X2 := fun _ _ => True) K hw (fun _ _ _ => trivial)⟩ rfl rfl hl.1 rfl (lv_room (Nat.le_of_ble_eq_true rfl)) dX8_about_68 ⟨Nat.le_of_ble_eq_true rfl, Nat.le_of_ble_eq_true rfl⟩) (fun r u H locs hp hw => ?_)
          obtain ⟨rfl, hu⟩ := hp
          rw [hu] at hw
          refine lv_goto (tgt := 80) hx hb dX8_about_71 (by decide) ?_
          exact g_iret (GG := GM cy ad) K hw (Option.some.inj hm).symm dX8_about_80
      · replace hm := (if_neg (fun h => h c31)).symm.trans hm
        refine lv_aload_n hx hb dX8_about_53 rfl (lv_at hl 0 rfl) ?_
        refine lv_iload_n hx hb dX8_about_54 rfl (lv_at hl 1 rfl) ?_
        obtain ⟨z37, hc36, hm⟩ := bindS hm
        refine g_calli (GG := GM cy ad) K hw (va_runV (As := [.int x1]) (rest := []) (g_fix K) (c_X8_records l D cy ad H.size n S28 x1  hc36) (cwV 1 (g_hts K) gX8_about_X8_records rfl rfl rfl (by decide +kernel) ⟨Nat.le_of_ble_eq_true rfl, Nat.le_of_ble_eq_true rfl⟩) ⟨g_blind rides_none, g_recv K hw 0 rfl (by decide : 0 < 1) rfl rfl, g_pre (X2 := fun _ _ => True) K hw (fun _ _ _ => trivial)⟩ rfl rfl hl.1 rfl (lv_room (Nat.le_of_ble_eq_true rfl)) dX8_about_55 ⟨Nat.le_of_ble_eq_true rfl, Nat.le_of_ble_eq_true rfl⟩) (fun r u H locs hp hw => ?_)
        obtain ⟨rfl, hu⟩ := hp
        rw [hu] at hw
        refine lv_goto (tgt := 80) hx hb dX8_about_58 (by decide) ?_
        exact g_iret (GG := GM cy ad) K hw (Option.some.inj hm).symm dX8_about_80
    · replace hm := (if_neg (fun h => h c30)).symm.trans hm
      refine lv_aload_n hx hb dX8_about_39 rfl (lv_at hl 0 rfl) ?_
      refine g_get (ref := "MigrantHeapModel") (C := RX8) (T := TX8) (N := 44) (ci := 8) K in_X8_about_X8 hw 0 rfl (by decide : 0 < 1) rfl rfl 2 (by decide) (List.mem_of_getElem? (i := 2) rfl) rfl rfl dX8_about_40 ?_
      refine lv_iload_n hx hb dX8_about_43 rfl (lv_at hl 1 rfl) ?_
      obtain ⟨h38, hm⟩ := chkS hm
      refine g_iald K hw 1 0 rfl (by decide) rfl rfl h38 dX8_about_44 ?_
      refine lv_goto (tgt := 80) hx hb dX8_about_45 (by decide) ?_
      exact g_iret (GG := GM cy ad) K hw (Option.some.inj hm).symm dX8_about_80
  · replace hm := (if_neg c29).symm.trans hm
    refine lv_iconst (v := 0) hx hb dX8_about_33 (by decide) ?_
    exact g_iret (GG := GM cy ad) K hw (Option.some.inj hm).symm dX8_about_34
set_option maxRecDepth 100000 in
set_option maxHeartbeats 4000000 in
theorem t_X8_about_J22 (K : Cx p s m args meth c D A (tysC cy) RX8 cX8_about 3 (some .int) wsX8_about (fun _ _ => True)) (n : Nat) (S : MSt) (x1 : Int32) (x2 : Int32) {out : Int32 × MSt} (hm : m_X8_about_J22 n S x1 x2 = some out) : ∀ (H : Heap) (locs : List Loc), Wd D A s.heap (GM cy ad S) H locs → ∀ ls : Array Slot, lv_has ls 3 [(0, .ref (ad 0 0)), (1, .int x1), (2, .int x2)] → W p l e rm_X8_about s m args below meth c H locs 0 0 (MQ below (va_Qi (fun r (u : MSt) => out = (r, u)) (fun u => Pst D (tysC cy) A (GM cy ad u)) A) args s 0 0 A) (F0 m 22 ls [.ref (ad 0 0)]) := by
  intro H locs hw ls hl 
  obtain ⟨hx, hb, hml, hown, hts, hr, hlo, hK, hA, hX⟩ := id K
  unfold m_X8_about_J22 at hm
  refine lv_iconst (v := 1) hx hb dX8_about_22 (by decide) ?_
  exact t_X8_about_J23 K n S x1 x2 1 hm H locs hw ls (lv_sub hl [0, 1, 2] rfl)
set_option maxRecDepth 100000 in
set_option maxHeartbeats 4000000 in
theorem t_X8_about_0 (K : Cx p s m args meth c D A (tysC cy) RX8 cX8_about 3 (some .int) wsX8_about (fun _ _ => True)) (n : Nat) (S : MSt) (x1 : Int32) (x2 : Int32)  {out : Int32 × MSt} (hm : m_X8_about n S x1 x2 = some out) : ∀ (H : Heap) (locs : List Loc), Wd D A s.heap (GM cy ad S) H locs → ∀ ls : Array Slot, lv_has ls 3 [(0, .ref (ad 0 0)), (1, .int x1), (2, .int x2)] → W p l e rm_X8_about s m args below meth c H locs 0 0 (MQ below (va_Qi (fun r (u : MSt) => out = (r, u)) (fun u => Pst D (tysC cy) A (GM cy ad u)) A) args s 0 0 A) (F0 m 0 ls []) := by
  intro H locs hw ls hl
  obtain ⟨hx, hb, hml, hown, hts, hr, hlo, hK, hA, hX⟩ := id K
  unfold m_X8_about at hm
  refine lv_aload_n hx hb dX8_about_0 rfl (lv_at hl 0 rfl) ?_
  refine lv_aload_n hx hb dX8_about_1 rfl (lv_at hl 0 rfl) ?_
  refine lv_iload_n hx hb dX8_about_2 rfl (lv_at hl 1 rfl) ?_
  obtain ⟨z40, hc39, hm⟩ := bindS hm
  refine g_calli (GG := GM cy ad) K hw (va_runV (As := [.int x1]) (rest := [.ref (ad 0 0)]) (g_fix K) (c_X8_isClass l D cy ad H.size n S x1  hc39) (cwV 1 (g_hts K) gX8_about_X8_isClass rfl rfl rfl (by decide +kernel) ⟨Nat.le_of_ble_eq_true rfl, Nat.le_of_ble_eq_true rfl⟩) ⟨g_blind rides_none, g_recv K hw 0 rfl (by decide : 0 < 1) rfl rfl, g_pre (X2 := fun _ _ => True) K hw (fun _ _ _ => trivial)⟩ rfl rfl hl.1 rfl (lv_room (Nat.le_of_ble_eq_true rfl)) dX8_about_3 ⟨Nat.le_of_ble_eq_true rfl, Nat.le_of_ble_eq_true rfl⟩) (fun r u H locs hp hw => ?_)
  obtain ⟨rfl, hu⟩ := hp
  rw [hu] at hw
  refine lv_if_eq (tgt := 22) hx hb dX8_about_6 (by decide) (fun c41 => ?_) (fun c41 => ?_)
  · replace hm := (if_pos c41).symm.trans hm
    exact t_X8_about_J22 K n S x1 x2 hm H locs hw ls (lv_sub hl [0, 1, 2] rfl)
  · replace hm := (if_neg c41).symm.trans hm
    refine lv_iload_n hx hb dX8_about_9 rfl (lv_at hl 2 rfl) ?_
    refine lv_if_lt (tgt := 22) hx hb dX8_about_10 (by decide) (fun c42 => ?_) (fun c42 => ?_)
    · replace hm := (if_pos c42).symm.trans hm
      exact t_X8_about_J22 K n S x1 x2 hm H locs hw ls (lv_sub hl [0, 1, 2] rfl)
    · replace hm := (if_neg c42).symm.trans hm
      refine lv_iload_n hx hb dX8_about_13 rfl (lv_at hl 2 rfl) ?_
      refine lv_iconst (v := 3) hx hb dX8_about_14 (by decide) ?_
      refine lv_icmp_gt (tgt := 22) hx hb dX8_about_15 (by decide) (fun c43 => ?_) (fun c43 => ?_)
      · replace hm := (if_pos c43).symm.trans hm
        exact t_X8_about_J22 K n S x1 x2 hm H locs hw ls (lv_sub hl [0, 1, 2] rfl)
      · replace hm := (if_neg c43).symm.trans hm
        refine lv_iconst (v := 0) hx hb dX8_about_18 (by decide) ?_
        refine lv_goto (tgt := 23) hx hb dX8_about_19 (by decide) ?_
        exact t_X8_about_J23 K n S x1 x2 0 hm H locs hw ls (lv_sub hl [0, 1, 2] rfl)
set_option maxRecDepth 100000 in
set_option maxHeartbeats 4000000 in
theorem c_X8_about (l : Launch) (D : va_G) (cy : Nat → ClassId) (ad : Nat → Nat → Nat) (sz n : Nat) (S : MSt) (x1 : Int32) (x2 : Int32)  {out : Int32 × MSt} (hm : m_X8_about n S x1 x2 = some out) : Met l yX8_about wsX8_about rm_X8_about (va_Pc [.ref (ad 0 0), .int x1, .int x2] (Pre D (tysC cy) (GM cy ad S) (fun _ _ => True) sz)) (va_Qi (fun r (u : MSt) => out = (r, u)) (fun u => Pst D (tysC cy) (AA (adrs (GM cy ad S)) sz) (GM cy ad u)) (AA (adrs (GM cy ad S)) sz)) 0 0 (AA (adrs (GM cy ad S)) sz) := by
  refine g_met (by decide) rfl (Nat.le_of_ble_eq_true rfl) ?_
  intro p e s m args below meth c K hw ls hl
  exact t_X8_about_0 (cy := cy) K n S x1 x2  hm _ _ hw ls hl
end W_X8_about
section W_X8_field
variable {p : Program} {l : Launch} {e : Env} {s : State} {m : MethodId} {args : Array Value} {below : List Frame} {meth : Method} {c : Code} {D : va_G} {A : Nat → Prop} {cy : Nat → ClassId} {ad : Nat → Nat → Nat} {Q : State → Prop}
abbrev rm_X8_field : Room := { frames := 1, cells := 0, slots := 0, locals := 21 }
theorem in_X8_field_X8 : ∀ w ∈ u_ws RX8 TX8 44, w ∈ wsX8_field := by decide +kernel
set_option maxRecDepth 100000 in
set_option maxHeartbeats 4000000 in
theorem t_X8_field_J41 (K : Cx p s m args meth c D A (tysC cy) RX8 cX8_field 5 (some .int) wsX8_field (fun _ _ => True)) (n : Nat) (S : MSt) (x1 : Int32) (x2 : Int32) (x3 : Int32) (y1 : Int32) {out : Int32 × MSt} (hm : m_X8_field_J41 n S x1 x2 x3 y1 = some out) : ∀ (H : Heap) (locs : List Loc), Wd D A s.heap (GM cy ad S) H locs → ∀ ls : Array Slot, lv_has ls 5 [(0, .ref (ad 0 0)), (1, .int x1), (2, .int x2), (3, .int x3)] → W p l e rm_X8_field s m args below meth c H locs 0 0 (MQ below (va_Qi (fun r (u : MSt) => out = (r, u)) (fun u => Pst D (tysC cy) A (GM cy ad u)) A) args s 0 0 A) (F0 m 41 ls [.int y1, .ref (ad 0 0)]) := by
  intro H locs hw ls hl 
  obtain ⟨hx, hb, hml, hown, hts, hr, hlo, hK, hA, hX⟩ := id K
  unfold m_X8_field_J41 at hm
  refine g_put (v := .int y1) (ty := .int) (ref := "MigrantHeapModel") (C := RX8) (T := TX8) (N := 44) (ci := 8) K in_X8_field_X8 tyX8 tyX8_ok nmX8 hw 0 rfl (by decide : 0 < 1) rfl rfl 0 (by decide) (List.mem_of_getElem? (i := 2) rfl) rfl rfl (by decide +kernel) rfl rfl (Nat.le_of_ble_eq_true rfl) dX8_field_41 (eM_0 cy ad S y1) (fun H locs hw => ?_)
  obtain ⟨S28, hS28, hm⟩ := nm_ex hm
  rw [← hS28] at hw
  refine lv_aload_n hx hb dX8_field_44 rfl (lv_at hl 0 rfl) ?_
  refine g_get (ref := "MigrantHeapModel") (C := RX8) (T := TX8) (N := 44) (ci := 8) K in_X8_field_X8 hw 0 rfl (by decide : 0 < 1) rfl rfl 0 (by decide) (List.mem_of_getElem? (i := 2) rfl) rfl rfl dX8_field_45 ?_
  refine lv_if_le (tgt := 53) hx hb dX8_field_48 (by decide) (fun c29 => ?_) (fun c29 => ?_)
  · replace hm := (if_pos c29).symm.trans hm
    refine lv_bipush (v := 6) hx hb dX8_field_53 (by decide) ?_
    refine lv_iload_n hx hb dX8_field_55 rfl (lv_at hl 1 rfl) ?_
    refine lv_imul hx hb dX8_field_56 ?_
    refine lv_iload_n hx hb dX8_field_57 rfl (lv_at hl 2 rfl) ?_
    refine lv_iadd hx hb dX8_field_58 ?_
    obtain ⟨x30, hx30, hm⟩ := nm_ex hm
    refine W.eq (g2 := F0 m 59 ls (.int x30 :: [])) (by rw [hx30]) ?_
    refine lv_istore (lv' := [(4, .int x30), (0, .ref (ad 0 0)), (1, .int x1), (2, .int x2), (3, .int x3)]) hx hb dX8_field_59 hl (by decide) rfl (fun ls hl => ?_)
    refine lv_iload_n hx hb dX8_field_61 rfl (lv_at hl 4 rfl) ?_
    refine lv_if_ne (tgt := 75) hx hb dX8_field_62 (by decide) (fun c31 => ?_) (fun c31 => ?_)
    · replace hm := (if_pos c31).symm.trans hm
      refine lv_iload_n hx hb dX8_field_75 rfl (lv_at hl 4 rfl) ?_
      refine lv_iconst (v := 1) hx hb dX8_field_76 (by decide) ?_
      refine lv_icmp_ne (tgt := 90) hx hb dX8_field_77 (by decide) (fun c32 => ?_) (fun c32 => ?_)
      · replace hm := (if_pos c32).symm.trans hm
        refine lv_iload_n hx hb dX8_field_90 rfl (lv_at hl 4 rfl) ?_
        refine lv_iconst (v := 2) hx hb dX8_field_91 (by decide) ?_
        refine lv_icmp_ne (tgt := 105) hx hb dX8_field_92 (by decide) (fun c33 => ?_) (fun c33 => ?_)
        · replace hm := (if_pos c33).symm.trans hm
          refine lv_aload_n hx hb dX8_field_105 rfl (lv_at hl 1 rfl) ?_
          refine g_get (ref := "MigrantHeapModel") (C := RX8) (T := TX8) (N := 44) (ci := 8) K in_X8_field_X8 hw 0 rfl (by decide : 0 < 1) rfl rfl 8 (by decide) (List.mem_of_getElem? (i := 6) rfl) rfl rfl dX8_field_106 ?_
          refine lv_iload hx hb dX8_field_109 (lv_at hl 0 rfl) ?_
          obtain ⟨h34, hm⟩ := chkS hm
          refine g_iald K hw 7 0 rfl (by decide) rfl rfl h34 dX8_field_111 ?_
          exact g_iret (GG := GM cy ad) K hw (Option.some.inj hm).symm dX8_field_112
        · replace hm := (if_neg (fun h => h c33)).symm.trans hm
          refine lv_aload_n hx hb dX8_field_95 rfl (lv_at hl 1 rfl) ?_
          refine g_get (ref := "MigrantHeapModel") (C := RX8) (T := TX8) (N := 44) (ci := 8) K in_X8_field_X8 hw 0 rfl (by decide : 0 < 1) rfl rfl 7 (by decide) (List.mem_of_getElem? (i := 5) rfl) rfl rfl dX8_field_96 ?_
          refine lv_iload hx hb dX8_field_99 (lv_at hl 0 rfl) ?_
          obtain ⟨h35, hm⟩ := chkS hm
          refine g_iald K hw 6 0 rfl (by decide) rfl rfl h35 dX8_field_101 ?_
          refine lv_goto (tgt := 112) hx hb dX8_field_102 (by decide) ?_
          exact g_iret (GG := GM cy ad) K hw (Option.some.inj hm).symm dX8_field_112
      · replace hm := (if_neg (fun h => h c32)).symm.trans hm
        refine lv_aload_n hx hb dX8_field_80 rfl (lv_at hl 1 rfl) ?_
        refine g_get (ref := "MigrantHeapModel") (C := RX8) (T := TX8) (N := 44) (ci := 8) K in_X8_field_X8 hw 0 rfl (by decide : 0 < 1) rfl rfl 6 (by decide) (List.mem_of_getElem? (i := 4) rfl) rfl rfl dX8_field_81 ?_
        refine lv_iload hx hb dX8_field_84 (lv_at hl 0 rfl) ?_
        obtain ⟨h36, hm⟩ := chkS hm
        refine g_iald K hw 5 0 rfl (by decide) rfl rfl h36 dX8_field_86 ?_
        refine lv_goto (tgt := 112) hx hb dX8_field_87 (by decide) ?_
        exact g_iret (GG := GM cy ad) K hw (Option.some.inj hm).symm dX8_field_112
    · replace hm := (if_neg (fun h => h c31)).symm.trans hm
      refine lv_aload_n hx hb dX8_field_65 rfl (lv_at hl 1 rfl) ?_
      refine g_get (ref := "MigrantHeapModel") (C := RX8) (T := TX8) (N := 44) (ci := 8) K in_X8_field_X8 hw 0 rfl (by decide : 0 < 1) rfl rfl 5 (by decide) (List.mem_of_getElem? (i := 3) rfl) rfl rfl dX8_field_66 ?_
      refine lv_iload hx hb dX8_field_69 (lv_at hl 0 rfl) ?_
      obtain ⟨h37, hm⟩ := chkS hm
      refine g_iald K hw 4 0 rfl (by decide) rfl rfl h37 dX8_field_71 ?_
      refine lv_goto (tgt := 112) hx hb dX8_field_72 (by decide) ?_
      exact g_iret (GG := GM cy ad) K hw (Option.some.inj hm).symm dX8_field_112
  · replace hm := (if_neg c29).symm.trans hm
    refine lv_iconst (v := 0) hx hb dX8_field_51 (by decide) ?_
    exact g_iret (GG := GM cy ad) K hw (Option.some.inj hm).symm dX8_field_52
set_option maxRecDepth 100000 in
set_option maxHeartbeats 4000000 in
theorem t_X8_field_J36 (K : Cx p s m args meth c D A (tysC cy) RX8 cX8_field 5 (some .int) wsX8_field (fun _ _ => True)) (n : Nat) (S : MSt) (x1 : Int32) (x2 : Int32) (x3 : Int32) {out : Int32 × MSt} (hm : m_X8_field_J36 n S x1 x2 x3 = some out) : ∀ (H : Heap) (locs : List Loc), Wd D A s.heap (GM cy ad S) H locs → ∀ ls : Array Slot, lv_has ls 5 [(0, .ref (ad 0 0)), (1, .int x1), (2, .int x2), (3, .int x3)] → W p l e rm_X8_field s m args below meth c H locs 0 0 (MQ below (va_Qi (fun r (u : MSt) => out = (r, u)) (fun u => Pst D (tysC cy) A (GM cy ad u)) A) args s 0 0 A) (F0 m 36 ls [.ref (ad 0 0)]) := by
  intro H locs hw ls hl 
  obtain ⟨hx, hb, hml, hown, hts, hr, hlo, hK, hA, hX⟩ := id K
  unfold m_X8_field_J36 at hm
  refine lv_iconst (v := 2) hx hb dX8_field_36 (by decide) ?_
  refine lv_goto (tgt := 41) hx hb dX8_field_37 (by decide) ?_
  exact t_X8_field_J41 K n S x1 x2 x3 2 hm H locs hw ls (lv_sub hl [0, 1, 2, 3] rfl)
set_option maxRecDepth 100000 in
set_option maxHeartbeats 4000000 in
theorem t_X8_field_J18 (K : Cx p s m args meth c D A (tysC cy) RX8 cX8_field 5 (some .int) wsX8_field (fun _ _ => True)) (n : Nat) (S : MSt) (x1 : Int32) (x2 : Int32) (x3 : Int32) {out : Int32 × MSt} (hm : m_X8_field_J18 n S x1 x2 x3 = some out) : ∀ (H : Heap) (locs : List Loc), Wd D A s.heap (GM cy ad S) H locs → ∀ ls : Array Slot, lv_has ls 5 [(0, .ref (ad 0 0)), (1, .int x1), (2, .int x2), (3, .int x3)] → W p l e rm_X8_field s m args below meth c H locs 0 0 (MQ below (va_Qi (fun r (u : MSt) => out = (r, u)) (fun u => Pst D (tysC cy) A (GM cy ad u)) A) args s 0 0 A) (F0 m 18 ls [.ref (ad 0 0)]) := by
  intro H locs hw ls hl 
  obtain ⟨hx, hb, hml, hown, hts, hr, hlo, hK, hA, hX⟩ := id K
  unfold m_X8_field_J18 at hm
  refine lv_iconst (v := 1) hx hb dX8_field_18 (by decide) ?_
  refine lv_goto (tgt := 41) hx hb dX8_field_19 (by decide) ?_
  exact t_X8_field_J41 K n S x1 x2 x3 1 hm H locs hw ls (lv_sub hl [0, 1, 2, 3] rfl)
set_option maxRecDepth 100000 in
set_option maxHeartbeats 4000000 in
theorem t_X8_field_0 (K : Cx p s m args meth c D A (tysC cy) RX8 cX8_field 5 (some .int) wsX8_field (fun _ _ => True)) (n : Nat) (S : MSt) (x1 : Int32) (x2 : Int32) (x3 : Int32)  {out : Int32 × MSt} (hm : m_X8_field n S x1 x2 x3 = some out) : ∀ (H : Heap) (locs : List Loc), Wd D A s.heap (GM cy ad S) H locs → ∀ ls : Array Slot, lv_has ls 5 [(0, .ref (ad 0 0)), (1, .int x1), (2, .int x2), (3, .int x3)] → W p l e rm_X8_field s m args below meth c H locs 0 0 (MQ below (va_Qi (fun r (u : MSt) => out = (r, u)) (fun u => Pst D (tysC cy) A (GM cy ad u)) A) args s 0 0 A) (F0 m 0 ls []) := by
  intro H locs hw ls hl
  obtain ⟨hx, hb, hml, hown, hts, hr, hlo, hK, hA, hX⟩ := id K
  unfold m_X8_field at hm
  refine lv_aload_n hx hb dX8_field_0 rfl (lv_at hl 0 rfl) ?_
  refine lv_aload_n hx hb dX8_field_1 rfl (lv_at hl 0 rfl) ?_
  refine lv_iload_n hx hb dX8_field_2 rfl (lv_at hl 1 rfl) ?_
  obtain ⟨z39, hc38, hm⟩ := bindS hm
  refine g_calli (GG := GM cy ad) K hw (va_runV (As := [.int x1]) (rest := [.ref (ad 0 0)]) (g_fix K) (c_X8_isClass l D cy ad H.size n S x1  hc38) (cwV 1 (g_hts K) gX8_field_X8_isClass rfl rfl rfl (by decide +kernel) ⟨Nat.le_of_ble_eq_true rfl, Nat.le_of_ble_eq_true rfl⟩) ⟨g_blind rides_none, g_recv K hw 0 rfl (by decide : 0 < 1) rfl rfl, g_pre (X2 := fun _ _ => True) K hw (fun _ _ _ => trivial)⟩ rfl rfl hl.1 rfl (lv_room (Nat.le_of_ble_eq_true rfl)) dX8_field_3 ⟨Nat.le_of_ble_eq_true rfl, Nat.le_of_ble_eq_true rfl⟩) (fun r u H locs hp hw => ?_)
  obtain ⟨rfl, hu⟩ := hp
  rw [hu] at hw
  refine lv_if_eq (tgt := 18) hx hb dX8_field_6 (by decide) (fun c40 => ?_) (fun c40 => ?_)
  · replace hm := (if_pos c40).symm.trans hm
    exact t_X8_field_J18 K n S x1 x2 x3 hm H locs hw ls (lv_sub hl [0, 1, 2, 3] rfl)
  · replace hm := (if_neg c40).symm.trans hm
    refine lv_iload_n hx hb dX8_field_9 rfl (lv_at hl 3 rfl) ?_
    refine lv_if_lt (tgt := 18) hx hb dX8_field_10 (by decide) (fun c41 => ?_) (fun c41 => ?_)
    · replace hm := (if_pos c41).symm.trans hm
      exact t_X8_field_J18 K n S x1 x2 x3 hm H locs hw ls (lv_sub hl [0, 1, 2, 3] rfl)
    · replace hm := (if_neg c41).symm.trans hm
      refine lv_iload_n hx hb dX8_field_13 rfl (lv_at hl 3 rfl) ?_
      refine lv_iconst (v := 3) hx hb dX8_field_14 (by decide) ?_
      refine lv_icmp_le (tgt := 22) hx hb dX8_field_15 (by decide) (fun c42 => ?_) (fun c42 => ?_)
      · replace hm := (if_pos c42).symm.trans hm
        refine lv_iload_n hx hb dX8_field_22 rfl (lv_at hl 2 rfl) ?_
        refine lv_if_lt (tgt := 36) hx hb dX8_field_23 (by decide) (fun c43 => ?_) (fun c43 => ?_)
        · replace hm := (if_pos c43).symm.trans hm
          exact t_X8_field_J36 K n S x1 x2 x3 hm H locs hw ls (lv_sub hl [0, 1, 2, 3] rfl)
        · replace hm := (if_neg c43).symm.trans hm
          refine lv_iload_n hx hb dX8_field_26 rfl (lv_at hl 2 rfl) ?_
          refine lv_aload_n hx hb dX8_field_27 rfl (lv_at hl 0 rfl) ?_
          refine g_get (ref := "MigrantHeapModel") (C := RX8) (T := TX8) (N := 44) (ci := 8) K in_X8_field_X8 hw 0 rfl (by decide : 0 < 1) rfl rfl 4 (by decide) (List.mem_of_getElem? (i := 1) rfl) rfl rfl dX8_field_28 ?_
          refine lv_iload_n hx hb dX8_field_31 rfl (lv_at hl 1 rfl) ?_
          obtain ⟨h44, hm⟩ := chkS hm
          refine g_iald K hw 3 0 rfl (by decide) rfl rfl h44 dX8_field_32 ?_
          refine lv_icmp_lt (tgt := 40) hx hb dX8_field_33 (by decide) (fun c45 => ?_) (fun c45 => ?_)
          · replace hm := (if_pos c45).symm.trans hm
            refine lv_iconst (v := 0) hx hb dX8_field_40 (by decide) ?_
            exact t_X8_field_J41 K n S x1 x2 x3 0 hm H locs hw ls (lv_sub hl [0, 1, 2, 3] rfl)
          · replace hm := (if_neg c45).symm.trans hm
            exact t_X8_field_J36 K n S x1 x2 x3 hm H locs hw ls (lv_sub hl [0, 1, 2, 3] rfl)
      · replace hm := (if_neg c42).symm.trans hm
        exact t_X8_field_J18 K n S x1 x2 x3 hm H locs hw ls (lv_sub hl [0, 1, 2, 3] rfl)
set_option maxRecDepth 100000 in
set_option maxHeartbeats 4000000 in
theorem c_X8_field (l : Launch) (D : va_G) (cy : Nat → ClassId) (ad : Nat → Nat → Nat) (sz n : Nat) (S : MSt) (x1 : Int32) (x2 : Int32) (x3 : Int32)  {out : Int32 × MSt} (hm : m_X8_field n S x1 x2 x3 = some out) : Met l yX8_field wsX8_field rm_X8_field (va_Pc [.ref (ad 0 0), .int x1, .int x2, .int x3] (Pre D (tysC cy) (GM cy ad S) (fun _ _ => True) sz)) (va_Qi (fun r (u : MSt) => out = (r, u)) (fun u => Pst D (tysC cy) (AA (adrs (GM cy ad S)) sz) (GM cy ad u)) (AA (adrs (GM cy ad S)) sz)) 0 0 (AA (adrs (GM cy ad S)) sz) := by
  refine g_met (by decide) rfl (Nat.le_of_ble_eq_true rfl) ?_
  intro p e s m args below meth c K hw ls hl
  exact t_X8_field_0 (cy := cy) K n S x1 x2 x3  hm _ _ hw ls hl
end W_X8_field
section W_X8_fault
variable {p : Program} {l : Launch} {e : Env} {s : State} {m : MethodId} {args : Array Value} {below : List Frame} {meth : Method} {c : Code} {D : va_G} {A : Nat → Prop} {cy : Nat → ClassId} {ad : Nat → Nat → Nat} {Q : State → Prop}
abbrev rm_X8_fault : Room := { frames := 0, cells := 0, slots := 0, locals := 0 }
theorem in_X8_fault_X8 : ∀ w ∈ u_ws RX8 TX8 44, w ∈ wsX8_fault := by decide +kernel
set_option maxRecDepth 100000 in
set_option maxHeartbeats 4000000 in
theorem t_X8_fault_0 (K : Cx p s m args meth c D A (tysC cy) RX8 cX8_fault 1 (some .int) wsX8_fault (fun _ _ => True)) (n : Nat) (S : MSt)   {out : Int32 × MSt} (hm : m_X8_fault n S  = some out) : ∀ (H : Heap) (locs : List Loc), Wd D A s.heap (GM cy ad S) H locs → ∀ ls : Array Slot, lv_has ls 1 [(0, .ref (ad 0 0))] → W p l e rm_X8_fault s m args below meth c H locs 0 0 (MQ below (va_Qi (fun r (u : MSt) => out = (r, u)) (fun u => Pst D (tysC cy) A (GM cy ad u)) A) args s 0 0 A) (F0 m 0 ls []) := by
  intro H locs hw ls hl
  obtain ⟨hx, hb, hml, hown, hts, hr, hlo, hK, hA, hX⟩ := id K
  unfold m_X8_fault at hm
  refine lv_aload_n hx hb dX8_fault_0 rfl (lv_at hl 0 rfl) ?_
  refine lv_iconst (v := 0) hx hb dX8_fault_1 (by decide) ?_
  refine g_put (v := .int 0) (ty := .int) (ref := "MigrantHeapModel") (C := RX8) (T := TX8) (N := 44) (ci := 8) K in_X8_fault_X8 tyX8 tyX8_ok nmX8 hw 0 rfl (by decide : 0 < 1) rfl rfl 0 (by decide) (List.mem_of_getElem? (i := 1) rfl) rfl rfl (by decide +kernel) rfl rfl (Nat.le_of_ble_eq_true rfl) dX8_fault_2 (eM_0 cy ad S 0) (fun H locs hw => ?_)
  obtain ⟨S3, hS3, hm⟩ := nm_ex hm
  rw [← hS3] at hw
  refine lv_aload_n hx hb dX8_fault_5 rfl (lv_at hl 0 rfl) ?_
  refine g_get (ref := "MigrantHeapModel") (C := RX8) (T := TX8) (N := 44) (ci := 8) K in_X8_fault_X8 hw 0 rfl (by decide : 0 < 1) rfl rfl 26 (by decide) (List.mem_of_getElem? (i := 2) rfl) rfl rfl dX8_fault_6 ?_
  exact g_iret (GG := GM cy ad) K hw (Option.some.inj hm).symm dX8_fault_9
set_option maxRecDepth 100000 in
set_option maxHeartbeats 4000000 in
theorem c_X8_fault (l : Launch) (D : va_G) (cy : Nat → ClassId) (ad : Nat → Nat → Nat) (sz n : Nat) (S : MSt)   {out : Int32 × MSt} (hm : m_X8_fault n S  = some out) : Met l yX8_fault wsX8_fault rm_X8_fault (va_Pc [.ref (ad 0 0)] (Pre D (tysC cy) (GM cy ad S) (fun _ _ => True) sz)) (va_Qi (fun r (u : MSt) => out = (r, u)) (fun u => Pst D (tysC cy) (AA (adrs (GM cy ad S)) sz) (GM cy ad u)) (AA (adrs (GM cy ad S)) sz)) 0 0 (AA (adrs (GM cy ad S)) sz) := by
  refine g_met (by decide) rfl (Nat.le_of_ble_eq_true rfl) ?_
  intro p e s m args below meth c K hw ls hl
  exact t_X8_fault_0 (cy := cy) K n S   hm _ _ hw ls hl
end W_X8_fault
