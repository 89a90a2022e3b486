section W_X8_make
variable {p : Program} {l : Launch} {e : Env} {s : State} {m : MethodId} {args : Array Value} {below : List Frame} {meth : Method} {c : Code} {D : va_G} {A : Nat → Prop} {cy : Nat → ClassId} {ad : Nat → Nat → Nat} {Q : State → Prop}
abbrev rm_X8_make : Room := { frames := 2, cells := 0, slots := 0, locals := 48 }
theorem in_X8_make_X8 : ∀ w ∈ u_ws RX8 TX8 44, w ∈ wsX8_make := by decide +kernel
set_option maxRecDepth 100000 in
set_option maxHeartbeats 4000000 in
theorem t_X8_make_L99 (K : Cx p s m args meth c D A (tysC cy) RX8 cX8_make 9 none wsX8_make (fun _ _ => True)) (n : Nat) (x2 : Int32) (x3 : Int32) (x5 : Int32) (x6 : Int32) (x7 : Int32)  (z : (MSt × Int32)) (hE0 : ∀ w : (MSt × Int32), z = w → ∀ (H : Heap) (locs : List Loc), Wd D A s.heap (GM cy ad w.1) H locs → ∀ ls : Array Slot, lv_has ls 9 [(0, .ref (ad 0 0)), (2, .int x2), (3, .int x3), (4, .int w.2), (5, .int x5)] → W p l e rm_X8_make s m args below meth c H locs 0 0 Q (F0 m 181 ls [])) : ∀ (x : (MSt × Int32 × Int32)), lpO (b_X8_make_99 n x2 x3 x5 x6 x7) n x = some z → (fun (x : (MSt × Int32 × Int32)) => ∀ (H : Heap) (locs : List Loc), Wd D A s.heap (GM cy ad x.1) H locs → ∀ ls : Array Slot, lv_has ls 9 [(0, .ref (ad 0 0)), (2, .int x2), (3, .int x3), (4, .int x.2.1), (5, .int x5), (6, .int x6), (7, .int x7), (8, .int x.2.2)] → W p l e rm_X8_make s m args below meth c H locs 0 0 Q (F0 m 99 ls [])) x := by
  intro x hx0
  refine lpO_ind2 (P := fun (x : (MSt × Int32 × Int32)) => ∀ (H : Heap) (locs : List Loc), Wd D A s.heap (GM cy ad x.1) H locs → ∀ ls : Array Slot, lv_has ls 9 [(0, .ref (ad 0 0)), (2, .int x2), (3, .int x3), (4, .int x.2.1), (5, .int x5), (6, .int x6), (7, .int x7), (8, .int x.2.2)] → W p l e rm_X8_make s m args below meth c H locs 0 0 Q (F0 m 99 ls [])) (z := z) ?_ n x hx0
  clear hx0 x
  intro x out hm hg H locs hw ls hl 
  obtain ⟨hx, hb, hml, hown, hts, hr, hlo, hK, hA, hX⟩ := id K
  unfold b_X8_make_99 at hm
  refine lv_iload hx hb dX8_make_99 (lv_at hl 7 rfl) ?_
  refine lv_aload_n hx hb dX8_make_101 rfl (lv_at hl 0 rfl) ?_
  refine g_get (ref := "MigrantHeapModel") (C := RX8) (T := TX8) (N := 44) (ci := 8) K in_X8_make_X8 hw 0 rfl (by decide : 0 < 1) rfl rfl 4 (by decide) (List.mem_of_getElem? (i := 4) rfl) rfl rfl dX8_make_102 ?_
  refine lv_iload hx hb dX8_make_105 (lv_at hl 6 rfl) ?_
  obtain ⟨h99, hm⟩ := chkS hm
  refine g_iald K hw 3 0 rfl (by decide) rfl rfl h99 dX8_make_107 ?_
  refine lv_icmp_ge (tgt := 181) hx hb dX8_make_108 (by decide) (fun c100 => ?_) (fun c100 => ?_)
  · replace hm := (if_pos c100).symm.trans hm
    obtain rfl := Option.some.inj hm
    exact hE0 _ hg.symm H locs hw ls (lv_sub hl [0, 1, 2, 3, 4] rfl)
  · replace hm := (if_neg c100).symm.trans hm
    refine lv_aload_n hx hb dX8_make_111 rfl (lv_at hl 0 rfl) ?_
    refine g_get (ref := "MigrantHeapModel") (C := RX8) (T := TX8) (N := 44) (ci := 8) K in_X8_make_X8 hw 0 rfl (by decide : 0 < 1) rfl rfl 6 (by decide) (List.mem_of_getElem? (i := 5) rfl) rfl rfl dX8_make_112 ?_
    refine lv_bipush (v := 6) hx hb dX8_make_115 (by decide) ?_
    refine lv_iload hx hb dX8_make_117 (lv_at hl 6 rfl) ?_
    refine lv_imul hx hb dX8_make_119 ?_
    refine lv_iload hx hb dX8_make_120 (lv_at hl 7 rfl) ?_
    refine lv_iadd hx hb dX8_make_122 ?_
    obtain ⟨h101, hm⟩ := chkS hm
    refine g_iald K hw 5 0 rfl (by decide) rfl rfl h101 dX8_make_123 ?_
    refine lv_iconst (v := 2) hx hb dX8_make_124 (by decide) ?_
    refine lv_icmp_ne (tgt := 175) hx hb dX8_make_125 (by decide) (fun c102 => ?_) (fun c102 => ?_)
    · replace hm := (if_pos c102).symm.trans hm
      obtain ⟨x103, hx103, hm⟩ := nm_ex hm
      refine lv_iinc (v := x103) (lv' := [(8, .int x103), (0, .ref (ad 0 0)), (2, .int x2), (3, .int x3), (4, .int x.2.1), (5, .int x5), (6, .int x6), (7, .int x7)]) hx hb dX8_make_175 hl (k := 7) rfl (by rw [hx103]; rfl) (by decide) rfl (fun ls hl => ?_)
      refine lv_goto (tgt := 99) hx hb dX8_make_178 (by decide) ?_
      obtain rfl := Option.some.inj hm
      exact hg H locs hw ls (lv_sub hl [1, 2, 3, 4, 5, 6, 7, 0] rfl)
    · replace hm := (if_neg (fun h => h c102)).symm.trans hm
      refine lv_aload_n hx hb dX8_make_128 rfl (lv_at hl 0 rfl) ?_
      refine g_get (ref := "MigrantHeapModel") (C := RX8) (T := TX8) (N := 44) (ci := 8) K in_X8_make_X8 hw 0 rfl (by decide : 0 < 1) rfl rfl 43 (by decide) (List.mem_of_getElem? (i := 2) rfl) rfl rfl dX8_make_129 ?_
      refine lv_iload hx hb dX8_make_132 (lv_at hl 3 rfl) ?_
      refine lv_aload_n hx hb dX8_make_134 rfl (lv_at hl 0 rfl) ?_
      refine lv_aload_n hx hb dX8_make_135 rfl (lv_at hl 0 rfl) ?_
      refine g_get (ref := "MigrantHeapModel") (C := RX8) (T := TX8) (N := 44) (ci := 8) K in_X8_make_X8 hw 0 rfl (by decide : 0 < 1) rfl rfl 7 (by decide) (List.mem_of_getElem? (i := 6) rfl) rfl rfl dX8_make_136 ?_
      refine lv_bipush (v := 6) hx hb dX8_make_139 (by decide) ?_
      refine lv_iload hx hb dX8_make_141 (lv_at hl 6 rfl) ?_
      refine lv_imul hx hb dX8_make_143 ?_
      refine lv_iload hx hb dX8_make_144 (lv_at hl 7 rfl) ?_
      refine lv_iadd hx hb dX8_make_146 ?_
      obtain ⟨h104, hm⟩ := chkS hm
      refine g_iald K hw 6 0 rfl (by decide) rfl rfl h104 dX8_make_147 ?_
      obtain ⟨z106, hc105, hm⟩ := bindS hm
      refine g_calli (GG := GM cy ad) K hw (va_runV (As := [.int (x.1.1 7 ((6 * x7) + x.2.2).toNatClampNeg)]) (rest := [.int x.2.1, .ref (ad 34 0)]) (g_fix K) (c_X8_bare l D cy ad H.size n x.1 (x.1.1 7 ((6 * x7) + x.2.2).toNatClampNeg)  hc105) (cwV 1 (g_hts K) gX8_make_X8_bare rfl rfl rfl (by decide +kernel) ⟨Nat.le_of_ble_eq_true rfl, Nat.le_of_ble_eq_true rfl⟩) ⟨g_blind rides_none, g_recv K hw 0 rfl (by decide : 0 < 1) rfl rfl, g_pre (X2 := fun _ _ => True) K hw (fun _ _ _ => trivial)⟩ rfl rfl hl.1 rfl (lv_room (Nat.le_of_ble_eq_true rfl)) dX8_make_148 ⟨Nat.le_of_ble_eq_true rfl, Nat.le_of_ble_eq_true rfl⟩) (fun r u H locs hp hw => ?_)
      obtain ⟨rfl, rfl⟩ : r = z106.1 ∧ u = z106.2 := by rw [hp]; exact ⟨rfl, rfl⟩
      obtain ⟨h107, hm⟩ := chkS hm
      refine g_iast K hw 34 0 rfl (by decide) rfl rfl h107 dX8_make_151 (eM_43 cy ad z106.2 x.2.1.toNatClampNeg z106.1) (fun H locs hw => ?_)
      obtain ⟨S108, hS108, hm⟩ := nm_ex hm
      rw [← hS108] at hw
      refine lv_aload_n hx hb dX8_make_152 rfl (lv_at hl 0 rfl) ?_
      refine g_get (ref := "MigrantHeapModel") (C := RX8) (T := TX8) (N := 44) (ci := 8) K in_X8_make_X8 hw 0 rfl (by decide : 0 < 1) rfl rfl 16 (by decide) (List.mem_of_getElem? (i := 7) rfl) rfl rfl dX8_make_153 ?_
      refine lv_bipush (v := 6) hx hb dX8_make_156 (by decide) ?_
      refine lv_iload hx hb dX8_make_158 (lv_at hl 5 rfl) ?_
      refine lv_imul hx hb dX8_make_160 ?_
      refine lv_iload hx hb dX8_make_161 (lv_at hl 7 rfl) ?_
      refine lv_iadd hx hb dX8_make_163 ?_
      refine lv_aload_n hx hb dX8_make_164 rfl (lv_at hl 0 rfl) ?_
      refine g_get (ref := "MigrantHeapModel") (C := RX8) (T := TX8) (N := 44) (ci := 8) K in_X8_make_X8 hw 0 rfl (by decide : 0 < 1) rfl rfl 43 (by decide) (List.mem_of_getElem? (i := 2) rfl) rfl rfl dX8_make_165 ?_
      refine lv_iload hx hb dX8_make_168 (lv_at hl 3 rfl) ?_
      obtain ⟨h109, hm⟩ := chkS hm
      refine g_iald K hw 34 0 rfl (by decide) rfl rfl h109 dX8_make_170 ?_
      obtain ⟨h110, hm⟩ := chkS hm
      refine g_iast K hw 15 0 rfl (by decide) rfl rfl h110 dX8_make_171 (eM_16 cy ad S108 (((6 * x6) + x.2.2).toNatClampNeg) (S108.1 43 x.2.1.toNatClampNeg)) (fun H locs hw => ?_)
      obtain ⟨S111, hS111, hm⟩ := nm_ex hm
      rw [← hS111] at hw
      obtain ⟨x112, hx112, hm⟩ := nm_ex hm
      refine lv_iinc (v := x112) (lv' := [(4, .int x112), (0, .ref (ad 0 0)), (2, .int x2), (3, .int x3), (5, .int x5), (6, .int x6), (7, .int x7), (8, .int x.2.2)]) hx hb dX8_make_172 hl (k := 3) rfl (by rw [hx112]; rfl) (by decide) rfl (fun ls hl => ?_)
      obtain ⟨x113, hx113, hm⟩ := nm_ex hm
      refine lv_iinc (v := x113) (lv' := [(8, .int x113), (4, .int x112), (0, .ref (ad 0 0)), (2, .int x2), (3, .int x3), (5, .int x5), (6, .int x6), (7, .int x7)]) hx hb dX8_make_175 hl (k := 7) rfl (by rw [hx113]; rfl) (by decide) rfl (fun ls hl => ?_)
      refine lv_goto (tgt := 99) hx hb dX8_make_178 (by decide) ?_
      obtain rfl := Option.some.inj hm
      exact hg H locs hw ls (lv_sub hl [2, 3, 4, 1, 5, 6, 7, 0] rfl)
set_option maxRecDepth 100000 in
set_option maxHeartbeats 4000000 in
theorem t_X8_make_L71 (K : Cx p s m args meth c D A (tysC cy) RX8 cX8_make 9 none wsX8_make (fun _ _ => True)) (n : Nat) (x2 : Int32) (x3 : Int32)  (z : MSt) (hE0 : ∀ w : MSt, z = w → ∀ (H : Heap) (locs : List Loc), Wd D A s.heap (GM cy ad w) H locs → ∀ ls : Array Slot, lv_has ls 9 [(0, .ref (ad 0 0)), (2, .int x2), (3, .int x3)] → W p l e rm_X8_make s m args below meth c H locs 0 0 Q (F0 m 187 ls [])) : ∀ (x : (MSt × Int32 × Int32)), lpO (b_X8_make_71 n x2 x3) n x = some z → (fun (x : (MSt × Int32 × Int32)) => ∀ (H : Heap) (locs : List Loc), Wd D A s.heap (GM cy ad x.1) H locs → ∀ ls : Array Slot, lv_has ls 9 [(0, .ref (ad 0 0)), (2, .int x2), (3, .int x3), (4, .int x.2.1), (5, .int x.2.2)] → W p l e rm_X8_make s m args below meth c H locs 0 0 Q (F0 m 71 ls [])) x := by
  intro x hx0
  refine lpO_ind2 (P := fun (x : (MSt × Int32 × Int32)) => ∀ (H : Heap) (locs : List Loc), Wd D A s.heap (GM cy ad x.1) H locs → ∀ ls : Array Slot, lv_has ls 9 [(0, .ref (ad 0 0)), (2, .int x2), (3, .int x3), (4, .int x.2.1), (5, .int x.2.2)] → W p l e rm_X8_make s m args below meth c H locs 0 0 Q (F0 m 71 ls [])) (z := z) ?_ n x hx0
  clear hx0 x
  intro x out hm hg H locs hw ls hl 
  obtain ⟨hx, hb, hml, hown, hts, hr, hlo, hK, hA, hX⟩ := id K
  unfold b_X8_make_71 at hm
  refine lv_iload hx hb dX8_make_71 (lv_at hl 4 rfl) ?_
  refine lv_iload hx hb dX8_make_73 (lv_at hl 3 rfl) ?_
  refine lv_icmp_ge (tgt := 187) hx hb dX8_make_75 (by decide) (fun c114 => ?_) (fun c114 => ?_)
  · replace hm := (if_pos c114).symm.trans hm
    obtain rfl := Option.some.inj hm
    exact hE0 _ hg.symm H locs hw ls (lv_sub hl [0, 1, 2] rfl)
  · replace hm := (if_neg c114).symm.trans hm
    refine lv_aload_n hx hb dX8_make_78 rfl (lv_at hl 0 rfl) ?_
    refine g_get (ref := "MigrantHeapModel") (C := RX8) (T := TX8) (N := 44) (ci := 8) K in_X8_make_X8 hw 0 rfl (by decide : 0 < 1) rfl rfl 43 (by decide) (List.mem_of_getElem? (i := 2) rfl) rfl rfl dX8_make_79 ?_
    refine lv_iload hx hb dX8_make_82 (lv_at hl 4 rfl) ?_
    obtain ⟨h115, hm⟩ := chkS hm
    refine g_iald K hw 34 0 rfl (by decide) rfl rfl h115 dX8_make_84 ?_
    obtain ⟨x116, hx116, hm⟩ := nm_ex hm
    refine W.eq (g2 := F0 m 85 ls (.int x116 :: [])) (by rw [hx116]) ?_
    refine lv_istore (lv' := [(6, .int x116), (0, .ref (ad 0 0)), (2, .int x2), (3, .int x3), (4, .int x.2.1), (5, .int x.2.2)]) hx hb dX8_make_85 hl (by decide) rfl (fun ls hl => ?_)
    refine lv_aload_n hx hb dX8_make_87 rfl (lv_at hl 1 rfl) ?_
    refine g_get (ref := "MigrantHeapModel") (C := RX8) (T := TX8) (N := 44) (ci := 8) K in_X8_make_X8 hw 0 rfl (by decide : 0 < 1) rfl rfl 14 (by decide) (List.mem_of_getElem? (i := 3) rfl) rfl rfl dX8_make_88 ?_
    refine lv_iload hx hb dX8_make_91 (lv_at hl 0 rfl) ?_
    obtain ⟨h117, hm⟩ := chkS hm
    refine g_iald K hw 13 0 rfl (by decide) rfl rfl h117 dX8_make_93 ?_
    obtain ⟨x118, hx118, hm⟩ := nm_ex hm
    refine W.eq (g2 := F0 m 94 ls (.int x118 :: [])) (by rw [hx118]) ?_
    refine lv_istore (lv' := [(7, .int x118), (6, .int x116), (0, .ref (ad 0 0)), (2, .int x2), (3, .int x3), (4, .int x.2.1), (5, .int x.2.2)]) hx hb dX8_make_94 hl (by decide) rfl (fun ls hl => ?_)
    refine lv_iconst (v := 0) hx hb dX8_make_96 (by decide) ?_
    refine lv_istore (lv' := [(8, .int 0), (7, .int x118), (6, .int x116), (0, .ref (ad 0 0)), (2, .int x2), (3, .int x3), (4, .int x.2.1), (5, .int x.2.2)]) hx hb dX8_make_97 hl (by decide) rfl (fun ls hl => ?_)
    obtain ⟨z119, hz120, hm⟩ := bindS hm
    refine t_X8_make_L99 K n x2 x3 x.2.2 x116 x118 z119 (fun w121 hww121 => ?_) ((x.1, x.2.1, 0)) hz120 H locs hw ls (lv_sub hl [3, 4, 5, 6, 7, 2, 1, 0] rfl)
    · intro H locs hw ls hl 
      try rw [hww121] at hm
      obtain ⟨x122, hx122, hm⟩ := nm_ex hm
      refine lv_iinc (v := x122) (lv' := [(5, .int x122), (0, .ref (ad 0 0)), (2, .int x2), (3, .int x3), (4, .int w121.2)]) hx hb dX8_make_181 hl (k := 4) rfl (by rw [hx122]; rfl) (by decide) rfl (fun ls hl => ?_)
      refine lv_goto (tgt := 71) hx hb dX8_make_184 (by decide) ?_
      obtain rfl := Option.some.inj hm
      exact hg H locs hw ls (lv_sub hl [1, 2, 3, 4, 0] rfl)
set_option maxRecDepth 100000 in
set_option maxHeartbeats 4000000 in
theorem t_X8_make_J41 (K : Cx p s m args meth c D A (tysC cy) RX8 cX8_make 9 none wsX8_make (fun _ _ => True)) (n : Nat) (S : MSt) (x1 : Int32) (x2 : Int32) (y1 : Int32) {out : MSt} (hm : m_X8_make_J41 n S x1 x2 y1 = some out) : ∀ (H : Heap) (locs : List Loc), Wd D A s.heap (GM cy ad S) H locs → ∀ ls : Array Slot, lv_has ls 9 [(0, .ref (ad 0 0)), (1, .int x1), (2, .int x2)] → W p l e rm_X8_make s m args below meth c H locs 0 0 (MQ below (va_Qv (fun (u : MSt) => out = u) (fun u => Pst D (tysC cy) A (GM cy ad u)) A) args s 0 0 A) (F0 m 41 ls [.int y1, .ref (ad 0 0)]) := by
  intro H locs hw ls hl 
  obtain ⟨hx, hb, hml, hown, hts, hr, hlo, hK, hA, hX⟩ := id K
  unfold m_X8_make_J41 at hm
  refine g_put (v := .int y1) (ty := .int) (ref := "MigrantHeapModel") (C := RX8) (T := TX8) (N := 44) (ci := 8) K in_X8_make_X8 tyX8 tyX8_ok nmX8 hw 0 rfl (by decide : 0 < 1) rfl rfl 0 (by decide) (List.mem_of_getElem? (i := 1) rfl) rfl rfl (by decide +kernel) rfl rfl (Nat.le_of_ble_eq_true rfl) dX8_make_41 (eM_0 cy ad S y1) (fun H locs hw => ?_)
  obtain ⟨S123, hS123, hm⟩ := nm_ex hm
  rw [← hS123] at hw
  refine lv_aload_n hx hb dX8_make_44 rfl (lv_at hl 0 rfl) ?_
  refine g_get (ref := "MigrantHeapModel") (C := RX8) (T := TX8) (N := 44) (ci := 8) K in_X8_make_X8 hw 0 rfl (by decide : 0 < 1) rfl rfl 0 (by decide) (List.mem_of_getElem? (i := 1) rfl) rfl rfl dX8_make_45 ?_
  refine lv_if_le (tgt := 52) hx hb dX8_make_48 (by decide) (fun c124 => ?_) (fun c124 => ?_)
  · replace hm := (if_pos c124).symm.trans hm
    refine lv_aload_n hx hb dX8_make_52 rfl (lv_at hl 0 rfl) ?_
    refine lv_iload_n hx hb dX8_make_53 rfl (lv_at hl 1 rfl) ?_
    obtain ⟨z126, hc125, hm⟩ := bindS hm
    refine g_calli (GG := GM cy ad) K hw (va_runV (As := [.int x1]) (rest := []) (g_fix K) (c_X8_bare l D cy ad H.size n S123 x1  hc125) (cwV 1 (g_hts K) gX8_make_X8_bare rfl rfl rfl (by decide +kernel) ⟨Nat.le_of_ble_eq_true rfl, Nat.le_of_ble_eq_true rfl⟩) ⟨g_blind rides_none, g_recv K hw 0 rfl (by decide : 0 < 1) rfl rfl, g_pre (X2 := fun _ _ => True) K hw (fun _ _ _ => trivial)⟩ rfl rfl hl.1 rfl (lv_room (Nat.le_of_ble_eq_true rfl)) dX8_make_54 ⟨Nat.le_of_ble_eq_true rfl, Nat.le_of_ble_eq_true rfl⟩) (fun r u H locs hp hw => ?_)
    obtain ⟨rfl, rfl⟩ : r = z126.1 ∧ u = z126.2 := by rw [hp]; exact ⟨rfl, rfl⟩
    refine lv_istore_n (lv' := [(3, .int z126.1), (0, .ref (ad 0 0)), (1, .int x1), (2, .int x2)]) hx hb dX8_make_57 rfl hl (by decide) rfl (fun ls hl => ?_)
    refine lv_aload_n hx hb dX8_make_58 rfl (lv_at hl 1 rfl) ?_
    refine g_get (ref := "MigrantHeapModel") (C := RX8) (T := TX8) (N := 44) (ci := 8) K in_X8_make_X8 hw 0 rfl (by decide : 0 < 1) rfl rfl 43 (by decide) (List.mem_of_getElem? (i := 2) rfl) rfl rfl dX8_make_59 ?_
    refine lv_iconst (v := 0) hx hb dX8_make_62 (by decide) ?_
    refine lv_iload_n hx hb dX8_make_63 rfl (lv_at hl 0 rfl) ?_
    obtain ⟨h127, hm⟩ := chkS hm
    refine g_iast K hw 34 0 rfl (by decide) rfl rfl h127 dX8_make_64 (eM_43 cy ad z126.2 ((0 : Int32).toNatClampNeg) z126.1) (fun H locs hw => ?_)
    obtain ⟨S128, hS128, hm⟩ := nm_ex hm
    rw [← hS128] at hw
    refine lv_iconst (v := 1) hx hb dX8_make_65 (by decide) ?_
    refine lv_istore (lv' := [(4, .int 1), (3, .int z126.1), (0, .ref (ad 0 0)), (1, .int x1), (2, .int x2)]) hx hb dX8_make_66 hl (by decide) rfl (fun ls hl => ?_)
    refine lv_iconst (v := 0) hx hb dX8_make_68 (by decide) ?_
    refine lv_istore (lv' := [(5, .int 0), (4, .int 1), (3, .int z126.1), (0, .ref (ad 0 0)), (1, .int x1), (2, .int x2)]) hx hb dX8_make_69 hl (by decide) rfl (fun ls hl => ?_)
    obtain ⟨z129, hz130, hm⟩ := bindS hm
    refine t_X8_make_L71 K n x2 z126.1 z129 (fun w131 hww131 => ?_) ((S128, 1, 0)) hz130 H locs hw ls (lv_sub hl [3, 5, 2, 1, 0] rfl)
    · intro H locs hw ls hl 
      try rw [hww131] at hm
      refine lv_aload_n hx hb dX8_make_187 rfl (lv_at hl 0 rfl) ?_
      refine g_get (ref := "MigrantHeapModel") (C := RX8) (T := TX8) (N := 44) (ci := 8) K in_X8_make_X8 hw 0 rfl (by decide : 0 < 1) rfl rfl 19 (by decide) (List.mem_of_getElem? (i := 8) rfl) rfl rfl dX8_make_188 ?_
      refine lv_iload_n hx hb dX8_make_191 rfl (lv_at hl 1 rfl) ?_
      refine lv_iload_n hx hb dX8_make_192 rfl (lv_at hl 2 rfl) ?_
      obtain ⟨h132, hm⟩ := chkS hm
      refine g_iast K hw 18 0 rfl (by decide) rfl rfl h132 dX8_make_193 (eM_19 cy ad w131 x2.toNatClampNeg z126.1) (fun H locs hw => ?_)
      obtain ⟨S133, hS133, hm⟩ := nm_ex hm
      rw [← hS133] at hw
      exact g_vret (GG := GM cy ad) K hw (Option.some.inj hm).symm dX8_make_194
  · replace hm := (if_neg c124).symm.trans hm
    exact g_vret (GG := GM cy ad) K hw (Option.some.inj hm).symm dX8_make_51
set_option maxRecDepth 100000 in
set_option maxHeartbeats 4000000 in
theorem t_X8_make_J16 (K : Cx p s m args meth c D A (tysC cy) RX8 cX8_make 9 none wsX8_make (fun _ _ => True)) (n : Nat) (S : MSt) (x1 : Int32) (x2 : Int32) {out : MSt} (hm : m_X8_make_J16 n S x1 x2 = some out) : ∀ (H : Heap) (locs : List Loc), Wd D A s.heap (GM cy ad S) H locs → ∀ ls : Array Slot, lv_has ls 9 [(0, .ref (ad 0 0)), (1, .int x1), (2, .int x2)] → W p l e rm_X8_make s m args below meth c H locs 0 0 (MQ below (va_Qv (fun (u : MSt) => out = u) (fun u => Pst D (tysC cy) A (GM cy ad u)) A) args s 0 0 A) (F0 m 16 ls [.ref (ad 0 0)]) := by
  intro H locs hw ls hl 
  obtain ⟨hx, hb, hml, hown, hts, hr, hlo, hK, hA, hX⟩ := id K
  unfold m_X8_make_J16 at hm
  refine lv_iconst (v := 1) hx hb dX8_make_16 (by decide) ?_
  refine lv_goto (tgt := 41) hx hb dX8_make_17 (by decide) ?_
  exact t_X8_make_J41 K n S x1 x2 1 hm H locs hw ls (lv_sub hl [0, 1, 2] rfl)
set_option maxRecDepth 100000 in
set_option maxHeartbeats 4000000 in
theorem t_X8_make_0 (K : Cx p s m args meth c D A (tysC cy) RX8 cX8_make 9 none wsX8_make (fun _ _ => True)) (n : Nat) (S : MSt) (x1 : Int32) (x2 : Int32)  {out : MSt} (hm : m_X8_make n S x1 x2 = some out) : ∀ (H : Heap) (locs : List Loc), Wd D A s.heap (GM cy ad S) H locs → ∀ ls : Array Slot, lv_has ls 9 [(0, .ref (ad 0 0)), (1, .int x1), (2, .int x2)] → W p l e rm_X8_make s m args below meth c H locs 0 0 (MQ below (va_Qv (fun (u : MSt) => out = u) (fun u => Pst D (tysC cy) A (GM cy ad u)) A) args s 0 0 A) (F0 m 0 ls []) := by
  intro H locs hw ls hl
  obtain ⟨hx, hb, hml, hown, hts, hr, hlo, hK, hA, hX⟩ := id K
  unfold m_X8_make at hm
  refine lv_aload_n hx hb dX8_make_0 rfl (lv_at hl 0 rfl) ?_
  refine lv_aload_n hx hb dX8_make_1 rfl (lv_at hl 0 rfl) ?_
  refine lv_iload_n hx hb dX8_make_2 rfl (lv_at hl 1 rfl) ?_
  obtain ⟨z135, hc134, hm⟩ := bindS hm
  refine g_calli (GG := GM cy ad) K hw (va_runV (As := [.int x1]) (rest := [.ref (ad 0 0)]) (g_fix K) (c_X8_isClass l D cy ad H.size n S x1  hc134) (cwV 1 (g_hts K) gX8_make_X8_isClass rfl rfl rfl (by decide +kernel) ⟨Nat.le_of_ble_eq_true rfl, Nat.le_of_ble_eq_true rfl⟩) ⟨g_blind rides_none, g_recv K hw 0 rfl (by decide : 0 < 1) rfl rfl, g_pre (X2 := fun _ _ => True) K hw (fun _ _ _ => trivial)⟩ rfl rfl hl.1 rfl (lv_room (Nat.le_of_ble_eq_true rfl)) dX8_make_3 ⟨Nat.le_of_ble_eq_true rfl, Nat.le_of_ble_eq_true rfl⟩) (fun r u H locs hp hw => ?_)
  obtain ⟨rfl, hu⟩ := hp
  rw [hu] at hw
  refine lv_if_eq (tgt := 16) hx hb dX8_make_6 (by decide) (fun c136 => ?_) (fun c136 => ?_)
  · replace hm := (if_pos c136).symm.trans hm
    exact t_X8_make_J16 K n S x1 x2 hm H locs hw ls (lv_sub hl [0, 1, 2] rfl)
  · replace hm := (if_neg c136).symm.trans hm
    refine lv_iload_n hx hb dX8_make_9 rfl (lv_at hl 2 rfl) ?_
    obtain ⟨z138, hc137, hm⟩ := bindS hm
    refine g_calli (GG := GM cy ad) K hw (va_runS (As := [.int x2]) (rest := [.ref (ad 0 0)]) (g_fix K) (c_X8_isRoot l D cy ad H.size n S x2  hc137) (va_cwS 1 (g_hts K) gX8_make_X8_isRoot rfl rfl rfl (by decide +kernel) ⟨Nat.le_of_ble_eq_true rfl, Nat.le_of_ble_eq_true rfl⟩) ⟨g_blind rides_none, g_pre (X2 := fun _ _ => True) K hw (fun _ _ _ => trivial)⟩ rfl rfl hl.1 rfl (lv_room (Nat.le_of_ble_eq_true rfl)) dX8_make_10 ⟨Nat.le_of_ble_eq_true rfl, Nat.le_of_ble_eq_true rfl⟩) (fun r u H locs hp hw => ?_)
    obtain ⟨rfl, hu⟩ := hp
    rw [hu] at hw
    refine lv_if_ne (tgt := 20) hx hb dX8_make_13 (by decide) (fun c139 => ?_) (fun c139 => ?_)
    · replace hm := (if_pos c139).symm.trans hm
      refine lv_aload_n hx hb dX8_make_20 rfl (lv_at hl 0 rfl) ?_
      refine lv_iconst (v := (-1)) hx hb dX8_make_21 (by decide) ?_
      obtain ⟨z141, hc140, hm⟩ := bindS hm
      refine g_calli (GG := GM cy ad) K hw (va_runV (As := [.int (-1)]) (rest := [.ref (ad 0 0)]) (g_fix K) (c_X8_records l D cy ad H.size n S (-1)  hc140) (cwV 1 (g_hts K) gX8_make_X8_records rfl rfl rfl (by decide +kernel) ⟨Nat.le_of_ble_eq_true rfl, Nat.le_of_ble_eq_true rfl⟩) ⟨g_blind rides_none, g_recv K hw 0 rfl (by decide : 0 < 1) rfl rfl, g_pre (X2 := fun _ _ => True) K hw (fun _ _ _ => trivial)⟩ rfl rfl hl.1 rfl (lv_room (Nat.le_of_ble_eq_true rfl)) dX8_make_22 ⟨Nat.le_of_ble_eq_true rfl, Nat.le_of_ble_eq_true rfl⟩) (fun r u H locs hp hw => ?_)
      obtain ⟨rfl, hu⟩ := hp
      rw [hu] at hw
      refine lv_aload_n hx hb dX8_make_25 rfl (lv_at hl 0 rfl) ?_
      refine lv_iload_n hx hb dX8_make_26 rfl (lv_at hl 1 rfl) ?_
      obtain ⟨z143, hc142, hm⟩ := bindS hm
      refine g_calli (GG := GM cy ad) K hw (va_runV (As := [.int x1]) (rest := [.int z141, .ref (ad 0 0)]) (g_fix K) (c_X8_needed l D cy ad H.size n S x1  hc142) (cwV 1 (g_hts K) gX8_make_X8_needed rfl rfl rfl (by decide +kernel) ⟨Nat.le_of_ble_eq_true rfl, Nat.le_of_ble_eq_true rfl⟩) ⟨g_blind rides_none, g_recv K hw 0 rfl (by decide : 0 < 1) rfl rfl, g_pre (X2 := fun _ _ => True) K hw (fun _ _ _ => trivial)⟩ rfl rfl hl.1 rfl (lv_room (Nat.le_of_ble_eq_true rfl)) dX8_make_27 ⟨Nat.le_of_ble_eq_true rfl, Nat.le_of_ble_eq_true rfl⟩) (fun r u H locs hp hw => ?_)
      obtain ⟨rfl, rfl⟩ : r = z143.1 ∧ u = z143.2 := by rw [hp]; exact ⟨rfl, rfl⟩
      refine lv_iadd hx hb dX8_make_30 ?_
      refine lv_bipush (v := 24) hx hb dX8_make_31 (by decide) ?_
      refine lv_icmp_le (tgt := 40) hx hb dX8_make_33 (by decide) (fun c144 => ?_) (fun c144 => ?_)
      · replace hm := (if_pos c144).symm.trans hm
        refine lv_iconst (v := 0) hx hb dX8_make_40 (by decide) ?_
        exact t_X8_make_J41 K n z143.2 x1 x2 0 hm H locs hw ls (lv_sub hl [0, 1, 2] rfl)
      · replace hm := (if_neg c144).symm.trans hm
        refine lv_iconst (v := 2) hx hb dX8_make_36 (by decide) ?_
        refine lv_goto (tgt := 41) hx hb dX8_make_37 (by decide) ?_
        exact t_X8_make_J41 K n z143.2 x1 x2 2 hm H locs hw ls (lv_sub hl [0, 1, 2] rfl)
    · replace hm := (if_neg (fun h => h c139)).symm.trans hm
      exact t_X8_make_J16 K n S x1 x2 hm H locs hw ls (lv_sub hl [0, 1, 2] rfl)
set_option maxRecDepth 100000 in
set_option maxHeartbeats 4000000 in
theorem c_X8_make (l : Launch) (D : va_G) (cy : Nat → ClassId) (ad : Nat → Nat → Nat) (sz n : Nat) (S : MSt) (x1 : Int32) (x2 : Int32)  {out : MSt} (hm : m_X8_make n S x1 x2 = some out) : Met l yX8_make wsX8_make rm_X8_make (va_Pc [.ref (ad 0 0), .int x1, .int x2] (Pre D (tysC cy) (GM cy ad S) (fun _ _ => True) sz)) (va_Qv (fun (u : MSt) => out = u) (fun u => Pst D (tysC cy) (AA (adrs (GM cy ad S)) sz) (GM cy ad u)) (AA (adrs (GM cy ad S)) sz)) 0 0 (AA (adrs (GM cy ad S)) sz) := by
  refine g_met (by decide) rfl (Nat.le_of_ble_eq_true rfl) ?_
  intro p e s m args below meth c K hw ls hl
  exact t_X8_make_0 (cy := cy) K n S x1 x2  hm _ _ hw ls hl
end W_X8_make
section W_X8_touchRecord
variable {p : Program} {l : Launch} {e : Env} {s : State} {m : MethodId} {args : Array Value} {below : List Frame} {meth : Method} {c : Code} {D : va_G} {A : Nat → Prop} {cy : Nat → ClassId} {ad : Nat → Nat → Nat} {Q : State → Prop}
abbrev rm_X8_touchRecord : Room := { frames := 0, cells := 0, slots := 0, locals := 0 }
theorem in_X8_touchRecord_X8 : ∀ w ∈ u_ws RX8 TX8 44, w ∈ wsX8_touchRecord := by decide +kernel
set_option maxRecDepth 100000 in
set_option maxHeartbeats 4000000 in
theorem t_X8_touchRecord_0 (K : Cx p s m args meth c D A (tysC cy) RX8 cX8_touchRecord 2 none wsX8_touchRecord (fun _ _ => True)) (n : Nat) (S : MSt) (x1 : Int32)  {out : MSt} (hm : m_X8_touchRecord n S x1 = some out) : ∀ (H : Heap) (locs : List Loc), Wd D A s.heap (GM cy ad S) H locs → ∀ ls : Array Slot, lv_has ls 2 [(0, .ref (ad 0 0)), (1, .int x1)] → W p l e rm_X8_touchRecord s m args below meth c H locs 0 0 (MQ below (va_Qv (fun (u : MSt) => out = u) (fun u => Pst D (tysC cy) A (GM cy ad u)) A) args s 0 0 A) (F0 m 0 ls []) := by
  intro H locs hw ls hl
  obtain ⟨hx, hb, hml, hown, hts, hr, hlo, hK, hA, hX⟩ := id K
  unfold m_X8_touchRecord at hm
  refine lv_aload_n hx hb dX8_touchRecord_0 rfl (lv_at hl 0 rfl) ?_
  refine g_get (ref := "MigrantHeapModel") (C := RX8) (T := TX8) (N := 44) (ci := 8) K in_X8_touchRecord_X8 hw 0 rfl (by decide : 0 < 1) rfl rfl 15 (by decide) (List.mem_of_getElem? (i := 1) rfl) rfl rfl dX8_touchRecord_1 ?_
  refine lv_iload_n hx hb dX8_touchRecord_4 rfl (lv_at hl 1 rfl) ?_
  refine lv_aload_n hx hb dX8_touchRecord_5 rfl (lv_at hl 0 rfl) ?_
  refine g_get (ref := "MigrantHeapModel") (C := RX8) (T := TX8) (N := 44) (ci := 8) K in_X8_touchRecord_X8 hw 0 rfl (by decide : 0 < 1) rfl rfl 2 (by decide) (List.mem_of_getElem? (i := 2) rfl) rfl rfl dX8_touchRecord_6 ?_
  refine lv_aload_n hx hb dX8_touchRecord_9 rfl (lv_at hl 0 rfl) ?_
  refine g_get (ref := "MigrantHeapModel") (C := RX8) (T := TX8) (N := 44) (ci := 8) K in_X8_touchRecord_X8 hw 0 rfl (by decide : 0 < 1) rfl rfl 14 (by decide) (List.mem_of_getElem? (i := 3) rfl) rfl rfl dX8_touchRecord_10 ?_
  refine lv_iload_n hx hb dX8_touchRecord_13 rfl (lv_at hl 1 rfl) ?_
  obtain ⟨h9, hm⟩ := chkS hm
  refine g_iald K hw 13 0 rfl (by decide) rfl rfl h9 dX8_touchRecord_14 ?_
  obtain ⟨h10, hm⟩ := chkS hm
  refine g_iald K hw 1 0 rfl (by decide) rfl rfl h10 dX8_touchRecord_15 ?_
  obtain ⟨h11, hm⟩ := chkS hm
  refine g_iast K hw 14 0 rfl (by decide) rfl rfl h11 dX8_touchRecord_16 (eM_15 cy ad S x1.toNatClampNeg (S.1 2 (S.1 14 x1.toNatClampNeg).toNatClampNeg)) (fun H locs hw => ?_)
  obtain ⟨S12, hS12, hm⟩ := nm_ex hm
  rw [← hS12] at hw
  exact g_vret (GG := GM cy ad) K hw (Option.some.inj hm).symm dX8_touchRecord_17
set_option maxRecDepth 100000 in
set_option maxHeartbeats 4000000 in
theorem c_X8_touchRecord (l : Launch) (D : va_G) (cy : Nat → ClassId) (ad : Nat → Nat → Nat) (sz n : Nat) (S : MSt) (x1 : Int32)  {out : MSt} (hm : m_X8_touchRecord n S x1 = some out) : Met l yX8_touchRecord wsX8_touchRecord rm_X8_touchRecord (va_Pc [.ref (ad 0 0), .int x1] (Pre D (tysC cy) (GM cy ad S) (fun _ _ => True) sz)) (va_Qv (fun (u : MSt) => out = u) (fun u => Pst D (tysC cy) (AA (adrs (GM cy ad S)) sz) (GM cy ad u)) (AA (adrs (GM cy ad S)) sz)) 0 0 (AA (adrs (GM cy ad S)) sz) := by
  refine g_met (by decide) rfl (Nat.le_of_ble_eq_true rfl) ?_
  intro p e s m args below meth c K hw ls hl
  exact t_X8_touchRecord_0 (cy := cy) K n S x1  hm _ _ hw ls hl
end W_X8_touchRecord
section W_X8_place
variable {p : Program} {l : Launch} {e : Env} {s : State} {m : MethodId} {args : Array Value} {below : List Frame} {meth : Method} {c : Code} {D : va_G} {A : Nat → Prop} {cy : Nat → ClassId} {ad : Nat → Nat → Nat} {Q : State → Prop}
abbrev rm_X8_place : Room := { frames := 1, cells := 0, slots := 0, locals := 24 }
theorem in_X8_place_X8 : ∀ w ∈ u_ws RX8 TX8 44, w ∈ wsX8_place := by decide +kernel
set_option maxRecDepth 100000 in
set_option maxHeartbeats 4000000 in
theorem t_X8_place_J115 (K : Cx p s m args meth c D A (tysC cy) RX8 cX8_place 7 (some .int) wsX8_place (fun _ _ => True)) (n : Nat) (S : MSt) (x5 : Int32) (x6 : Int32) (y1 : Int32) {out : Int32 × MSt} (hm : m_X8_place_J115 n S x5 x6 y1 = some out) : ∀ (H : Heap) (locs : List Loc), Wd D A s.heap (GM cy ad S) H locs → ∀ ls : Array Slot, lv_has ls 7 [(5, .int x5), (6, .int x6)] → W p l e rm_X8_place s m args below meth c H locs 0 0 (MQ below (va_Qi (fun r (u : MSt) => out = (r, u)) (fun u => Pst D (tysC cy) A (GM cy ad u)) A) args s 0 0 A) (F0 m 115 ls [.int y1, .ref (ad 0 0)]) := by
  intro H locs hw ls hl 
  obtain ⟨hx, hb, hml, hown, hts, hr, hlo, hK, hA, hX⟩ := id K
  unfold m_X8_place_J115 at hm
  refine g_put (v := .int y1) (ty := .int) (ref := "MigrantHeapModel") (C := RX8) (T := TX8) (N := 44) (ci := 8) K in_X8_place_X8 tyX8 tyX8_ok nmX8 hw 0 rfl (by decide : 0 < 1) rfl rfl 0 (by decide) (List.mem_of_getElem? (i := 2) rfl) rfl rfl (by decide +kernel) rfl rfl (Nat.le_of_ble_eq_true rfl) dX8_place_115 (eM_0 cy ad S y1) (fun H locs hw => ?_)
  obtain ⟨S40, hS40, hm⟩ := nm_ex hm
  rw [← hS40] at hw
  refine lv_iload hx hb dX8_place_118 (lv_at hl 1 rfl) ?_
  refine lv_if_eq (tgt := 128) hx hb dX8_place_120 (by decide) (fun c41 => ?_) (fun c41 => ?_)
  · replace hm := (if_pos c41).symm.trans hm
    refine lv_iconst (v := (-1)) hx hb dX8_place_128 (by decide) ?_
    exact g_iret (GG := GM cy ad) K hw (Option.some.inj hm).symm dX8_place_129
  · replace hm := (if_neg c41).symm.trans hm
    refine lv_iload hx hb dX8_place_123 (lv_at hl 0 rfl) ?_
    refine lv_goto (tgt := 129) hx hb dX8_place_125 (by decide) ?_
    exact g_iret (GG := GM cy ad) K hw (Option.some.inj hm).symm dX8_place_129
set_option maxRecDepth 100000 in
set_option maxHeartbeats 4000000 in
theorem t_X8_place_J102 (K : Cx p s m args meth c D A (tysC cy) RX8 cX8_place 7 (some .int) wsX8_place (fun _ _ => True)) (n : Nat) (S : MSt) (x5 : Int32) (y0 : Int32) {out : Int32 × MSt} (hm : m_X8_place_J102 n S x5 y0 = some out) : ∀ (H : Heap) (locs : List Loc), Wd D A s.heap (GM cy ad S) H locs → ∀ ls : Array Slot, lv_has ls 7 [(0, .ref (ad 0 0)), (5, .int x5)] → W p l e rm_X8_place s m args below meth c H locs 0 0 (MQ below (va_Qi (fun r (u : MSt) => out = (r, u)) (fun u => Pst D (tysC cy) A (GM cy ad u)) A) args s 0 0 A) (F0 m 102 ls [.int y0]) := by
  intro H locs hw ls hl 
  obtain ⟨hx, hb, hml, hown, hts, hr, hlo, hK, hA, hX⟩ := id K
  unfold m_X8_place_J102 at hm
  refine lv_istore (lv' := [(6, .int y0), (0, .ref (ad 0 0)), (5, .int x5)]) hx hb dX8_place_102 hl (by decide) rfl (fun ls hl => ?_)
  refine lv_aload_n hx hb dX8_place_104 rfl (lv_at hl 1 rfl) ?_
  refine lv_iload hx hb dX8_place_105 (lv_at hl 0 rfl) ?_
  refine lv_if_eq (tgt := 114) hx hb dX8_place_107 (by decide) (fun c42 => ?_) (fun c42 => ?_)
  · replace hm := (if_pos c42).symm.trans hm
    refine lv_iconst (v := 2) hx hb dX8_place_114 (by decide) ?_
    exact t_X8_place_J115 K n S x5 y0 2 hm H locs hw ls (lv_sub hl [2, 0] rfl)
  · replace hm := (if_neg c42).symm.trans hm
    refine lv_iconst (v := 0) hx hb dX8_place_110 (by decide) ?_
    refine lv_goto (tgt := 115) hx hb dX8_place_111 (by decide) ?_
    exact t_X8_place_J115 K n S x5 y0 0 hm H locs hw ls (lv_sub hl [2, 0] rfl)
set_option maxRecDepth 100000 in
set_option maxHeartbeats 4000000 in
theorem t_X8_place_J101 (K : Cx p s m args meth c D A (tysC cy) RX8 cX8_place 7 (some .int) wsX8_place (fun _ _ => True)) (n : Nat) (S : MSt) (x5 : Int32) {out : Int32 × MSt} (hm : m_X8_place_J101 n S x5 = some out) : ∀ (H : Heap) (locs : List Loc), Wd D A s.heap (GM cy ad S) H locs → ∀ ls : Array Slot, lv_has ls 7 [(0, .ref (ad 0 0)), (5, .int x5)] → W p l e rm_X8_place s m args below meth c H locs 0 0 (MQ below (va_Qi (fun r (u : MSt) => out = (r, u)) (fun u => Pst D (tysC cy) A (GM cy ad u)) A) args s 0 0 A) (F0 m 101 ls []) := by
  intro H locs hw ls hl 
  obtain ⟨hx, hb, hml, hown, hts, hr, hlo, hK, hA, hX⟩ := id K
  unfold m_X8_place_J101 at hm
  refine lv_iconst (v := 0) hx hb dX8_place_101 (by decide) ?_
  exact t_X8_place_J102 K n S x5 0 hm H locs hw ls (lv_sub hl [0, 1] rfl)
set_option maxRecDepth 100000 in
set_option maxHeartbeats 4000000 in
theorem t_X8_place_J94 (K : Cx p s m args meth c D A (tysC cy) RX8 cX8_place 7 (some .int) wsX8_place (fun _ _ => True)) (n : Nat) (S : MSt) (x5 : Int32) (y0 : Int32) (y1 : Int32) {out : Int32 × MSt} (hm : m_X8_place_J94 n S x5 y0 y1 = some out) : ∀ (H : Heap) (locs : List Loc), Wd D A s.heap (GM cy ad S) H locs → ∀ ls : Array Slot, lv_has ls 7 [(0, .ref (ad 0 0)), (5, .int x5)] → W p l e rm_X8_place s m args below meth c H locs 0 0 (MQ below (va_Qi (fun r (u : MSt) => out = (r, u)) (fun u => Pst D (tysC cy) A (GM cy ad u)) A) args s 0 0 A) (F0 m 94 ls [.int y1, .int y0]) := by
  intro H locs hw ls hl 
  obtain ⟨hx, hb, hml, hown, hts, hr, hlo, hK, hA, hX⟩ := id K
  unfold m_X8_place_J94 at hm
  refine lv_icmp_ne (tgt := 101) hx hb dX8_place_94 (by decide) (fun c43 => ?_) (fun c43 => ?_)
  · replace hm := (if_pos c43).symm.trans hm
    exact t_X8_place_J101 K n S x5 hm H locs hw ls (lv_sub hl [0, 1] rfl)
  · replace hm := (if_neg (fun h => h c43)).symm.trans hm
    refine lv_iconst (v := 1) hx hb dX8_place_97 (by decide) ?_
    refine lv_goto (tgt := 102) hx hb dX8_place_98 (by decide) ?_
    exact t_X8_place_J102 K n S x5 1 hm H locs hw ls (lv_sub hl [0, 1] rfl)
set_option maxRecDepth 100000 in
set_option maxHeartbeats 4000000 in
theorem t_X8_place_J33 (K : Cx p s m args meth c D A (tysC cy) RX8 cX8_place 7 (some .int) wsX8_place (fun _ _ => True)) (n : Nat) (S : MSt) (x1 : Int32) (x2 : Int32) (x3 : Int32) (y1 : Int32) {out : Int32 × MSt} (hm : m_X8_place_J33 n S x1 x2 x3 y1 = some out) : ∀ (H : Heap) (locs : List Loc), Wd D A s.heap (GM cy ad S) H locs → ∀ ls : Array Slot, lv_has ls 7 [(0, .ref (ad 0 0)), (1, .int x1), (2, .int x2), (3, .int x3)] → W p l e rm_X8_place s m args below meth c H locs 0 0 (MQ below (va_Qi (fun r (u : MSt) => out = (r, u)) (fun u => Pst D (tysC cy) A (GM cy ad u)) A) args s 0 0 A) (F0 m 33 ls [.int y1, .ref (ad 0 0)]) := by
  intro H locs hw ls hl 
  obtain ⟨hx, hb, hml, hown, hts, hr, hlo, hK, hA, hX⟩ := id K
  unfold m_X8_place_J33 at hm
  refine g_put (v := .int y1) (ty := .int) (ref := "MigrantHeapModel") (C := RX8) (T := TX8) (N := 44) (ci := 8) K in_X8_place_X8 tyX8 tyX8_ok nmX8 hw 0 rfl (by decide : 0 < 1) rfl rfl 0 (by decide) (List.mem_of_getElem? (i := 2) rfl) rfl rfl (by decide +kernel) rfl rfl (Nat.le_of_ble_eq_true rfl) dX8_place_33 (eM_0 cy ad S y1) (fun H locs hw => ?_)
  obtain ⟨S44, hS44, hm⟩ := nm_ex hm
  rw [← hS44] at hw
  refine lv_aload_n hx hb dX8_place_36 rfl (lv_at hl 0 rfl) ?_
  refine g_get (ref := "MigrantHeapModel") (C := RX8) (T := TX8) (N := 44) (ci := 8) K in_X8_place_X8 hw 0 rfl (by decide : 0 < 1) rfl rfl 0 (by decide) (List.mem_of_getElem? (i := 2) rfl) rfl rfl dX8_place_37 ?_
  refine lv_if_le (tgt := 45) hx hb dX8_place_40 (by decide) (fun c45 => ?_) (fun c45 => ?_)
  · replace hm := (if_pos c45).symm.trans hm
    refine lv_aload_n hx hb dX8_place_45 rfl (lv_at hl 0 rfl) ?_
    refine g_get (ref := "MigrantHeapModel") (C := RX8) (T := TX8) (N := 44) (ci := 8) K in_X8_place_X8 hw 0 rfl (by decide : 0 < 1) rfl rfl 14 (by decide) (List.mem_of_getElem? (i := 3) rfl) rfl rfl dX8_place_46 ?_
    refine lv_aload_n hx hb dX8_place_49 rfl (lv_at hl 0 rfl) ?_
    refine g_get (ref := "MigrantHeapModel") (C := RX8) (T := TX8) (N := 44) (ci := 8) K in_X8_place_X8 hw 0 rfl (by decide : 0 < 1) rfl rfl 19 (by decide) (List.mem_of_getElem? (i := 1) rfl) rfl rfl dX8_place_50 ?_
    refine lv_iload_n hx hb dX8_place_53 rfl (lv_at hl 1 rfl) ?_
    obtain ⟨h46, hm⟩ := chkS hm
    refine g_iald K hw 18 0 rfl (by decide) rfl rfl h46 dX8_place_54 ?_
    obtain ⟨h47, hm⟩ := chkS hm
    refine g_iald K hw 13 0 rfl (by decide) rfl rfl h47 dX8_place_55 ?_
    obtain ⟨x48, hx48, hm⟩ := nm_ex hm
    refine W.eq (g2 := F0 m 56 ls (.int x48 :: [])) (by rw [hx48]) ?_
    refine lv_istore (lv' := [(4, .int x48), (0, .ref (ad 0 0)), (1, .int x1), (2, .int x2), (3, .int x3)]) hx hb dX8_place_56 hl (by decide) rfl (fun ls hl => ?_)
    refine lv_aload_n hx hb dX8_place_58 rfl (lv_at hl 1 rfl) ?_
    refine lv_iload hx hb dX8_place_59 (lv_at hl 0 rfl) ?_
    refine lv_iload_n hx hb dX8_place_61 rfl (lv_at hl 3 rfl) ?_
    obtain ⟨z50, hc49, hm⟩ := bindS hm
    refine g_calli (GG := GM cy ad) K hw (va_runV (As := [.int x48, .int x2]) (rest := []) (g_fix K) (c_X8_find l D cy ad H.size n S44 x48 x2  hc49) (cwV 2 (g_hts K) gX8_place_X8_find rfl rfl rfl (by decide +kernel) ⟨Nat.le_of_ble_eq_true rfl, Nat.le_of_ble_eq_true rfl⟩) ⟨g_blind rides_none, g_recv K hw 0 rfl (by decide : 0 < 1) rfl rfl, g_pre (X2 := fun _ _ => True) K hw (fun _ _ _ => trivial)⟩ rfl rfl hl.1 rfl (lv_room (Nat.le_of_ble_eq_true rfl)) dX8_place_62 ⟨Nat.le_of_ble_eq_true rfl, Nat.le_of_ble_eq_true rfl⟩) (fun r u H locs hp hw => ?_)
    obtain ⟨rfl, hu⟩ := hp
    rw [hu] at hw
    refine lv_istore (lv' := [(5, .int z50), (4, .int x48), (0, .ref (ad 0 0)), (1, .int x1), (2, .int x2), (3, .int x3)]) hx hb dX8_place_65 hl (by decide) rfl (fun ls hl => ?_)
    refine lv_iload hx hb dX8_place_67 (lv_at hl 0 rfl) ?_
    refine lv_if_lt (tgt := 101) hx hb dX8_place_69 (by decide) (fun c51 => ?_) (fun c51 => ?_)
    · replace hm := (if_pos c51).symm.trans hm
      exact t_X8_place_J101 K n S44 z50 hm H locs hw ls (lv_sub hl [2, 0] rfl)
    · replace hm := (if_neg c51).symm.trans hm
      refine lv_iload_n hx hb dX8_place_72 rfl (lv_at hl 5 rfl) ?_
      refine lv_aload_n hx hb dX8_place_73 rfl (lv_at hl 2 rfl) ?_
      refine g_get (ref := "MigrantHeapModel") (C := RX8) (T := TX8) (N := 44) (ci := 8) K in_X8_place_X8 hw 0 rfl (by decide : 0 < 1) rfl rfl 6 (by decide) (List.mem_of_getElem? (i := 4) rfl) rfl rfl dX8_place_74 ?_
      refine lv_bipush (v := 6) hx hb dX8_place_77 (by decide) ?_
      refine lv_iload hx hb dX8_place_79 (lv_at hl 1 rfl) ?_
      refine lv_imul hx hb dX8_place_81 ?_
      refine lv_iload hx hb dX8_place_82 (lv_at hl 0 rfl) ?_
      refine lv_iadd hx hb dX8_place_84 ?_
      obtain ⟨h52, hm⟩ := chkS hm
      refine g_iald K hw 5 0 rfl (by decide) rfl rfl h52 dX8_place_85 ?_
      refine lv_if_ne (tgt := 93) hx hb dX8_place_86 (by decide) (fun c53 => ?_) (fun c53 => ?_)
      · replace hm := (if_pos c53).symm.trans hm
        refine lv_iconst (v := 0) hx hb dX8_place_93 (by decide) ?_
        exact t_X8_place_J94 K n S44 z50 x3 0 hm H locs hw ls (lv_sub hl [2, 0] rfl)
      · replace hm := (if_neg (fun h => h c53)).symm.trans hm
        refine lv_iconst (v := 1) hx hb dX8_place_89 (by decide) ?_
        refine lv_goto (tgt := 94) hx hb dX8_place_90 (by decide) ?_
        exact t_X8_place_J94 K n S44 z50 x3 1 hm H locs hw ls (lv_sub hl [2, 0] rfl)
  · replace hm := (if_neg c45).symm.trans hm
    refine lv_iconst (v := (-1)) hx hb dX8_place_43 (by decide) ?_
    exact g_iret (GG := GM cy ad) K hw (Option.some.inj hm).symm dX8_place_44
set_option maxRecDepth 100000 in
set_option maxHeartbeats 4000000 in
theorem t_X8_place_J15 (K : Cx p s m args meth c D A (tysC cy) RX8 cX8_place 7 (some .int) wsX8_place (fun _ _ => True)) (n : Nat) (S : MSt) (x1 : Int32) (x2 : Int32) (x3 : Int32) {out : Int32 × MSt} (hm : m_X8_place_J15 n S x1 x2 x3 = some out) : ∀ (H : Heap) (locs : List Loc), Wd D A s.heap (GM cy ad S) H locs → ∀ ls : Array Slot, lv_has ls 7 [(0, .ref (ad 0 0)), (1, .int x1), (2, .int x2), (3, .int x3)] → W p l e rm_X8_place s m args below meth c H locs 0 0 (MQ below (va_Qi (fun r (u : MSt) => out = (r, u)) (fun u => Pst D (tysC cy) A (GM cy ad u)) A) args s 0 0 A) (F0 m 15 ls [.ref (ad 0 0)]) := by
  intro H locs hw ls hl 
  obtain ⟨hx, hb, hml, hown, hts, hr, hlo, hK, hA, hX⟩ := id K
  unfold m_X8_place_J15 at hm
  refine lv_iconst (v := 1) hx hb dX8_place_15 (by decide) ?_
  refine lv_goto (tgt := 33) hx hb dX8_place_16 (by decide) ?_
  exact t_X8_place_J33 K n S x1 x2 x3 1 hm H locs hw ls (lv_sub hl [0, 1, 2, 3] rfl)
set_option maxRecDepth 100000 in
set_option maxHeartbeats 4000000 in
theorem t_X8_place_0 (K : Cx p s m args meth c D A (tysC cy) RX8 cX8_place 7 (some .int) wsX8_place (fun _ _ => True)) (n : Nat) (S : MSt) (x1 : Int32) (x2 : Int32) (x3 : Int32)  {out : Int32 × MSt} (hm : m_X8_place n S x1 x2 x3 = some out) : ∀ (H : Heap) (locs : List Loc), Wd D A s.heap (GM cy ad S) H locs → ∀ ls : Array Slot, lv_has ls 7 [(0, .ref (ad 0 0)), (1, .int x1), (2, .int x2), (3, .int x3)] → W p l e rm_X8_place s m args below meth c H locs 0 0 (MQ below (va_Qi (fun r (u : MSt) => out = (r, u)) (fun u => Pst D (tysC cy) A (GM cy ad u)) A) args s 0 0 A) (F0 m 0 ls []) := by
  intro H locs hw ls hl
  obtain ⟨hx, hb, hml, hown, hts, hr, hlo, hK, hA, hX⟩ := id K
  unfold m_X8_place at hm
  refine lv_aload_n hx hb dX8_place_0 rfl (lv_at hl 0 rfl) ?_
  refine lv_iload_n hx hb dX8_place_1 rfl (lv_at hl 1 rfl) ?_
  obtain ⟨z55, hc54, hm⟩ := bindS hm
  refine g_calli (GG := GM cy ad) K hw (va_runS (As := [.int x1]) (rest := [.ref (ad 0 0)]) (g_fix K) (c_X8_isRoot l D cy ad H.size n S x1  hc54) (va_cwS 1 (g_hts K) gX8_place_X8_isRoot rfl rfl rfl (by decide +kernel) ⟨Nat.le_of_ble_eq_true rfl, Nat.le_of_ble_eq_true rfl⟩) ⟨g_blind rides_none, g_pre (X2 := fun _ _ => True) K hw (fun _ _ _ => trivial)⟩ rfl rfl hl.1 rfl (lv_room (Nat.le_of_ble_eq_true rfl)) dX8_place_2 ⟨Nat.le_of_ble_eq_true rfl, Nat.le_of_ble_eq_true rfl⟩) (fun r u H locs hp hw => ?_)
  obtain ⟨rfl, hu⟩ := hp
  rw [hu] at hw
  refine lv_if_eq (tgt := 15) hx hb dX8_place_5 (by decide) (fun c56 => ?_) (fun c56 => ?_)
  · replace hm := (if_pos c56).symm.trans hm
    exact t_X8_place_J15 K n S x1 x2 x3 hm H locs hw ls (lv_sub hl [0, 1, 2, 3] rfl)
  · replace hm := (if_neg c56).symm.trans hm
    refine lv_iload_n hx hb dX8_place_8 rfl (lv_at hl 2 rfl) ?_
    obtain ⟨z58, hc57, hm⟩ := bindS hm
    refine g_calli (GG := GM cy ad) K hw (va_runS (As := [.int x2]) (rest := [.ref (ad 0 0)]) (g_fix K) (c_X8_isName l D cy ad H.size n S x2  hc57) (va_cwS 1 (g_hts K) gX8_place_X8_isName rfl rfl rfl (by decide +kernel) ⟨Nat.le_of_ble_eq_true rfl, Nat.le_of_ble_eq_true rfl⟩) ⟨g_blind rides_none, g_pre (X2 := fun _ _ => True) K hw (fun _ _ _ => trivial)⟩ rfl rfl hl.1 rfl (lv_room (Nat.le_of_ble_eq_true rfl)) dX8_place_9 ⟨Nat.le_of_ble_eq_true rfl, Nat.le_of_ble_eq_true rfl⟩) (fun r u H locs hp hw => ?_)
    obtain ⟨rfl, hu⟩ := hp
    rw [hu] at hw
    refine lv_if_ne (tgt := 19) hx hb dX8_place_12 (by decide) (fun c59 => ?_) (fun c59 => ?_)
    · replace hm := (if_pos c59).symm.trans hm
      refine lv_aload_n hx hb dX8_place_19 rfl (lv_at hl 0 rfl) ?_
      refine g_get (ref := "MigrantHeapModel") (C := RX8) (T := TX8) (N := 44) (ci := 8) K in_X8_place_X8 hw 0 rfl (by decide : 0 < 1) rfl rfl 19 (by decide) (List.mem_of_getElem? (i := 1) rfl) rfl rfl dX8_place_20 ?_
      refine lv_iload_n hx hb dX8_place_23 rfl (lv_at hl 1 rfl) ?_
      obtain ⟨h60, hm⟩ := chkS hm
      refine g_iald K hw 18 0 rfl (by decide) rfl rfl h60 dX8_place_24 ?_
      refine lv_if_ge (tgt := 32) hx hb dX8_place_25 (by decide) (fun c61 => ?_) (fun c61 => ?_)
      · replace hm := (if_pos c61).symm.trans hm
        refine lv_iconst (v := 0) hx hb dX8_place_32 (by decide) ?_
        exact t_X8_place_J33 K n S x1 x2 x3 0 hm H locs hw ls (lv_sub hl [0, 1, 2, 3] rfl)
      · replace hm := (if_neg c61).symm.trans hm
        refine lv_iconst (v := 2) hx hb dX8_place_28 (by decide) ?_
        refine lv_goto (tgt := 33) hx hb dX8_place_29 (by decide) ?_
        exact t_X8_place_J33 K n S x1 x2 x3 2 hm H locs hw ls (lv_sub hl [0, 1, 2, 3] rfl)
    · replace hm := (if_neg (fun h => h c59)).symm.trans hm
      exact t_X8_place_J15 K n S x1 x2 x3 hm H locs hw ls (lv_sub hl [0, 1, 2, 3] rfl)
set_option maxRecDepth 100000 in
set_option maxHeartbeats 4000000 in
theorem c_X8_place (l : Launch) (D : va_G) (cy : Nat → ClassId) (ad : Nat → Nat → Nat) (sz n : Nat) (S : MSt) (x1 : Int32) (x2 : Int32) (x3 : Int32)  {out : Int32 × MSt} (hm : m_X8_place n S x1 x2 x3 = some out) : Met l yX8_place wsX8_place rm_X8_place (va_Pc [.ref (ad 0 0), .int x1, .int x2, .int x3] (Pre D (tysC cy) (GM cy ad S) (fun _ _ => True) sz)) (va_Qi (fun r (u : MSt) => out = (r, u)) (fun u => Pst D (tysC cy) (AA (adrs (GM cy ad S)) sz) (GM cy ad u)) (AA (adrs (GM cy ad S)) sz)) 0 0 (AA (adrs (GM cy ad S)) sz) := by
  refine g_met (by decide) rfl (Nat.le_of_ble_eq_true rfl) ?_
  intro p e s m args below meth c K hw ls hl
  exact t_X8_place_0 (cy := cy) K n S x1 x2 x3  hm _ _ hw ls hl
end W_X8_place
section W_X8_get
variable {p : Program} {l : Launch} {e : Env} {s : State} {m : MethodId} {args : Array Value} {below : List Frame} {meth : Method} {c : Code} {D : va_G} {A : Nat → Prop} {cy : Nat → ClassId} {ad : Nat → Nat → Nat} {Q : State → Prop}
abbrev rm_X8_get : Room := { frames := 2, cells := 0, slots := 0, locals := 50 }
theorem in_X8_get_X8 : ∀ w ∈ u_ws RX8 TX8 44, w ∈ wsX8_get := by decide +kernel
set_option maxRecDepth 100000 in
set_option maxHeartbeats 4000000 in
theorem t_X8_get_0 (K : Cx p s m args meth c D A (tysC cy) RX8 cX8_get 4 (some .int) wsX8_get (fun _ _ => True)) (n : Nat) (S : MSt) (x1 : Int32) (x2 : Int32)  {out : Int32 × MSt} (hm : m_X8_get n S x1 x2 = some out) : ∀ (H : Heap) (locs : List Loc), Wd D A s.heap (GM cy ad S) H locs → ∀ ls : Array Slot, lv_has ls 4 [(0, .ref (ad 0 0)), (1, .int x1), (2, .int x2)] → W p l e rm_X8_get s m args below meth c H locs 0 0 (MQ below (va_Qi (fun r (u : MSt) => out = (r, u)) (fun u => Pst D (tysC cy) A (GM cy ad u)) A) args s 0 0 A) (F0 m 0 ls []) := by
  intro H locs hw ls hl
  obtain ⟨hx, hb, hml, hown, hts, hr, hlo, hK, hA, hX⟩ := id K
  unfold m_X8_get at hm
  refine lv_aload_n hx hb dX8_get_0 rfl (lv_at hl 0 rfl) ?_
  refine lv_iload_n hx hb dX8_get_1 rfl (lv_at hl 1 rfl) ?_
  refine lv_iload_n hx hb dX8_get_2 rfl (lv_at hl 2 rfl) ?_
  refine lv_iconst (v := 1) hx hb dX8_get_3 (by decide) ?_
  obtain ⟨z16, hc15, hm⟩ := bindS hm
  refine g_calli (GG := GM cy ad) K hw (va_runV (As := [.int x1, .int x2, .int 1]) (rest := []) (g_fix K) (c_X8_place l D cy ad H.size n S x1 x2 1  hc15) (cwV 3 (g_hts K) gX8_get_X8_place rfl rfl rfl (by decide +kernel) ⟨Nat.le_of_ble_eq_true rfl, Nat.le_of_ble_eq_true rfl⟩) ⟨g_blind rides_none, g_recv K hw 0 rfl (by decide : 0 < 1) rfl rfl, g_pre (X2 := fun _ _ => True) K hw (fun _ _ _ => trivial)⟩ rfl rfl hl.1 rfl (lv_room (Nat.le_of_ble_eq_true rfl)) dX8_get_4 ⟨Nat.le_of_ble_eq_true rfl, Nat.le_of_ble_eq_true rfl⟩) (fun r u H locs hp hw => ?_)
  obtain ⟨rfl, rfl⟩ : r = z16.1 ∧ u = z16.2 := by rw [hp]; exact ⟨rfl, rfl⟩
  refine lv_istore_n (lv' := [(3, .int z16.1), (0, .ref (ad 0 0)), (1, .int x1), (2, .int x2)]) hx hb dX8_get_7 rfl hl (by decide) rfl (fun ls hl => ?_)
  refine lv_iload_n hx hb dX8_get_8 rfl (lv_at hl 0 rfl) ?_
  refine lv_if_ge (tgt := 14) hx hb dX8_get_9 (by decide) (fun c17 => ?_) (fun c17 => ?_)
  · replace hm := (if_pos c17).symm.trans hm
    refine lv_aload_n hx hb dX8_get_14 rfl (lv_at hl 1 rfl) ?_
    refine lv_aload_n hx hb dX8_get_15 rfl (lv_at hl 1 rfl) ?_
    refine g_get (ref := "MigrantHeapModel") (C := RX8) (T := TX8) (N := 44) (ci := 8) K in_X8_get_X8 hw 0 rfl (by decide : 0 < 1) rfl rfl 19 (by decide) (List.mem_of_getElem? (i := 1) rfl) rfl rfl dX8_get_16 ?_
    refine lv_iload_n hx hb dX8_get_19 rfl (lv_at hl 2 rfl) ?_
    obtain ⟨h18, hm⟩ := chkS hm
    refine g_iald K hw 18 0 rfl (by decide) rfl rfl h18 dX8_get_20 ?_
    obtain ⟨z20, hc19, hm⟩ := bindS hm
    refine g_callv (GG := GM cy ad) K hw (va_runV (As := [.int (z16.2.1 19 x1.toNatClampNeg)]) (rest := []) (g_fix K) (c_X8_touchRecord l D cy ad H.size n z16.2 (z16.2.1 19 x1.toNatClampNeg)  hc19) (cwV 1 (g_hts K) gX8_get_X8_touchRecord rfl rfl rfl (by decide +kernel) ⟨Nat.le_of_ble_eq_true rfl, Nat.le_of_ble_eq_true rfl⟩) ⟨g_blind rides_none, g_recv K hw 0 rfl (by decide : 0 < 1) rfl rfl, g_pre (X2 := fun _ _ => True) K hw (fun _ _ _ => trivial)⟩ rfl rfl hl.1 rfl (lv_room (Nat.le_of_ble_eq_true rfl)) dX8_get_21 ⟨Nat.le_of_ble_eq_true rfl, Nat.le_of_ble_eq_true rfl⟩) (fun u H locs hp hw => ?_)
    obtain rfl := hp
    refine lv_aload_n hx hb dX8_get_24 rfl (lv_at hl 1 rfl) ?_
    refine g_get (ref := "MigrantHeapModel") (C := RX8) (T := TX8) (N := 44) (ci := 8) K in_X8_get_X8 hw 0 rfl (by decide : 0 < 1) rfl rfl 16 (by decide) (List.mem_of_getElem? (i := 2) rfl) rfl rfl dX8_get_25 ?_
    refine lv_bipush (v := 6) hx hb dX8_get_28 (by decide) ?_
    refine lv_aload_n hx hb dX8_get_30 rfl (lv_at hl 1 rfl) ?_
    refine g_get (ref := "MigrantHeapModel") (C := RX8) (T := TX8) (N := 44) (ci := 8) K in_X8_get_X8 hw 0 rfl (by decide : 0 < 1) rfl rfl 19 (by decide) (List.mem_of_getElem? (i := 1) rfl) rfl rfl dX8_get_31 ?_
    refine lv_iload_n hx hb dX8_get_34 rfl (lv_at hl 2 rfl) ?_
    obtain ⟨h21, hm⟩ := chkS hm
    refine g_iald K hw 18 0 rfl (by decide) rfl rfl h21 dX8_get_35 ?_
    refine lv_imul hx hb dX8_get_36 ?_
    refine lv_iload_n hx hb dX8_get_37 rfl (lv_at hl 0 rfl) ?_
    refine lv_iadd hx hb dX8_get_38 ?_
    obtain ⟨h22, hm⟩ := chkS hm
    refine g_iald K hw 15 0 rfl (by decide) rfl rfl h22 dX8_get_39 ?_
    exact g_iret (GG := GM cy ad) K hw (Option.some.inj hm).symm dX8_get_40
  · replace hm := (if_neg c17).symm.trans hm
    refine lv_iconst (v := 0) hx hb dX8_get_12 (by decide) ?_
    exact g_iret (GG := GM cy ad) K hw (Option.some.inj hm).symm dX8_get_13
set_option maxRecDepth 100000 in
set_option maxHeartbeats 4000000 in
theorem c_X8_get (l : Launch) (D : va_G) (cy : Nat → ClassId) (ad : Nat → Nat → Nat) (sz n : Nat) (S : MSt) (x1 : Int32) (x2 : Int32)  {out : Int32 × MSt} (hm : m_X8_get n S x1 x2 = some out) : Met l yX8_get wsX8_get rm_X8_get (va_Pc [.ref (ad 0 0), .int x1, .int x2] (Pre D (tysC cy) (GM cy ad S) (fun _ _ => True) sz)) (va_Qi (fun r (u : MSt) => out = (r, u)) (fun u => Pst D (tysC cy) (AA (adrs (GM cy ad S)) sz) (GM cy ad u)) (AA (adrs (GM cy ad S)) sz)) 0 0 (AA (adrs (GM cy ad S)) sz) := by
  refine g_met (by decide) rfl (Nat.le_of_ble_eq_true rfl) ?_
  intro p e s m args below meth c K hw ls hl
  exact t_X8_get_0 (cy := cy) K n S x1 x2  hm _ _ hw ls hl
end W_X8_get
section W_X8_set
variable {p : Program} {l : Launch} {e : Env} {s : State} {m : MethodId} {args : Array Value} {below : List Frame} {meth : Method} {c : Code} {D : va_G} {A : Nat → Prop} {cy : Nat → ClassId} {ad : Nat → Nat → Nat} {Q : State → Prop}
abbrev rm_X8_set : Room := { frames := 2, cells := 0, slots := 0, locals := 50 }
theorem in_X8_set_X8 : ∀ w ∈ u_ws RX8 TX8 44, w ∈ wsX8_set := by decide +kernel
set_option maxRecDepth 100000 in
set_option maxHeartbeats 4000000 in
theorem t_X8_set_J66 (K : Cx p s m args meth c D A (tysC cy) RX8 cX8_set 7 none wsX8_set (fun _ _ => True)) (n : Nat) (S : MSt) (x3 : Int32) (x4 : Int32) (x5 : Int32) (y1 : Int32) {out : MSt} (hm : m_X8_set_J66 n S x3 x4 x5 y1 = some out) : ∀ (H : Heap) (locs : List Loc), Wd D A s.heap (GM cy ad S) H locs → ∀ ls : Array Slot, lv_has ls 7 [(0, .ref (ad 0 0)), (3, .int x3), (4, .int x4), (5, .int x5)] → W p l e rm_X8_set s m args below meth c H locs 0 0 (MQ below (va_Qv (fun (u : MSt) => out = u) (fun u => Pst D (tysC cy) A (GM cy ad u)) A) args s 0 0 A) (F0 m 66 ls [.int y1, .ref (ad 0 0)]) := by
  intro H locs hw ls hl 
  obtain ⟨hx, hb, hml, hown, hts, hr, hlo, hK, hA, hX⟩ := id K
  unfold m_X8_set_J66 at hm
  refine g_put (v := .int y1) (ty := .int) (ref := "MigrantHeapModel") (C := RX8) (T := TX8) (N := 44) (ci := 8) K in_X8_set_X8 tyX8 tyX8_ok nmX8 hw 0 rfl (by decide : 0 < 1) rfl rfl 0 (by decide) (List.mem_of_getElem? (i := 5) rfl) rfl rfl (by decide +kernel) rfl rfl (Nat.le_of_ble_eq_true rfl) dX8_set_66 (eM_0 cy ad S y1) (fun H locs hw => ?_)
  obtain ⟨S50, hS50, hm⟩ := nm_ex hm
  rw [← hS50] at hw
  refine lv_aload_n hx hb dX8_set_69 rfl (lv_at hl 0 rfl) ?_
  refine g_get (ref := "MigrantHeapModel") (C := RX8) (T := TX8) (N := 44) (ci := 8) K in_X8_set_X8 hw 0 rfl (by decide : 0 < 1) rfl rfl 0 (by decide) (List.mem_of_getElem? (i := 5) rfl) rfl rfl dX8_set_70 ?_
  refine lv_if_ne (tgt := 109) hx hb dX8_set_73 (by decide) (fun c51 => ?_) (fun c51 => ?_)
  · replace hm := (if_pos c51).symm.trans hm
    exact g_vret (GG := GM cy ad) K hw (Option.some.inj hm).symm dX8_set_109
  · replace hm := (if_neg (fun h => h c51)).symm.trans hm
    refine lv_aload_n hx hb dX8_set_76 rfl (lv_at hl 0 rfl) ?_
    refine lv_iload hx hb dX8_set_77 (lv_at hl 3 rfl) ?_
    obtain ⟨z53, hc52, hm⟩ := bindS hm
    refine g_callv (GG := GM cy ad) K hw (va_runV (As := [.int x5]) (rest := []) (g_fix K) (c_X8_touchRecord l D cy ad H.size n S50 x5  hc52) (cwV 1 (g_hts K) gX8_set_X8_touchRecord rfl rfl rfl (by decide +kernel) ⟨Nat.le_of_ble_eq_true rfl, Nat.le_of_ble_eq_true rfl⟩) ⟨g_blind rides_none, g_recv K hw 0 rfl (by decide : 0 < 1) rfl rfl, g_pre (X2 := fun _ _ => True) K hw (fun _ _ _ => trivial)⟩ rfl rfl hl.1 rfl (lv_room (Nat.le_of_ble_eq_true rfl)) dX8_set_79 ⟨Nat.le_of_ble_eq_true rfl, Nat.le_of_ble_eq_true rfl⟩) (fun u H locs hp hw => ?_)
    obtain rfl := hp
    refine lv_aload_n hx hb dX8_set_82 rfl (lv_at hl 0 rfl) ?_
    refine g_get (ref := "MigrantHeapModel") (C := RX8) (T := TX8) (N := 44) (ci := 8) K in_X8_set_X8 hw 0 rfl (by decide : 0 < 1) rfl rfl 16 (by decide) (List.mem_of_getElem? (i := 6) rfl) rfl rfl dX8_set_83 ?_
    refine lv_bipush (v := 6) hx hb dX8_set_86 (by decide) ?_
    refine lv_iload hx hb dX8_set_88 (lv_at hl 3 rfl) ?_
    refine lv_imul hx hb dX8_set_90 ?_
    refine lv_iload hx hb dX8_set_91 (lv_at hl 2 rfl) ?_
    refine lv_iadd hx hb dX8_set_93 ?_
    refine lv_iload_n hx hb dX8_set_94 rfl (lv_at hl 1 rfl) ?_
    obtain ⟨h54, hm⟩ := chkS hm
    refine g_iast K hw 15 0 rfl (by decide) rfl rfl h54 dX8_set_95 (eM_16 cy ad z53 (((6 * x5) + x4).toNatClampNeg) x3) (fun H locs hw => ?_)
    obtain ⟨S55, hS55, hm⟩ := nm_ex hm
    rw [← hS55] at hw
    refine lv_aload_n hx hb dX8_set_96 rfl (lv_at hl 0 rfl) ?_
    refine g_get (ref := "MigrantHeapModel") (C := RX8) (T := TX8) (N := 44) (ci := 8) K in_X8_set_X8 hw 0 rfl (by decide : 0 < 1) rfl rfl 3 (by decide) (List.mem_of_getElem? (i := 7) rfl) rfl rfl dX8_set_97 ?_
    refine lv_aload_n hx hb dX8_set_100 rfl (lv_at hl 0 rfl) ?_
    refine g_get (ref := "MigrantHeapModel") (C := RX8) (T := TX8) (N := 44) (ci := 8) K in_X8_set_X8 hw 0 rfl (by decide : 0 < 1) rfl rfl 14 (by decide) (List.mem_of_getElem? (i := 2) rfl) rfl rfl dX8_set_101 ?_
    refine lv_iload hx hb dX8_set_104 (lv_at hl 3 rfl) ?_
    obtain ⟨h56, hm⟩ := chkS hm
    refine g_iald K hw 13 0 rfl (by decide) rfl rfl h56 dX8_set_106 ?_
    refine lv_iconst (v := 0) hx hb dX8_set_107 (by decide) ?_
    obtain ⟨h57, hm⟩ := chkS hm
    refine g_zast K hw 2 2 rfl (by decide) rfl rfl h57 rfl dX8_set_108 (eM_3 cy ad S55 ((S55.1 14 x5.toNatClampNeg).toNatClampNeg) 0) (fun H locs hw => ?_)
    obtain ⟨S58, hS58, hm⟩ := nm_ex hm
    rw [← hS58] at hw
    exact g_vret (GG := GM cy ad) K hw (Option.some.inj hm).symm dX8_set_109
set_option maxRecDepth 100000 in
set_option maxHeartbeats 4000000 in
theorem t_X8_set_J61 (K : Cx p s m args meth c D A (tysC cy) RX8 cX8_set 7 none wsX8_set (fun _ _ => True)) (n : Nat) (S : MSt) (x3 : Int32) (x4 : Int32) (x5 : Int32) {out : MSt} (hm : m_X8_set_J61 n S x3 x4 x5 = some out) : ∀ (H : Heap) (locs : List Loc), Wd D A s.heap (GM cy ad S) H locs → ∀ ls : Array Slot, lv_has ls 7 [(0, .ref (ad 0 0)), (3, .int x3), (4, .int x4), (5, .int x5)] → W p l e rm_X8_set s m args below meth c H locs 0 0 (MQ below (va_Qv (fun (u : MSt) => out = u) (fun u => Pst D (tysC cy) A (GM cy ad u)) A) args s 0 0 A) (F0 m 61 ls [.ref (ad 0 0)]) := by
  intro H locs hw ls hl 
  obtain ⟨hx, hb, hml, hown, hts, hr, hlo, hK, hA, hX⟩ := id K
  unfold m_X8_set_J61 at hm
  refine lv_iconst (v := 3) hx hb dX8_set_61 (by decide) ?_
  refine lv_goto (tgt := 66) hx hb dX8_set_62 (by decide) ?_
  exact t_X8_set_J66 K n S x3 x4 x5 3 hm H locs hw ls (lv_sub hl [0, 1, 2, 3] rfl)
set_option maxRecDepth 100000 in
set_option maxHeartbeats 4000000 in
theorem t_X8_set_0 (K : Cx p s m args meth c D A (tysC cy) RX8 cX8_set 7 none wsX8_set (fun _ _ => True)) (n : Nat) (S : MSt) (x1 : Int32) (x2 : Int32) (x3 : Int32)  {out : MSt} (hm : m_X8_set n S x1 x2 x3 = some out) : ∀ (H : Heap) (locs : List Loc), Wd D A s.heap (GM cy ad S) H locs → ∀ ls : Array Slot, lv_has ls 7 [(0, .ref (ad 0 0)), (1, .int x1), (2, .int x2), (3, .int x3)] → W p l e rm_X8_set s m args below meth c H locs 0 0 (MQ below (va_Qv (fun (u : MSt) => out = u) (fun u => Pst D (tysC cy) A (GM cy ad u)) A) args s 0 0 A) (F0 m 0 ls []) := by
  intro H locs hw ls hl
  obtain ⟨hx, hb, hml, hown, hts, hr, hlo, hK, hA, hX⟩ := id K
  unfold m_X8_set at hm
  refine lv_aload_n hx hb dX8_set_0 rfl (lv_at hl 0 rfl) ?_
  refine lv_iload_n hx hb dX8_set_1 rfl (lv_at hl 1 rfl) ?_
  refine lv_iload_n hx hb dX8_set_2 rfl (lv_at hl 2 rfl) ?_
  refine lv_iconst (v := 1) hx hb dX8_set_3 (by decide) ?_
  obtain ⟨z60, hc59, hm⟩ := bindS hm
  refine g_calli (GG := GM cy ad) K hw (va_runV (As := [.int x1, .int x2, .int 1]) (rest := []) (g_fix K) (c_X8_place l D cy ad H.size n S x1 x2 1  hc59) (cwV 3 (g_hts K) gX8_set_X8_place rfl rfl rfl (by decide +kernel) ⟨Nat.le_of_ble_eq_true rfl, Nat.le_of_ble_eq_true rfl⟩) ⟨g_blind rides_none, g_recv K hw 0 rfl (by decide : 0 < 1) rfl rfl, g_pre (X2 := fun _ _ => True) K hw (fun _ _ _ => trivial)⟩ rfl rfl hl.1 rfl (lv_room (Nat.le_of_ble_eq_true rfl)) dX8_set_4 ⟨Nat.le_of_ble_eq_true rfl, Nat.le_of_ble_eq_true rfl⟩) (fun r u H locs hp hw => ?_)
  obtain ⟨rfl, rfl⟩ : r = z60.1 ∧ u = z60.2 := by rw [hp]; exact ⟨rfl, rfl⟩
  refine lv_istore (lv' := [(4, .int z60.1), (0, .ref (ad 0 0)), (1, .int x1), (2, .int x2), (3, .int x3)]) hx hb dX8_set_7 hl (by decide) rfl (fun ls hl => ?_)
  refine lv_iload hx hb dX8_set_9 (lv_at hl 0 rfl) ?_
  refine lv_if_ge (tgt := 15) hx hb dX8_set_11 (by decide) (fun c61 => ?_) (fun c61 => ?_)
  · replace hm := (if_pos c61).symm.trans hm
    refine lv_aload_n hx hb dX8_set_15 rfl (lv_at hl 1 rfl) ?_
    refine g_get (ref := "MigrantHeapModel") (C := RX8) (T := TX8) (N := 44) (ci := 8) K in_X8_set_X8 hw 0 rfl (by decide : 0 < 1) rfl rfl 19 (by decide) (List.mem_of_getElem? (i := 1) rfl) rfl rfl dX8_set_16 ?_
    refine lv_iload_n hx hb dX8_set_19 rfl (lv_at hl 2 rfl) ?_
    obtain ⟨h62, hm⟩ := chkS hm
    refine g_iald K hw 18 0 rfl (by decide) rfl rfl h62 dX8_set_20 ?_
    obtain ⟨x63, hx63, hm⟩ := nm_ex hm
    refine W.eq (g2 := F0 m 21 ls (.int x63 :: [])) (by rw [hx63]) ?_
    refine lv_istore (lv' := [(5, .int x63), (4, .int z60.1), (0, .ref (ad 0 0)), (1, .int x1), (2, .int x2), (3, .int x3)]) hx hb dX8_set_21 hl (by decide) rfl (fun ls hl => ?_)
    refine lv_bipush (v := 6) hx hb dX8_set_23 (by decide) ?_
    refine lv_aload_n hx hb dX8_set_25 rfl (lv_at hl 2 rfl) ?_
    refine g_get (ref := "MigrantHeapModel") (C := RX8) (T := TX8) (N := 44) (ci := 8) K in_X8_set_X8 hw 0 rfl (by decide : 0 < 1) rfl rfl 14 (by decide) (List.mem_of_getElem? (i := 2) rfl) rfl rfl dX8_set_26 ?_
    refine lv_iload hx hb dX8_set_29 (lv_at hl 0 rfl) ?_
    obtain ⟨h64, hm⟩ := chkS hm
    refine g_iald K hw 13 0 rfl (by decide) rfl rfl h64 dX8_set_31 ?_
    refine lv_imul hx hb dX8_set_32 ?_
    refine lv_iload hx hb dX8_set_33 (lv_at hl 1 rfl) ?_
    refine lv_iadd hx hb dX8_set_35 ?_
    obtain ⟨x65, hx65, hm⟩ := nm_ex hm
    refine W.eq (g2 := F0 m 36 ls (.int x65 :: [])) (by rw [hx65]) ?_
    refine lv_istore (lv' := [(6, .int x65), (5, .int x63), (4, .int z60.1), (0, .ref (ad 0 0)), (1, .int x1), (2, .int x2), (3, .int x3)]) hx hb dX8_set_36 hl (by decide) rfl (fun ls hl => ?_)
    refine lv_aload_n hx hb dX8_set_38 rfl (lv_at hl 3 rfl) ?_
    refine lv_iload_n hx hb dX8_set_39 rfl (lv_at hl 6 rfl) ?_
    refine lv_aload_n hx hb dX8_set_40 rfl (lv_at hl 3 rfl) ?_
    refine g_get (ref := "MigrantHeapModel") (C := RX8) (T := TX8) (N := 44) (ci := 8) K in_X8_set_X8 hw 0 rfl (by decide : 0 < 1) rfl rfl 7 (by decide) (List.mem_of_getElem? (i := 3) rfl) rfl rfl dX8_set_41 ?_
    refine lv_iload hx hb dX8_set_44 (lv_at hl 0 rfl) ?_
    obtain ⟨h66, hm⟩ := chkS hm
    refine g_iald K hw 6 0 rfl (by decide) rfl rfl h66 dX8_set_46 ?_
    refine lv_icmp_lt (tgt := 61) hx hb dX8_set_47 (by decide) (fun c67 => ?_) (fun c67 => ?_)
    · replace hm := (if_pos c67).symm.trans hm
      exact t_X8_set_J61 K n z60.2 x3 z60.1 x63 hm H locs hw ls (lv_sub hl [3, 6, 2, 1] rfl)
    · replace hm := (if_neg c67).symm.trans hm
      refine lv_iload_n hx hb dX8_set_50 rfl (lv_at hl 6 rfl) ?_
      refine lv_aload_n hx hb dX8_set_51 rfl (lv_at hl 3 rfl) ?_
      refine g_get (ref := "MigrantHeapModel") (C := RX8) (T := TX8) (N := 44) (ci := 8) K in_X8_set_X8 hw 0 rfl (by decide : 0 < 1) rfl rfl 8 (by decide) (List.mem_of_getElem? (i := 4) rfl) rfl rfl dX8_set_52 ?_
      refine lv_iload hx hb dX8_set_55 (lv_at hl 0 rfl) ?_
      obtain ⟨h68, hm⟩ := chkS hm
      refine g_iald K hw 7 0 rfl (by decide) rfl rfl h68 dX8_set_57 ?_
      refine lv_icmp_le (tgt := 65) hx hb dX8_set_58 (by decide) (fun c69 => ?_) (fun c69 => ?_)
      · replace hm := (if_pos c69).symm.trans hm
        refine lv_iconst (v := 0) hx hb dX8_set_65 (by decide) ?_
        exact t_X8_set_J66 K n z60.2 x3 z60.1 x63 0 hm H locs hw ls (lv_sub hl [3, 6, 2, 1] rfl)
      · replace hm := (if_neg c69).symm.trans hm
        exact t_X8_set_J61 K n z60.2 x3 z60.1 x63 hm H locs hw ls (lv_sub hl [3, 6, 2, 1] rfl)
  · replace hm := (if_neg c61).symm.trans hm
    exact g_vret (GG := GM cy ad) K hw (Option.some.inj hm).symm dX8_set_14
set_option maxRecDepth 100000 in
set_option maxHeartbeats 4000000 in
theorem c_X8_set (l : Launch) (D : va_G) (cy : Nat → ClassId) (ad : Nat → Nat → Nat) (sz n : Nat) (S : MSt) (x1 : Int32) (x2 : Int32) (x3 : Int32)  {out : MSt} (hm : m_X8_set n S x1 x2 x3 = some out) : Met l yX8_set wsX8_set rm_X8_set (va_Pc [.ref (ad 0 0), .int x1, .int x2, .int x3] (Pre D (tysC cy) (GM cy ad S) (fun _ _ => True) sz)) (va_Qv (fun (u : MSt) => out = u) (fun u => Pst D (tysC cy) (AA (adrs (GM cy ad S)) sz) (GM cy ad u)) (AA (adrs (GM cy ad S)) sz)) 0 0 (AA (adrs (GM cy ad S)) sz) := by
  refine g_met (by decide) rfl (Nat.le_of_ble_eq_true rfl) ?_
  intro p e s m args below meth c K hw ls hl
  exact t_X8_set_0 (cy := cy) K n S x1 x2 x3  hm _ _ hw ls hl
end W_X8_set
section W_X8_isOwned
variable {p : Program} {l : Launch} {e : Env} {s : State} {m : MethodId} {args : Array Value} {below : List Frame} {meth : Method} {c : Code} {D : va_G} {A : Nat → Prop} {cy : Nat → ClassId} {ad : Nat → Nat → Nat} {Q : State → Prop}
abbrev rm_X8_isOwned : Room := { frames := 0, cells := 0, slots := 0, locals := 0 }
theorem in_X8_isOwned_X8 : ∀ w ∈ u_ws RX8 TX8 44, w ∈ wsX8_isOwned := by decide +kernel
set_option maxRecDepth 100000 in
set_option maxHeartbeats 4000000 in
theorem t_X8_isOwned_L13 (K : Cx p s m args meth c D A (tysC cy) RX8 cX8_isOwned 5 (some .boolean) wsX8_isOwned (fun _ _ => True)) (n : Nat) (S : MSt) (x1 : Int32) (x3 : Int32)  (z : Int32) (hE0 : ∀ w : Int32, z = w → ∀ (H : Heap) (locs : List Loc), Wd D A s.heap (GM cy ad S) H locs → ∀ ls : Array Slot, lv_has ls 5 [(0, .ref (ad 0 0)), (1, .int x1), (2, .int w), (3, .int x3)] → W p l e rm_X8_isOwned s m args below meth c H locs 0 0 Q (F0 m 91 ls [])) : ∀ (x : (Int32 × Int32)), lpO (b_X8_isOwned_13 n S x1 x3) n x = some z → (fun (x : (Int32 × Int32)) => ∀ (H : Heap) (locs : List Loc), Wd D A s.heap (GM cy ad S) H locs → ∀ ls : Array Slot, lv_has ls 5 [(0, .ref (ad 0 0)), (1, .int x1), (2, .int x.1), (3, .int x3), (4, .int x.2)] → W p l e rm_X8_isOwned s m args below meth c H locs 0 0 Q (F0 m 13 ls [])) x := by
  intro x hx0
  refine lpO_ind2 (P := fun (x : (Int32 × Int32)) => ∀ (H : Heap) (locs : List Loc), Wd D A s.heap (GM cy ad S) H locs → ∀ ls : Array Slot, lv_has ls 5 [(0, .ref (ad 0 0)), (1, .int x1), (2, .int x.1), (3, .int x3), (4, .int x.2)] → W p l e rm_X8_isOwned s m args below meth c H locs 0 0 Q (F0 m 13 ls [])) (z := z) ?_ n x hx0
  clear hx0 x
  intro x out hm hg H locs hw ls hl 
  obtain ⟨hx, hb, hml, hown, hts, hr, hlo, hK, hA, hX⟩ := id K
  unfold b_X8_isOwned_13 at hm
  refine lv_aload_n hx hb dX8_isOwned_13 rfl (lv_at hl 0 rfl) ?_
  refine g_get (ref := "MigrantHeapModel") (C := RX8) (T := TX8) (N := 44) (ci := 8) K in_X8_isOwned_X8 hw 0 rfl (by decide : 0 < 1) rfl rfl 14 (by decide) (List.mem_of_getElem? (i := 1) rfl) rfl rfl dX8_isOwned_14 ?_
  refine lv_iload_n hx hb dX8_isOwned_17 rfl (lv_at hl 3 rfl) ?_
  obtain ⟨h33, hm⟩ := chkS hm
  refine g_iald K hw 13 0 rfl (by decide) rfl rfl h33 dX8_isOwned_18 ?_
  refine lv_if_lt (tgt := 91) hx hb dX8_isOwned_19 (by decide) (fun c34 => ?_) (fun c34 => ?_)
  · replace hm := (if_pos c34).symm.trans hm
    obtain rfl := Option.some.inj hm
    exact hE0 _ hg.symm H locs hw ls (lv_sub hl [0, 1, 2, 3] rfl)
  · replace hm := (if_neg c34).symm.trans hm
    refine lv_iload hx hb dX8_isOwned_22 (lv_at hl 4 rfl) ?_
    refine lv_aload_n hx hb dX8_isOwned_24 rfl (lv_at hl 0 rfl) ?_
    refine g_get (ref := "MigrantHeapModel") (C := RX8) (T := TX8) (N := 44) (ci := 8) K in_X8_isOwned_X8 hw 0 rfl (by decide : 0 < 1) rfl rfl 4 (by decide) (List.mem_of_getElem? (i := 2) rfl) rfl rfl dX8_isOwned_25 ?_
    refine lv_aload_n hx hb dX8_isOwned_28 rfl (lv_at hl 0 rfl) ?_
    refine g_get (ref := "MigrantHeapModel") (C := RX8) (T := TX8) (N := 44) (ci := 8) K in_X8_isOwned_X8 hw 0 rfl (by decide : 0 < 1) rfl rfl 14 (by decide) (List.mem_of_getElem? (i := 1) rfl) rfl rfl dX8_isOwned_29 ?_
    refine lv_iload_n hx hb dX8_isOwned_32 rfl (lv_at hl 3 rfl) ?_
    obtain ⟨h35, hm⟩ := chkS hm
    refine g_iald K hw 13 0 rfl (by decide) rfl rfl h35 dX8_isOwned_33 ?_
    obtain ⟨h36, hm⟩ := chkS hm
    refine g_iald K hw 3 0 rfl (by decide) rfl rfl h36 dX8_isOwned_34 ?_
    refine lv_icmp_ge (tgt := 91) hx hb dX8_isOwned_35 (by decide) (fun c37 => ?_) (fun c37 => ?_)
    · replace hm := (if_pos c37).symm.trans hm
      obtain rfl := Option.some.inj hm
      exact hE0 _ hg.symm H locs hw ls (lv_sub hl [0, 1, 2, 3] rfl)
    · replace hm := (if_neg c37).symm.trans hm
      refine lv_iload_n hx hb dX8_isOwned_38 rfl (lv_at hl 2 rfl) ?_
      refine lv_if_ne (tgt := 79) hx hb dX8_isOwned_39 (by decide) (fun c38 => ?_) (fun c38 => ?_)
      · replace hm := (if_pos c38).symm.trans hm
        refine lv_iconst (v := 1) hx hb dX8_isOwned_79 (by decide) ?_
        refine lv_goto (tgt := 84) hx hb dX8_isOwned_80 (by decide) ?_
        refine lv_istore_n (lv' := [(2, .int 1), (0, .ref (ad 0 0)), (1, .int x1), (3, .int x3), (4, .int x.2)]) hx hb dX8_isOwned_84 rfl hl (by decide) rfl (fun ls hl => ?_)
        obtain ⟨x39, hx39, hm⟩ := nm_ex hm
        refine lv_iinc (v := x39) (lv' := [(4, .int x39), (2, .int 1), (0, .ref (ad 0 0)), (1, .int x1), (3, .int x3)]) hx hb dX8_isOwned_85 hl (k := 4) rfl (by rw [hx39]; rfl) (by decide) rfl (fun ls hl => ?_)
        refine lv_goto (tgt := 13) hx hb dX8_isOwned_88 (by decide) ?_
        obtain rfl := Option.some.inj hm
        exact hg H locs hw ls (lv_sub hl [2, 3, 1, 4, 0] rfl)
      · replace hm := (if_neg (fun h => h c38)).symm.trans hm
        refine lv_aload_n hx hb dX8_isOwned_42 rfl (lv_at hl 0 rfl) ?_
        refine g_get (ref := "MigrantHeapModel") (C := RX8) (T := TX8) (N := 44) (ci := 8) K in_X8_isOwned_X8 hw 0 rfl (by decide : 0 < 1) rfl rfl 6 (by decide) (List.mem_of_getElem? (i := 3) rfl) rfl rfl dX8_isOwned_43 ?_
        refine lv_bipush (v := 6) hx hb dX8_isOwned_46 (by decide) ?_
        refine lv_aload_n hx hb dX8_isOwned_48 rfl (lv_at hl 0 rfl) ?_
        refine g_get (ref := "MigrantHeapModel") (C := RX8) (T := TX8) (N := 44) (ci := 8) K in_X8_isOwned_X8 hw 0 rfl (by decide : 0 < 1) rfl rfl 14 (by decide) (List.mem_of_getElem? (i := 1) rfl) rfl rfl dX8_isOwned_49 ?_
        refine lv_iload_n hx hb dX8_isOwned_52 rfl (lv_at hl 3 rfl) ?_
        obtain ⟨h40, hm⟩ := chkS hm
        refine g_iald K hw 13 0 rfl (by decide) rfl rfl h40 dX8_isOwned_53 ?_
        refine lv_imul hx hb dX8_isOwned_54 ?_
        refine lv_iload hx hb dX8_isOwned_55 (lv_at hl 4 rfl) ?_
        refine lv_iadd hx hb dX8_isOwned_57 ?_
        obtain ⟨h41, hm⟩ := chkS hm
        refine g_iald K hw 5 0 rfl (by decide) rfl rfl h41 dX8_isOwned_58 ?_
        refine lv_iconst (v := 2) hx hb dX8_isOwned_59 (by decide) ?_
        refine lv_icmp_ne (tgt := 83) hx hb dX8_isOwned_60 (by decide) (fun c42 => ?_) (fun c42 => ?_)
        · replace hm := (if_pos c42).symm.trans hm
          refine lv_iconst (v := 0) hx hb dX8_isOwned_83 (by decide) ?_
          refine lv_istore_n (lv' := [(2, .int 0), (0, .ref (ad 0 0)), (1, .int x1), (3, .int x3), (4, .int x.2)]) hx hb dX8_isOwned_84 rfl hl (by decide) rfl (fun ls hl => ?_)
          obtain ⟨x43, hx43, hm⟩ := nm_ex hm
          refine lv_iinc (v := x43) (lv' := [(4, .int x43), (2, .int 0), (0, .ref (ad 0 0)), (1, .int x1), (3, .int x3)]) hx hb dX8_isOwned_85 hl (k := 4) rfl (by rw [hx43]; rfl) (by decide) rfl (fun ls hl => ?_)
          refine lv_goto (tgt := 13) hx hb dX8_isOwned_88 (by decide) ?_
          obtain rfl := Option.some.inj hm
          exact hg H locs hw ls (lv_sub hl [2, 3, 1, 4, 0] rfl)
        · replace hm := (if_neg (fun h => h c42)).symm.trans hm
          refine lv_aload_n hx hb dX8_isOwned_63 rfl (lv_at hl 0 rfl) ?_
          refine g_get (ref := "MigrantHeapModel") (C := RX8) (T := TX8) (N := 44) (ci := 8) K in_X8_isOwned_X8 hw 0 rfl (by decide : 0 < 1) rfl rfl 16 (by decide) (List.mem_of_getElem? (i := 4) rfl) rfl rfl dX8_isOwned_64 ?_
          refine lv_bipush (v := 6) hx hb dX8_isOwned_67 (by decide) ?_
          refine lv_iload_n hx hb dX8_isOwned_69 rfl (lv_at hl 3 rfl) ?_
          refine lv_imul hx hb dX8_isOwned_70 ?_
          refine lv_iload hx hb dX8_isOwned_71 (lv_at hl 4 rfl) ?_
          refine lv_iadd hx hb dX8_isOwned_73 ?_
          obtain ⟨h44, hm⟩ := chkS hm
          refine g_iald K hw 15 0 rfl (by decide) rfl rfl h44 dX8_isOwned_74 ?_
          refine lv_iload_n hx hb dX8_isOwned_75 rfl (lv_at hl 1 rfl) ?_
          refine lv_icmp_ne (tgt := 83) hx hb dX8_isOwned_76 (by decide) (fun c45 => ?_) (fun c45 => ?_)
          · replace hm := (if_pos c45).symm.trans hm
            refine lv_iconst (v := 0) hx hb dX8_isOwned_83 (by decide) ?_
            refine lv_istore_n (lv' := [(2, .int 0), (0, .ref (ad 0 0)), (1, .int x1), (3, .int x3), (4, .int x.2)]) hx hb dX8_isOwned_84 rfl hl (by decide) rfl (fun ls hl => ?_)
            obtain ⟨x46, hx46, hm⟩ := nm_ex hm
            refine lv_iinc (v := x46) (lv' := [(4, .int x46), (2, .int 0), (0, .ref (ad 0 0)), (1, .int x1), (3, .int x3)]) hx hb dX8_isOwned_85 hl (k := 4) rfl (by rw [hx46]; rfl) (by decide) rfl (fun ls hl => ?_)
            refine lv_goto (tgt := 13) hx hb dX8_isOwned_88 (by decide) ?_
            obtain rfl := Option.some.inj hm
            exact hg H locs hw ls (lv_sub hl [2, 3, 1, 4, 0] rfl)
          · replace hm := (if_neg (fun h => h c45)).symm.trans hm
            refine lv_iconst (v := 1) hx hb dX8_isOwned_79 (by decide) ?_
            refine lv_goto (tgt := 84) hx hb dX8_isOwned_80 (by decide) ?_
            refine lv_istore_n (lv' := [(2, .int 1), (0, .ref (ad 0 0)), (1, .int x1), (3, .int x3), (4, .int x.2)]) hx hb dX8_isOwned_84 rfl hl (by decide) rfl (fun ls hl => ?_)
            obtain ⟨x47, hx47, hm⟩ := nm_ex hm
            refine lv_iinc (v := x47) (lv' := [(4, .int x47), (2, .int 1), (0, .ref (ad 0 0)), (1, .int x1), (3, .int x3)]) hx hb dX8_isOwned_85 hl (k := 4) rfl (by rw [hx47]; rfl) (by decide) rfl (fun ls hl => ?_)
            refine lv_goto (tgt := 13) hx hb dX8_isOwned_88 (by decide) ?_
            obtain rfl := Option.some.inj hm
            exact hg H locs hw ls (lv_sub hl [2, 3, 1, 4, 0] rfl)
set_option maxRecDepth 100000 in
set_option maxHeartbeats 4000000 in
theorem t_X8_isOwned_L4 (K : Cx p s m args meth c D A (tysC cy) RX8 cX8_isOwned 5 (some .boolean) wsX8_isOwned (fun _ _ => True)) (n : Nat) (S : MSt) (x1 : Int32)  (z : Int32) (hE0 : ∀ w : Int32, z = w → ∀ (H : Heap) (locs : List Loc), Wd D A s.heap (GM cy ad S) H locs → ∀ ls : Array Slot, lv_has ls 5 [(2, .int w)] → W p l e rm_X8_isOwned s m args below meth c H locs 0 0 Q (F0 m 97 ls [])) : ∀ (x : (Int32 × Int32)), lpO (b_X8_isOwned_4 n S x1) n x = some z → (fun (x : (Int32 × Int32)) => ∀ (H : Heap) (locs : List Loc), Wd D A s.heap (GM cy ad S) H locs → ∀ ls : Array Slot, lv_has ls 5 [(0, .ref (ad 0 0)), (1, .int x1), (2, .int x.1), (3, .int x.2)] → W p l e rm_X8_isOwned s m args below meth c H locs 0 0 Q (F0 m 4 ls [])) x := by
  intro x hx0
  refine lpO_ind2 (P := fun (x : (Int32 × Int32)) => ∀ (H : Heap) (locs : List Loc), Wd D A s.heap (GM cy ad S) H locs → ∀ ls : Array Slot, lv_has ls 5 [(0, .ref (ad 0 0)), (1, .int x1), (2, .int x.1), (3, .int x.2)] → W p l e rm_X8_isOwned s m args below meth c H locs 0 0 Q (F0 m 4 ls [])) (z := z) ?_ n x hx0
  clear hx0 x
  intro x out hm hg H locs hw ls hl 
  obtain ⟨hx, hb, hml, hown, hts, hr, hlo, hK, hA, hX⟩ := id K
  unfold b_X8_isOwned_4 at hm
  refine lv_iload_n hx hb dX8_isOwned_4 rfl (lv_at hl 3 rfl) ?_
  refine lv_bipush (v := 24) hx hb dX8_isOwned_5 (by decide) ?_
  refine lv_icmp_ge (tgt := 97) hx hb dX8_isOwned_7 (by decide) (fun c48 => ?_) (fun c48 => ?_)
  · replace hm := (if_pos c48).symm.trans hm
    obtain rfl := Option.some.inj hm
    exact hE0 _ hg.symm H locs hw ls (lv_sub hl [2] rfl)
  · replace hm := (if_neg c48).symm.trans hm
    refine lv_iconst (v := 0) hx hb dX8_isOwned_10 (by decide) ?_
    refine lv_istore (lv' := [(4, .int 0), (0, .ref (ad 0 0)), (1, .int x1), (2, .int x.1), (3, .int x.2)]) hx hb dX8_isOwned_11 hl (by decide) rfl (fun ls hl => ?_)
    obtain ⟨z49, hz50, hm⟩ := bindS hm
    refine t_X8_isOwned_L13 K n S x1 x.2 z49 (fun w51 hww51 => ?_) ((x.1, 0)) hz50 H locs hw ls (lv_sub hl [1, 2, 3, 4, 0] rfl)
    · intro H locs hw ls hl 
      try rw [hww51] at hm
      obtain ⟨x52, hx52, hm⟩ := nm_ex hm
      refine lv_iinc (v := x52) (lv' := [(3, .int x52), (0, .ref (ad 0 0)), (1, .int x1), (2, .int w51)]) hx hb dX8_isOwned_91 hl (k := 3) rfl (by rw [hx52]; rfl) (by decide) rfl (fun ls hl => ?_)
      refine lv_goto (tgt := 4) hx hb dX8_isOwned_94 (by decide) ?_
      obtain rfl := Option.some.inj hm
      exact hg H locs hw ls (lv_sub hl [1, 2, 3, 0] rfl)
set_option maxRecDepth 100000 in
set_option maxHeartbeats 4000000 in
theorem t_X8_isOwned_0 (K : Cx p s m args meth c D A (tysC cy) RX8 cX8_isOwned 5 (some .boolean) wsX8_isOwned (fun _ _ => True)) (n : Nat) (S : MSt) (x1 : Int32)  {out : Int32} (hm : m_X8_isOwned n S x1 = some out) : ∀ (H : Heap) (locs : List Loc), Wd D A s.heap (GM cy ad S) H locs → ∀ ls : Array Slot, lv_has ls 5 [(0, .ref (ad 0 0)), (1, .int x1)] → W p l e rm_X8_isOwned s m args below meth c H locs 0 0 (MQ below (va_Qi (fun r (u : MSt) => out = r ∧ u = S) (fun u => Pst D (tysC cy) A (GM cy ad u)) A) args s 0 0 A) (F0 m 0 ls []) := by
  intro H locs hw ls hl
  obtain ⟨hx, hb, hml, hown, hts, hr, hlo, hK, hA, hX⟩ := id K
  unfold m_X8_isOwned at hm
  refine lv_iconst (v := 0) hx hb dX8_isOwned_0 (by decide) ?_
  refine lv_istore_n (lv' := [(2, .int 0), (0, .ref (ad 0 0)), (1, .int x1)]) hx hb dX8_isOwned_1 rfl hl (by decide) rfl (fun ls hl => ?_)
  refine lv_iconst (v := 0) hx hb dX8_isOwned_2 (by decide) ?_
  refine lv_istore_n (lv' := [(3, .int 0), (2, .int 0), (0, .ref (ad 0 0)), (1, .int x1)]) hx hb dX8_isOwned_3 rfl hl (by decide) rfl (fun ls hl => ?_)
  obtain ⟨z53, hz54, hm⟩ := bindS hm
  refine t_X8_isOwned_L4 K n S x1 z53 (fun w55 hww55 => ?_) ((0, 0)) hz54 H locs hw ls (lv_sub hl [2, 3, 1, 0] rfl)
  · intro H locs hw ls hl 
    try rw [hww55] at hm
    refine lv_iload_n hx hb dX8_isOwned_97 rfl (lv_at hl 0 rfl) ?_
    obtain ⟨h56, hm⟩ := chkS hm
    exact g_zret (GG := GM cy ad) K hw h56 ⟨(Option.some.inj hm).symm, rfl⟩ dX8_isOwned_98
set_option maxRecDepth 100000 in
set_option maxHeartbeats 4000000 in
theorem c_X8_isOwned (l : Launch) (D : va_G) (cy : Nat → ClassId) (ad : Nat → Nat → Nat) (sz n : Nat) (S : MSt) (x1 : Int32)  {out : Int32} (hm : m_X8_isOwned n S x1 = some out) : Met l yX8_isOwned wsX8_isOwned rm_X8_isOwned (va_Pc [.ref (ad 0 0), .int x1] (Pre D (tysC cy) (GM cy ad S) (fun _ _ => True) sz)) (va_Qi (fun r (u : MSt) => out = r ∧ u = S) (fun u => Pst D (tysC cy) (AA (adrs (GM cy ad S)) sz) (GM cy ad u)) (AA (adrs (GM cy ad S)) sz)) 0 0 (AA (adrs (GM cy ad S)) sz) := by
  refine g_met (by decide) rfl (Nat.le_of_ble_eq_true rfl) ?_
  intro p e s m args below meth c K hw ls hl
  exact t_X8_isOwned_0 (cy := cy) K n S x1  hm _ _ hw ls hl
end W_X8_isOwned
