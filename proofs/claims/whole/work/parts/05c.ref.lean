section W_X8_link
variable {p : Program} {l : Launch} {e : Env} {s : State} {m : MethodId} {args : Array Value} {below : List Frame} {meth : Method} {c : Code} {D : va_G} {A : Nat → Prop} {cy : Nat → ClassId} {ad : Nat → Nat → Nat} {Q : State → Prop}
abbrev rm_X8_link : Room := { frames := 2, cells := 0, slots := 0, locals := 50 }
theorem in_X8_link_X8 : ∀ w ∈ u_ws RX8 TX8 44, w ∈ wsX8_link := by decide +kernel
set_option maxRecDepth 100000 in
set_option maxHeartbeats 4000000 in
theorem t_X8_link_J107 (K : Cx p s m args meth c D A (tysC cy) RX8 cX8_link 8 none wsX8_link (fun _ _ => True)) (n : Nat) (S : MSt) (x4 : Int32) (x5 : Int32) (x6 : Int32) (y1 : Int32) {out : MSt} (hm : m_X8_link_J107 n S x4 x5 x6 y1 = some out) : ∀ (H : Heap) (locs : List Loc), Wd D A s.heap (GM cy ad S) H locs → ∀ ls : Array Slot, lv_has ls 8 [(0, .ref (ad 0 0)), (4, .int x4), (5, .int x5), (6, .int x6)] → W p l e rm_X8_link s m args below meth c H locs 0 0 (MQ below (va_Qv (fun (u : MSt) => out = u) (fun u => Pst D (tysC cy) A (GM cy ad u)) A) args s 0 0 A) (F0 m 107 ls [.int y1, .ref (ad 0 0)]) := by
  intro H locs hw ls hl 
  obtain ⟨hx, hb, hml, hown, hts, hr, hlo, hK, hA, hX⟩ := id K
  unfold m_X8_link_J107 at hm
  refine g_put (v := .int y1) (ty := .int) (ref := "MigrantHeapModel") (C := RX8) (T := TX8) (N := 44) (ci := 8) K in_X8_link_X8 tyX8 tyX8_ok nmX8 hw 0 rfl (by decide : 0 < 1) rfl rfl 0 (by decide) (List.mem_of_getElem? (i := 1) rfl) rfl rfl (by decide +kernel) rfl rfl (Nat.le_of_ble_eq_true rfl) dX8_link_107 (eM_0 cy ad S y1) (fun H locs hw => ?_)
  obtain ⟨S73, hS73, hm⟩ := nm_ex hm
  rw [← hS73] at hw
  refine lv_aload_n hx hb dX8_link_110 rfl (lv_at hl 0 rfl) ?_
  refine g_get (ref := "MigrantHeapModel") (C := RX8) (T := TX8) (N := 44) (ci := 8) K in_X8_link_X8 hw 0 rfl (by decide : 0 < 1) rfl rfl 0 (by decide) (List.mem_of_getElem? (i := 1) rfl) rfl rfl dX8_link_111 ?_
  refine lv_if_ne (tgt := 151) hx hb dX8_link_114 (by decide) (fun c74 => ?_) (fun c74 => ?_)
  · replace hm := (if_pos c74).symm.trans hm
    exact g_vret (GG := GM cy ad) K hw (Option.some.inj hm).symm dX8_link_151
  · replace hm := (if_neg (fun h => h c74)).symm.trans hm
    refine lv_aload_n hx hb dX8_link_117 rfl (lv_at hl 0 rfl) ?_
    refine lv_iload hx hb dX8_link_118 (lv_at hl 2 rfl) ?_
    obtain ⟨z76, hc75, hm⟩ := bindS hm
    refine g_callv (GG := GM cy ad) K hw (va_runV (As := [.int x5]) (rest := []) (g_fix K) (c_X8_touchRecord l D cy ad H.size n S73 x5  hc75) (cwV 1 (g_hts K) gX8_link_X8_touchRecord rfl rfl rfl (by decide +kernel) ⟨Nat.le_of_ble_eq_true rfl, Nat.le_of_ble_eq_true rfl⟩) ⟨g_blind rides_none, g_recv K hw 0 rfl (by decide : 0 < 1) rfl rfl, g_pre (X2 := fun _ _ => True) K hw (fun _ _ _ => trivial)⟩ rfl rfl hl.1 rfl (lv_room (Nat.le_of_ble_eq_true rfl)) dX8_link_120 ⟨Nat.le_of_ble_eq_true rfl, Nat.le_of_ble_eq_true rfl⟩) (fun u H locs hp hw => ?_)
    obtain rfl := hp
    refine lv_aload_n hx hb dX8_link_123 rfl (lv_at hl 0 rfl) ?_
    refine g_get (ref := "MigrantHeapModel") (C := RX8) (T := TX8) (N := 44) (ci := 8) K in_X8_link_X8 hw 0 rfl (by decide : 0 < 1) rfl rfl 16 (by decide) (List.mem_of_getElem? (i := 6) rfl) rfl rfl dX8_link_124 ?_
    refine lv_bipush (v := 6) hx hb dX8_link_127 (by decide) ?_
    refine lv_iload hx hb dX8_link_129 (lv_at hl 2 rfl) ?_
    refine lv_imul hx hb dX8_link_131 ?_
    refine lv_iload hx hb dX8_link_132 (lv_at hl 1 rfl) ?_
    refine lv_iadd hx hb dX8_link_134 ?_
    refine lv_iload hx hb dX8_link_135 (lv_at hl 3 rfl) ?_
    obtain ⟨h77, hm⟩ := chkS hm
    refine g_iast K hw 15 0 rfl (by decide) rfl rfl h77 dX8_link_137 (eM_16 cy ad z76 (((6 * x5) + x4).toNatClampNeg) x6) (fun H locs hw => ?_)
    obtain ⟨S78, hS78, hm⟩ := nm_ex hm
    rw [← hS78] at hw
    refine lv_aload_n hx hb dX8_link_138 rfl (lv_at hl 0 rfl) ?_
    refine g_get (ref := "MigrantHeapModel") (C := RX8) (T := TX8) (N := 44) (ci := 8) K in_X8_link_X8 hw 0 rfl (by decide : 0 < 1) rfl rfl 3 (by decide) (List.mem_of_getElem? (i := 7) rfl) rfl rfl dX8_link_139 ?_
    refine lv_aload_n hx hb dX8_link_142 rfl (lv_at hl 0 rfl) ?_
    refine g_get (ref := "MigrantHeapModel") (C := RX8) (T := TX8) (N := 44) (ci := 8) K in_X8_link_X8 hw 0 rfl (by decide : 0 < 1) rfl rfl 14 (by decide) (List.mem_of_getElem? (i := 3) rfl) rfl rfl dX8_link_143 ?_
    refine lv_iload hx hb dX8_link_146 (lv_at hl 2 rfl) ?_
    obtain ⟨h79, hm⟩ := chkS hm
    refine g_iald K hw 13 0 rfl (by decide) rfl rfl h79 dX8_link_148 ?_
    refine lv_iconst (v := 0) hx hb dX8_link_149 (by decide) ?_
    obtain ⟨h80, hm⟩ := chkS hm
    refine g_zast K hw 2 2 rfl (by decide) rfl rfl h80 rfl dX8_link_150 (eM_3 cy ad S78 ((S78.1 14 x5.toNatClampNeg).toNatClampNeg) 0) (fun H locs hw => ?_)
    obtain ⟨S81, hS81, hm⟩ := nm_ex hm
    rw [← hS81] at hw
    exact g_vret (GG := GM cy ad) K hw (Option.some.inj hm).symm dX8_link_151
set_option maxRecDepth 100000 in
set_option maxHeartbeats 4000000 in
theorem t_X8_link_J106 (K : Cx p s m args meth c D A (tysC cy) RX8 cX8_link 8 none wsX8_link (fun _ _ => True)) (n : Nat) (S : MSt) (x4 : Int32) (x5 : Int32) (x6 : Int32) {out : MSt} (hm : m_X8_link_J106 n S x4 x5 x6 = some out) : ∀ (H : Heap) (locs : List Loc), Wd D A s.heap (GM cy ad S) H locs → ∀ ls : Array Slot, lv_has ls 8 [(0, .ref (ad 0 0)), (4, .int x4), (5, .int x5), (6, .int x6)] → W p l e rm_X8_link s m args below meth c H locs 0 0 (MQ below (va_Qv (fun (u : MSt) => out = u) (fun u => Pst D (tysC cy) A (GM cy ad u)) A) args s 0 0 A) (F0 m 106 ls [.ref (ad 0 0)]) := by
  intro H locs hw ls hl 
  obtain ⟨hx, hb, hml, hown, hts, hr, hlo, hK, hA, hX⟩ := id K
  unfold m_X8_link_J106 at hm
  refine lv_iconst (v := 0) hx hb dX8_link_106 (by decide) ?_
  exact t_X8_link_J107 K n S x4 x5 x6 0 hm H locs hw ls (lv_sub hl [0, 1, 2, 3] rfl)
set_option maxRecDepth 100000 in
set_option maxHeartbeats 4000000 in
theorem t_X8_link_J102 (K : Cx p s m args meth c D A (tysC cy) RX8 cX8_link 8 none wsX8_link (fun _ _ => True)) (n : Nat) (S : MSt) (x4 : Int32) (x5 : Int32) (x6 : Int32) {out : MSt} (hm : m_X8_link_J102 n S x4 x5 x6 = some out) : ∀ (H : Heap) (locs : List Loc), Wd D A s.heap (GM cy ad S) H locs → ∀ ls : Array Slot, lv_has ls 8 [(0, .ref (ad 0 0)), (4, .int x4), (5, .int x5), (6, .int x6)] → W p l e rm_X8_link s m args below meth c H locs 0 0 (MQ below (va_Qv (fun (u : MSt) => out = u) (fun u => Pst D (tysC cy) A (GM cy ad u)) A) args s 0 0 A) (F0 m 102 ls [.ref (ad 0 0)]) := by
  intro H locs hw ls hl 
  obtain ⟨hx, hb, hml, hown, hts, hr, hlo, hK, hA, hX⟩ := id K
  unfold m_X8_link_J102 at hm
  refine lv_iconst (v := 3) hx hb dX8_link_102 (by decide) ?_
  refine lv_goto (tgt := 107) hx hb dX8_link_103 (by decide) ?_
  exact t_X8_link_J107 K n S x4 x5 x6 3 hm H locs hw ls (lv_sub hl [0, 1, 2, 3] rfl)
set_option maxRecDepth 100000 in
set_option maxHeartbeats 4000000 in
theorem t_X8_link_0 (K : Cx p s m args meth c D A (tysC cy) RX8 cX8_link 8 none wsX8_link (fun _ _ => True)) (n : Nat) (S : MSt) (x1 : Int32) (x2 : Int32) (x3 : Int32)  {out : MSt} (hm : m_X8_link n S x1 x2 x3 = some out) : ∀ (H : Heap) (locs : List Loc), Wd D A s.heap (GM cy ad S) H locs → ∀ ls : Array Slot, lv_has ls 8 [(0, .ref (ad 0 0)), (1, .int x1), (2, .int x2), (3, .int x3)] → W p l e rm_X8_link s m args below meth c H locs 0 0 (MQ below (va_Qv (fun (u : MSt) => out = u) (fun u => Pst D (tysC cy) A (GM cy ad u)) A) args s 0 0 A) (F0 m 0 ls []) := by
  intro H locs hw ls hl
  obtain ⟨hx, hb, hml, hown, hts, hr, hlo, hK, hA, hX⟩ := id K
  unfold m_X8_link at hm
  refine lv_iload_n hx hb dX8_link_0 rfl (lv_at hl 3 rfl) ?_
  obtain ⟨z83, hc82, hm⟩ := bindS hm
  refine g_calli (GG := GM cy ad) K hw (va_runS (As := [.int x3]) (rest := []) (g_fix K) (c_X8_isRoot l D cy ad H.size n S x3  hc82) (va_cwS 1 (g_hts K) gX8_link_X8_isRoot rfl rfl rfl (by decide +kernel) ⟨Nat.le_of_ble_eq_true rfl, Nat.le_of_ble_eq_true rfl⟩) ⟨g_blind rides_none, g_pre (X2 := fun _ _ => True) K hw (fun _ _ _ => trivial)⟩ rfl rfl hl.1 rfl (lv_room (Nat.le_of_ble_eq_true rfl)) dX8_link_1 ⟨Nat.le_of_ble_eq_true rfl, Nat.le_of_ble_eq_true rfl⟩) (fun r u H locs hp hw => ?_)
  obtain ⟨rfl, hu⟩ := hp
  rw [hu] at hw
  refine lv_if_ne (tgt := 13) hx hb dX8_link_4 (by decide) (fun c84 => ?_) (fun c84 => ?_)
  · replace hm := (if_pos c84).symm.trans hm
    refine lv_aload_n hx hb dX8_link_13 rfl (lv_at hl 0 rfl) ?_
    refine lv_iload_n hx hb dX8_link_14 rfl (lv_at hl 1 rfl) ?_
    refine lv_iload_n hx hb dX8_link_15 rfl (lv_at hl 2 rfl) ?_
    refine lv_iconst (v := 0) hx hb dX8_link_16 (by decide) ?_
    obtain ⟨z86, hc85, hm⟩ := bindS hm
    refine g_calli (GG := GM cy ad) K hw (va_runV (As := [.int x1, .int x2, .int 0]) (rest := []) (g_fix K) (c_X8_place l D cy ad H.size n S x1 x2 0  hc85) (cwV 3 (g_hts K) gX8_link_X8_place rfl rfl rfl (by decide +kernel) ⟨Nat.le_of_ble_eq_true rfl, Nat.le_of_ble_eq_true rfl⟩) ⟨g_blind rides_none, g_recv K hw 0 rfl (by decide : 0 < 1) rfl rfl, g_pre (X2 := fun _ _ => True) K hw (fun _ _ _ => trivial)⟩ rfl rfl hl.1 rfl (lv_room (Nat.le_of_ble_eq_true rfl)) dX8_link_17 ⟨Nat.le_of_ble_eq_true rfl, Nat.le_of_ble_eq_true rfl⟩) (fun r u H locs hp hw => ?_)
    obtain ⟨rfl, rfl⟩ : r = z86.1 ∧ u = z86.2 := by rw [hp]; exact ⟨rfl, rfl⟩
    refine lv_istore (lv' := [(4, .int z86.1), (0, .ref (ad 0 0)), (1, .int x1), (2, .int x2), (3, .int x3)]) hx hb dX8_link_20 hl (by decide) rfl (fun ls hl => ?_)
    refine lv_iload hx hb dX8_link_22 (lv_at hl 0 rfl) ?_
    refine lv_if_ge (tgt := 28) hx hb dX8_link_24 (by decide) (fun c87 => ?_) (fun c87 => ?_)
    · replace hm := (if_pos c87).symm.trans hm
      refine lv_aload_n hx hb dX8_link_28 rfl (lv_at hl 1 rfl) ?_
      refine g_get (ref := "MigrantHeapModel") (C := RX8) (T := TX8) (N := 44) (ci := 8) K in_X8_link_X8 hw 0 rfl (by decide : 0 < 1) rfl rfl 19 (by decide) (List.mem_of_getElem? (i := 2) rfl) rfl rfl dX8_link_29 ?_
      refine lv_iload_n hx hb dX8_link_32 rfl (lv_at hl 2 rfl) ?_
      obtain ⟨h88, hm⟩ := chkS hm
      refine g_iald K hw 18 0 rfl (by decide) rfl rfl h88 dX8_link_33 ?_
      obtain ⟨x89, hx89, hm⟩ := nm_ex hm
      refine W.eq (g2 := F0 m 34 ls (.int x89 :: [])) (by rw [hx89]) ?_
      refine lv_istore (lv' := [(5, .int x89), (4, .int z86.1), (0, .ref (ad 0 0)), (1, .int x1), (2, .int x2), (3, .int x3)]) hx hb dX8_link_34 hl (by decide) rfl (fun ls hl => ?_)
      refine lv_aload_n hx hb dX8_link_36 rfl (lv_at hl 2 rfl) ?_
      refine g_get (ref := "MigrantHeapModel") (C := RX8) (T := TX8) (N := 44) (ci := 8) K in_X8_link_X8 hw 0 rfl (by decide : 0 < 1) rfl rfl 19 (by decide) (List.mem_of_getElem? (i := 2) rfl) rfl rfl dX8_link_37 ?_
      refine lv_iload_n hx hb dX8_link_40 rfl (lv_at hl 5 rfl) ?_
      obtain ⟨h90, hm⟩ := chkS hm
      refine g_iald K hw 18 0 rfl (by decide) rfl rfl h90 dX8_link_41 ?_
      obtain ⟨x91, hx91, hm⟩ := nm_ex hm
      refine W.eq (g2 := F0 m 42 ls (.int x91 :: [])) (by rw [hx91]) ?_
      refine lv_istore (lv' := [(6, .int x91), (5, .int x89), (4, .int z86.1), (0, .ref (ad 0 0)), (1, .int x1), (2, .int x2), (3, .int x3)]) hx hb dX8_link_42 hl (by decide) rfl (fun ls hl => ?_)
      refine lv_bipush (v := 6) hx hb dX8_link_44 (by decide) ?_
      refine lv_aload_n hx hb dX8_link_46 rfl (lv_at hl 3 rfl) ?_
      refine g_get (ref := "MigrantHeapModel") (C := RX8) (T := TX8) (N := 44) (ci := 8) K in_X8_link_X8 hw 0 rfl (by decide : 0 < 1) rfl rfl 14 (by decide) (List.mem_of_getElem? (i := 3) rfl) rfl rfl dX8_link_47 ?_
      refine lv_iload hx hb dX8_link_50 (lv_at hl 1 rfl) ?_
      obtain ⟨h92, hm⟩ := chkS hm
      refine g_iald K hw 13 0 rfl (by decide) rfl rfl h92 dX8_link_52 ?_
      refine lv_imul hx hb dX8_link_53 ?_
      refine lv_iload hx hb dX8_link_54 (lv_at hl 2 rfl) ?_
      refine lv_iadd hx hb dX8_link_56 ?_
      obtain ⟨x93, hx93, hm⟩ := nm_ex hm
      refine W.eq (g2 := F0 m 57 ls (.int x93 :: [])) (by rw [hx93]) ?_
      refine lv_istore (lv' := [(7, .int x93), (6, .int x91), (5, .int x89), (4, .int z86.1), (0, .ref (ad 0 0)), (1, .int x1), (2, .int x2), (3, .int x3)]) hx hb dX8_link_57 hl (by decide) rfl (fun ls hl => ?_)
      refine lv_aload_n hx hb dX8_link_59 rfl (lv_at hl 4 rfl) ?_
      refine lv_aload_n hx hb dX8_link_60 rfl (lv_at hl 4 rfl) ?_
      refine g_get (ref := "MigrantHeapModel") (C := RX8) (T := TX8) (N := 44) (ci := 8) K in_X8_link_X8 hw 0 rfl (by decide : 0 < 1) rfl rfl 6 (by decide) (List.mem_of_getElem? (i := 4) rfl) rfl rfl dX8_link_61 ?_
      refine lv_iload hx hb dX8_link_64 (lv_at hl 0 rfl) ?_
      obtain ⟨h94, hm⟩ := chkS hm
      refine g_iald K hw 5 0 rfl (by decide) rfl rfl h94 dX8_link_66 ?_
      refine lv_iconst (v := 1) hx hb dX8_link_67 (by decide) ?_
      refine lv_icmp_ne (tgt := 102) hx hb dX8_link_68 (by decide) (fun c95 => ?_) (fun c95 => ?_)
      · replace hm := (if_pos c95).symm.trans hm
        exact t_X8_link_J102 K n z86.2 z86.1 x89 x91 hm H locs hw ls (lv_sub hl [4, 3, 2, 1] rfl)
      · replace hm := (if_neg (fun h => h c95)).symm.trans hm
        refine lv_iload hx hb dX8_link_71 (lv_at hl 1 rfl) ?_
        refine lv_if_lt (tgt := 106) hx hb dX8_link_73 (by decide) (fun c96 => ?_) (fun c96 => ?_)
        · replace hm := (if_pos c96).symm.trans hm
          exact t_X8_link_J106 K n z86.2 z86.1 x89 x91 hm H locs hw ls (lv_sub hl [4, 3, 2, 1] rfl)
        · replace hm := (if_neg c96).symm.trans hm
          refine lv_aload_n hx hb dX8_link_76 rfl (lv_at hl 4 rfl) ?_
          refine lv_iload hx hb dX8_link_77 (lv_at hl 1 rfl) ?_
          obtain ⟨z98, hc97, hm⟩ := bindS hm
          refine g_calli (GG := GM cy ad) K hw (va_runV (As := [.int x91]) (rest := [.ref (ad 0 0)]) (g_fix K) (c_X8_isOwned l D cy ad H.size n z86.2 x91  hc97) (cwV 1 (g_hts K) gX8_link_X8_isOwned rfl rfl rfl (by decide +kernel) ⟨Nat.le_of_ble_eq_true rfl, Nat.le_of_ble_eq_true rfl⟩) ⟨g_blind rides_none, g_recv K hw 0 rfl (by decide : 0 < 1) rfl rfl, g_pre (X2 := fun _ _ => True) K hw (fun _ _ _ => trivial)⟩ rfl rfl hl.1 rfl (lv_room (Nat.le_of_ble_eq_true rfl)) dX8_link_79 ⟨Nat.le_of_ble_eq_true rfl, Nat.le_of_ble_eq_true rfl⟩) (fun r u H locs hp hw => ?_)
          obtain ⟨rfl, hu⟩ := hp
          rw [hu] at hw
          refine lv_if_ne (tgt := 102) hx hb dX8_link_82 (by decide) (fun c99 => ?_) (fun c99 => ?_)
          · replace hm := (if_pos c99).symm.trans hm
            exact t_X8_link_J102 K n z86.2 z86.1 x89 x91 hm H locs hw ls (lv_sub hl [4, 3, 2, 1] rfl)
          · replace hm := (if_neg (fun h => h c99)).symm.trans hm
            refine lv_aload_n hx hb dX8_link_85 rfl (lv_at hl 4 rfl) ?_
            refine g_get (ref := "MigrantHeapModel") (C := RX8) (T := TX8) (N := 44) (ci := 8) K in_X8_link_X8 hw 0 rfl (by decide : 0 < 1) rfl rfl 14 (by decide) (List.mem_of_getElem? (i := 3) rfl) rfl rfl dX8_link_86 ?_
            refine lv_iload hx hb dX8_link_89 (lv_at hl 1 rfl) ?_
            obtain ⟨h100, hm⟩ := chkS hm
            refine g_iald K hw 13 0 rfl (by decide) rfl rfl h100 dX8_link_91 ?_
            refine lv_aload_n hx hb dX8_link_92 rfl (lv_at hl 4 rfl) ?_
            refine g_get (ref := "MigrantHeapModel") (C := RX8) (T := TX8) (N := 44) (ci := 8) K in_X8_link_X8 hw 0 rfl (by decide : 0 < 1) rfl rfl 7 (by decide) (List.mem_of_getElem? (i := 5) rfl) rfl rfl dX8_link_93 ?_
            refine lv_iload hx hb dX8_link_96 (lv_at hl 0 rfl) ?_
            obtain ⟨h101, hm⟩ := chkS hm
            refine g_iald K hw 6 0 rfl (by decide) rfl rfl h101 dX8_link_98 ?_
            refine lv_icmp_eq (tgt := 106) hx hb dX8_link_99 (by decide) (fun c102 => ?_) (fun c102 => ?_)
            · replace hm := (if_pos c102).symm.trans hm
              exact t_X8_link_J106 K n z86.2 z86.1 x89 x91 hm H locs hw ls (lv_sub hl [4, 3, 2, 1] rfl)
            · replace hm := (if_neg c102).symm.trans hm
              exact t_X8_link_J102 K n z86.2 z86.1 x89 x91 hm H locs hw ls (lv_sub hl [4, 3, 2, 1] rfl)
    · replace hm := (if_neg c87).symm.trans hm
      exact g_vret (GG := GM cy ad) K hw (Option.some.inj hm).symm dX8_link_27
  · replace hm := (if_neg (fun h => h c84)).symm.trans hm
    refine lv_aload_n hx hb dX8_link_7 rfl (lv_at hl 0 rfl) ?_
    refine lv_iconst (v := 1) hx hb dX8_link_8 (by decide) ?_
    refine g_put (v := .int 1) (ty := .int) (ref := "MigrantHeapModel") (C := RX8) (T := TX8) (N := 44) (ci := 8) K in_X8_link_X8 tyX8 tyX8_ok nmX8 hw 0 rfl (by decide : 0 < 1) rfl rfl 0 (by decide) (List.mem_of_getElem? (i := 1) rfl) rfl rfl (by decide +kernel) rfl rfl (Nat.le_of_ble_eq_true rfl) dX8_link_9 (eM_0 cy ad S 1) (fun H locs hw => ?_)
    obtain ⟨S103, hS103, hm⟩ := nm_ex hm
    rw [← hS103] at hw
    exact g_vret (GG := GM cy ad) K hw (Option.some.inj hm).symm dX8_link_12
set_option maxRecDepth 100000 in
set_option maxHeartbeats 4000000 in
theorem c_X8_link (l : Launch) (D : va_G) (cy : Nat → ClassId) (ad : Nat → Nat → Nat) (sz n : Nat) (S : MSt) (x1 : Int32) (x2 : Int32) (x3 : Int32)  {out : MSt} (hm : m_X8_link n S x1 x2 x3 = some out) : Met l yX8_link wsX8_link rm_X8_link (va_Pc [.ref (ad 0 0), .int x1, .int x2, .int x3] (Pre D (tysC cy) (GM cy ad S) (fun _ _ => True) sz)) (va_Qv (fun (u : MSt) => out = u) (fun u => Pst D (tysC cy) (AA (adrs (GM cy ad S)) sz) (GM cy ad u)) (AA (adrs (GM cy ad S)) sz)) 0 0 (AA (adrs (GM cy ad S)) sz) := by
  refine g_met (by decide) rfl (Nat.le_of_ble_eq_true rfl) ?_
  intro p e s m args below meth c K hw ls hl
  exact t_X8_link_0 (cy := cy) K n S x1 x2 x3  hm _ _ hw ls hl
end W_X8_link
section W_X8_follow
variable {p : Program} {l : Launch} {e : Env} {s : State} {m : MethodId} {args : Array Value} {below : List Frame} {meth : Method} {c : Code} {D : va_G} {A : Nat → Prop} {cy : Nat → ClassId} {ad : Nat → Nat → Nat} {Q : State → Prop}
abbrev rm_X8_follow : Room := { frames := 2, cells := 0, slots := 0, locals := 50 }
theorem in_X8_follow_X8 : ∀ w ∈ u_ws RX8 TX8 44, w ∈ wsX8_follow := by decide +kernel
set_option maxRecDepth 100000 in
set_option maxHeartbeats 4000000 in
theorem t_X8_follow_0 (K : Cx p s m args meth c D A (tysC cy) RX8 cX8_follow 5 none wsX8_follow (fun _ _ => True)) (n : Nat) (S : MSt) (x1 : Int32) (x2 : Int32) (x3 : Int32)  {out : MSt} (hm : m_X8_follow n S x1 x2 x3 = some out) : ∀ (H : Heap) (locs : List Loc), Wd D A s.heap (GM cy ad S) H locs → ∀ ls : Array Slot, lv_has ls 5 [(0, .ref (ad 0 0)), (1, .int x1), (2, .int x2), (3, .int x3)] → W p l e rm_X8_follow s m args below meth c H locs 0 0 (MQ below (va_Qv (fun (u : MSt) => out = u) (fun u => Pst D (tysC cy) A (GM cy ad u)) A) args s 0 0 A) (F0 m 0 ls []) := by
  intro H locs hw ls hl
  obtain ⟨hx, hb, hml, hown, hts, hr, hlo, hK, hA, hX⟩ := id K
  unfold m_X8_follow at hm
  refine lv_iload_n hx hb dX8_follow_0 rfl (lv_at hl 3 rfl) ?_
  obtain ⟨z26, hc25, hm⟩ := bindS hm
  refine g_calli (GG := GM cy ad) K hw (va_runS (As := [.int x3]) (rest := []) (g_fix K) (c_X8_isRoot l D cy ad H.size n S x3  hc25) (va_cwS 1 (g_hts K) gX8_follow_X8_isRoot rfl rfl rfl (by decide +kernel) ⟨Nat.le_of_ble_eq_true rfl, Nat.le_of_ble_eq_true rfl⟩) ⟨g_blind rides_none, g_pre (X2 := fun _ _ => True) K hw (fun _ _ _ => trivial)⟩ rfl rfl hl.1 rfl (lv_room (Nat.le_of_ble_eq_true rfl)) dX8_follow_1 ⟨Nat.le_of_ble_eq_true rfl, Nat.le_of_ble_eq_true rfl⟩) (fun r u H locs hp hw => ?_)
  obtain ⟨rfl, hu⟩ := hp
  rw [hu] at hw
  refine lv_if_ne (tgt := 13) hx hb dX8_follow_4 (by decide) (fun c27 => ?_) (fun c27 => ?_)
  · replace hm := (if_pos c27).symm.trans hm
    refine lv_aload_n hx hb dX8_follow_13 rfl (lv_at hl 0 rfl) ?_
    refine lv_iload_n hx hb dX8_follow_14 rfl (lv_at hl 1 rfl) ?_
    refine lv_iload_n hx hb dX8_follow_15 rfl (lv_at hl 2 rfl) ?_
    refine lv_iconst (v := 0) hx hb dX8_follow_16 (by decide) ?_
    obtain ⟨z29, hc28, hm⟩ := bindS hm
    refine g_calli (GG := GM cy ad) K hw (va_runV (As := [.int x1, .int x2, .int 0]) (rest := []) (g_fix K) (c_X8_place l D cy ad H.size n S x1 x2 0  hc28) (cwV 3 (g_hts K) gX8_follow_X8_place rfl rfl rfl (by decide +kernel) ⟨Nat.le_of_ble_eq_true rfl, Nat.le_of_ble_eq_true rfl⟩) ⟨g_blind rides_none, g_recv K hw 0 rfl (by decide : 0 < 1) rfl rfl, g_pre (X2 := fun _ _ => True) K hw (fun _ _ _ => trivial)⟩ rfl rfl hl.1 rfl (lv_room (Nat.le_of_ble_eq_true rfl)) dX8_follow_17 ⟨Nat.le_of_ble_eq_true rfl, Nat.le_of_ble_eq_true rfl⟩) (fun r u H locs hp hw => ?_)
    obtain ⟨rfl, rfl⟩ : r = z29.1 ∧ u = z29.2 := by rw [hp]; exact ⟨rfl, rfl⟩
    refine lv_istore (lv' := [(4, .int z29.1), (0, .ref (ad 0 0)), (1, .int x1), (2, .int x2), (3, .int x3)]) hx hb dX8_follow_20 hl (by decide) rfl (fun ls hl => ?_)
    refine lv_iload hx hb dX8_follow_22 (lv_at hl 0 rfl) ?_
    refine lv_if_lt (tgt := 60) hx hb dX8_follow_24 (by decide) (fun c30 => ?_) (fun c30 => ?_)
    · replace hm := (if_pos c30).symm.trans hm
      exact g_vret (GG := GM cy ad) K hw (Option.some.inj hm).symm dX8_follow_60
    · replace hm := (if_neg c30).symm.trans hm
      refine lv_aload_n hx hb dX8_follow_27 rfl (lv_at hl 1 rfl) ?_
      refine lv_aload_n hx hb dX8_follow_28 rfl (lv_at hl 1 rfl) ?_
      refine g_get (ref := "MigrantHeapModel") (C := RX8) (T := TX8) (N := 44) (ci := 8) K in_X8_follow_X8 hw 0 rfl (by decide : 0 < 1) rfl rfl 19 (by decide) (List.mem_of_getElem? (i := 2) rfl) rfl rfl dX8_follow_29 ?_
      refine lv_iload_n hx hb dX8_follow_32 rfl (lv_at hl 2 rfl) ?_
      obtain ⟨h31, hm⟩ := chkS hm
      refine g_iald K hw 18 0 rfl (by decide) rfl rfl h31 dX8_follow_33 ?_
      obtain ⟨z33, hc32, hm⟩ := bindS hm
      refine g_callv (GG := GM cy ad) K hw (va_runV (As := [.int (z29.2.1 19 x1.toNatClampNeg)]) (rest := []) (g_fix K) (c_X8_touchRecord l D cy ad H.size n z29.2 (z29.2.1 19 x1.toNatClampNeg)  hc32) (cwV 1 (g_hts K) gX8_follow_X8_touchRecord rfl rfl rfl (by decide +kernel) ⟨Nat.le_of_ble_eq_true rfl, Nat.le_of_ble_eq_true rfl⟩) ⟨g_blind rides_none, g_recv K hw 0 rfl (by decide : 0 < 1) rfl rfl, g_pre (X2 := fun _ _ => True) K hw (fun _ _ _ => trivial)⟩ rfl rfl hl.1 rfl (lv_room (Nat.le_of_ble_eq_true rfl)) dX8_follow_34 ⟨Nat.le_of_ble_eq_true rfl, Nat.le_of_ble_eq_true rfl⟩) (fun u H locs hp hw => ?_)
      obtain rfl := hp
      refine lv_aload_n hx hb dX8_follow_37 rfl (lv_at hl 1 rfl) ?_
      refine g_get (ref := "MigrantHeapModel") (C := RX8) (T := TX8) (N := 44) (ci := 8) K in_X8_follow_X8 hw 0 rfl (by decide : 0 < 1) rfl rfl 19 (by decide) (List.mem_of_getElem? (i := 2) rfl) rfl rfl dX8_follow_38 ?_
      refine lv_iload_n hx hb dX8_follow_41 rfl (lv_at hl 4 rfl) ?_
      refine lv_aload_n hx hb dX8_follow_42 rfl (lv_at hl 1 rfl) ?_
      refine g_get (ref := "MigrantHeapModel") (C := RX8) (T := TX8) (N := 44) (ci := 8) K in_X8_follow_X8 hw 0 rfl (by decide : 0 < 1) rfl rfl 16 (by decide) (List.mem_of_getElem? (i := 3) rfl) rfl rfl dX8_follow_43 ?_
      refine lv_bipush (v := 6) hx hb dX8_follow_46 (by decide) ?_
      refine lv_aload_n hx hb dX8_follow_48 rfl (lv_at hl 1 rfl) ?_
      refine g_get (ref := "MigrantHeapModel") (C := RX8) (T := TX8) (N := 44) (ci := 8) K in_X8_follow_X8 hw 0 rfl (by decide : 0 < 1) rfl rfl 19 (by decide) (List.mem_of_getElem? (i := 2) rfl) rfl rfl dX8_follow_49 ?_
      refine lv_iload_n hx hb dX8_follow_52 rfl (lv_at hl 2 rfl) ?_
      obtain ⟨h34, hm⟩ := chkS hm
      refine g_iald K hw 18 0 rfl (by decide) rfl rfl h34 dX8_follow_53 ?_
      refine lv_imul hx hb dX8_follow_54 ?_
      refine lv_iload hx hb dX8_follow_55 (lv_at hl 0 rfl) ?_
      refine lv_iadd hx hb dX8_follow_57 ?_
      obtain ⟨h35, hm⟩ := chkS hm
      refine g_iald K hw 15 0 rfl (by decide) rfl rfl h35 dX8_follow_58 ?_
      obtain ⟨h36, hm⟩ := chkS hm
      refine g_iast K hw 18 0 rfl (by decide) rfl rfl h36 dX8_follow_59 (eM_19 cy ad z33 x3.toNatClampNeg (z33.1 16 ((6 * (z33.1 19 x1.toNatClampNeg)) + z29.1).toNatClampNeg)) (fun H locs hw => ?_)
      obtain ⟨S37, hS37, hm⟩ := nm_ex hm
      rw [← hS37] at hw
      exact g_vret (GG := GM cy ad) K hw (Option.some.inj hm).symm dX8_follow_60
  · replace hm := (if_neg (fun h => h c27)).symm.trans hm
    refine lv_aload_n hx hb dX8_follow_7 rfl (lv_at hl 0 rfl) ?_
    refine lv_iconst (v := 1) hx hb dX8_follow_8 (by decide) ?_
    refine g_put (v := .int 1) (ty := .int) (ref := "MigrantHeapModel") (C := RX8) (T := TX8) (N := 44) (ci := 8) K in_X8_follow_X8 tyX8 tyX8_ok nmX8 hw 0 rfl (by decide : 0 < 1) rfl rfl 0 (by decide) (List.mem_of_getElem? (i := 1) rfl) rfl rfl (by decide +kernel) rfl rfl (Nat.le_of_ble_eq_true rfl) dX8_follow_9 (eM_0 cy ad S 1) (fun H locs hw => ?_)
    obtain ⟨S38, hS38, hm⟩ := nm_ex hm
    rw [← hS38] at hw
    exact g_vret (GG := GM cy ad) K hw (Option.some.inj hm).symm dX8_follow_12
set_option maxRecDepth 100000 in
set_option maxHeartbeats 4000000 in
theorem c_X8_follow (l : Launch) (D : va_G) (cy : Nat → ClassId) (ad : Nat → Nat → Nat) (sz n : Nat) (S : MSt) (x1 : Int32) (x2 : Int32) (x3 : Int32)  {out : MSt} (hm : m_X8_follow n S x1 x2 x3 = some out) : Met l yX8_follow wsX8_follow rm_X8_follow (va_Pc [.ref (ad 0 0), .int x1, .int x2, .int x3] (Pre D (tysC cy) (GM cy ad S) (fun _ _ => True) sz)) (va_Qv (fun (u : MSt) => out = u) (fun u => Pst D (tysC cy) (AA (adrs (GM cy ad S)) sz) (GM cy ad u)) (AA (adrs (GM cy ad S)) sz)) 0 0 (AA (adrs (GM cy ad S)) sz) := by
  refine g_met (by decide) rfl (Nat.le_of_ble_eq_true rfl) ?_
  intro p e s m args below meth c K hw ls hl
  exact t_X8_follow_0 (cy := cy) K n S x1 x2 x3  hm _ _ hw ls hl
end W_X8_follow
section W_X8_drop
variable {p : Program} {l : Launch} {e : Env} {s : State} {m : MethodId} {args : Array Value} {below : List Frame} {meth : Method} {c : Code} {D : va_G} {A : Nat → Prop} {cy : Nat → ClassId} {ad : Nat → Nat → Nat} {Q : State → Prop}
abbrev rm_X8_drop : Room := { frames := 1, cells := 0, slots := 0, locals := 20 }
theorem in_X8_drop_X8 : ∀ w ∈ u_ws RX8 TX8 44, w ∈ wsX8_drop := by decide +kernel
set_option maxRecDepth 100000 in
set_option maxHeartbeats 4000000 in
theorem t_X8_drop_J39 (K : Cx p s m args meth c D A (tysC cy) RX8 cX8_drop 3 (some .boolean) wsX8_drop (fun _ _ => True)) (n : Nat) (S : MSt) (x1 : Int32) (y0 : Int32) {out : Int32 × MSt} (hm : m_X8_drop_J39 n S x1 y0 = some out) : ∀ (H : Heap) (locs : List Loc), Wd D A s.heap (GM cy ad S) H locs → ∀ ls : Array Slot, lv_has ls 3 [(0, .ref (ad 0 0)), (1, .int x1)] → W p l e rm_X8_drop s m args below meth c H locs 0 0 (MQ below (va_Qi (fun r (u : MSt) => out = (r, u)) (fun u => Pst D (tysC cy) A (GM cy ad u)) A) args s 0 0 A) (F0 m 39 ls [.int y0]) := by
  intro H locs hw ls hl 
  obtain ⟨hx, hb, hml, hown, hts, hr, hlo, hK, hA, hX⟩ := id K
  unfold m_X8_drop_J39 at hm
  refine lv_istore_n (lv' := [(2, .int y0), (0, .ref (ad 0 0)), (1, .int x1)]) hx hb dX8_drop_39 rfl hl (by decide) rfl (fun ls hl => ?_)
  refine lv_aload_n hx hb dX8_drop_40 rfl (lv_at hl 1 rfl) ?_
  refine g_get (ref := "MigrantHeapModel") (C := RX8) (T := TX8) (N := 44) (ci := 8) K in_X8_drop_X8 hw 0 rfl (by decide : 0 < 1) rfl rfl 19 (by decide) (List.mem_of_getElem? (i := 2) rfl) rfl rfl dX8_drop_41 ?_
  refine lv_iload_n hx hb dX8_drop_44 rfl (lv_at hl 2 rfl) ?_
  refine lv_iconst (v := (-1)) hx hb dX8_drop_45 (by decide) ?_
  obtain ⟨h19, hm⟩ := chkS hm
  refine g_iast K hw 18 0 rfl (by decide) rfl rfl h19 dX8_drop_46 (eM_19 cy ad S x1.toNatClampNeg (-1)) (fun H locs hw => ?_)
  obtain ⟨S20, hS20, hm⟩ := nm_ex hm
  rw [← hS20] at hw
  refine lv_iload_n hx hb dX8_drop_47 rfl (lv_at hl 0 rfl) ?_
  obtain ⟨h21, hm⟩ := chkS hm
  exact g_zret (GG := GM cy ad) K hw h21 (Option.some.inj hm).symm dX8_drop_48
set_option maxRecDepth 100000 in
set_option maxHeartbeats 4000000 in
theorem t_X8_drop_J13 (K : Cx p s m args meth c D A (tysC cy) RX8 cX8_drop 3 (some .boolean) wsX8_drop (fun _ _ => True)) (n : Nat) (S : MSt) (x1 : Int32) (y1 : Int32) {out : Int32 × MSt} (hm : m_X8_drop_J13 n S x1 y1 = some out) : ∀ (H : Heap) (locs : List Loc), Wd D A s.heap (GM cy ad S) H locs → ∀ ls : Array Slot, lv_has ls 3 [(0, .ref (ad 0 0)), (1, .int x1)] → W p l e rm_X8_drop s m args below meth c H locs 0 0 (MQ below (va_Qi (fun r (u : MSt) => out = (r, u)) (fun u => Pst D (tysC cy) A (GM cy ad u)) A) args s 0 0 A) (F0 m 13 ls [.int y1, .ref (ad 0 0)]) := by
  intro H locs hw ls hl 
  obtain ⟨hx, hb, hml, hown, hts, hr, hlo, hK, hA, hX⟩ := id K
  unfold m_X8_drop_J13 at hm
  refine g_put (v := .int y1) (ty := .int) (ref := "MigrantHeapModel") (C := RX8) (T := TX8) (N := 44) (ci := 8) K in_X8_drop_X8 tyX8 tyX8_ok nmX8 hw 0 rfl (by decide : 0 < 1) rfl rfl 0 (by decide) (List.mem_of_getElem? (i := 1) rfl) rfl rfl (by decide +kernel) rfl rfl (Nat.le_of_ble_eq_true rfl) dX8_drop_13 (eM_0 cy ad S y1) (fun H locs hw => ?_)
  obtain ⟨S22, hS22, hm⟩ := nm_ex hm
  rw [← hS22] at hw
  refine lv_aload_n hx hb dX8_drop_16 rfl (lv_at hl 0 rfl) ?_
  refine g_get (ref := "MigrantHeapModel") (C := RX8) (T := TX8) (N := 44) (ci := 8) K in_X8_drop_X8 hw 0 rfl (by decide : 0 < 1) rfl rfl 0 (by decide) (List.mem_of_getElem? (i := 1) rfl) rfl rfl dX8_drop_17 ?_
  refine lv_if_le (tgt := 25) hx hb dX8_drop_20 (by decide) (fun c23 => ?_) (fun c23 => ?_)
  · replace hm := (if_pos c23).symm.trans hm
    refine lv_aload_n hx hb dX8_drop_25 rfl (lv_at hl 0 rfl) ?_
    refine g_get (ref := "MigrantHeapModel") (C := RX8) (T := TX8) (N := 44) (ci := 8) K in_X8_drop_X8 hw 0 rfl (by decide : 0 < 1) rfl rfl 19 (by decide) (List.mem_of_getElem? (i := 2) rfl) rfl rfl dX8_drop_26 ?_
    refine lv_iload_n hx hb dX8_drop_29 rfl (lv_at hl 1 rfl) ?_
    obtain ⟨h24, hm⟩ := chkS hm
    refine g_iald K hw 18 0 rfl (by decide) rfl rfl h24 dX8_drop_30 ?_
    refine lv_if_lt (tgt := 38) hx hb dX8_drop_31 (by decide) (fun c25 => ?_) (fun c25 => ?_)
    · replace hm := (if_pos c25).symm.trans hm
      refine lv_iconst (v := 0) hx hb dX8_drop_38 (by decide) ?_
      exact t_X8_drop_J39 K n S22 x1 0 hm H locs hw ls (lv_sub hl [0, 1] rfl)
    · replace hm := (if_neg c25).symm.trans hm
      refine lv_iconst (v := 1) hx hb dX8_drop_34 (by decide) ?_
      refine lv_goto (tgt := 39) hx hb dX8_drop_35 (by decide) ?_
      exact t_X8_drop_J39 K n S22 x1 1 hm H locs hw ls (lv_sub hl [0, 1] rfl)
  · replace hm := (if_neg c23).symm.trans hm
    refine lv_iconst (v := 0) hx hb dX8_drop_23 (by decide) ?_
    exact g_zret (GG := GM cy ad) K hw rfl (Option.some.inj hm).symm dX8_drop_24
set_option maxRecDepth 100000 in
set_option maxHeartbeats 4000000 in
theorem t_X8_drop_0 (K : Cx p s m args meth c D A (tysC cy) RX8 cX8_drop 3 (some .boolean) wsX8_drop (fun _ _ => True)) (n : Nat) (S : MSt) (x1 : Int32)  {out : Int32 × MSt} (hm : m_X8_drop n S x1 = some out) : ∀ (H : Heap) (locs : List Loc), Wd D A s.heap (GM cy ad S) H locs → ∀ ls : Array Slot, lv_has ls 3 [(0, .ref (ad 0 0)), (1, .int x1)] → W p l e rm_X8_drop s m args below meth c H locs 0 0 (MQ below (va_Qi (fun r (u : MSt) => out = (r, u)) (fun u => Pst D (tysC cy) A (GM cy ad u)) A) args s 0 0 A) (F0 m 0 ls []) := by
  intro H locs hw ls hl
  obtain ⟨hx, hb, hml, hown, hts, hr, hlo, hK, hA, hX⟩ := id K
  unfold m_X8_drop at hm
  refine lv_aload_n hx hb dX8_drop_0 rfl (lv_at hl 0 rfl) ?_
  refine lv_iload_n hx hb dX8_drop_1 rfl (lv_at hl 1 rfl) ?_
  obtain ⟨z27, hc26, hm⟩ := bindS hm
  refine g_calli (GG := GM cy ad) K hw (va_runS (As := [.int x1]) (rest := [.ref (ad 0 0)]) (g_fix K) (c_X8_isRoot l D cy ad H.size n S x1  hc26) (va_cwS 1 (g_hts K) gX8_drop_X8_isRoot rfl rfl rfl (by decide +kernel) ⟨Nat.le_of_ble_eq_true rfl, Nat.le_of_ble_eq_true rfl⟩) ⟨g_blind rides_none, g_pre (X2 := fun _ _ => True) K hw (fun _ _ _ => trivial)⟩ rfl rfl hl.1 rfl (lv_room (Nat.le_of_ble_eq_true rfl)) dX8_drop_2 ⟨Nat.le_of_ble_eq_true rfl, Nat.le_of_ble_eq_true rfl⟩) (fun r u H locs hp hw => ?_)
  obtain ⟨rfl, hu⟩ := hp
  rw [hu] at hw
  refine lv_if_eq (tgt := 12) hx hb dX8_drop_5 (by decide) (fun c28 => ?_) (fun c28 => ?_)
  · replace hm := (if_pos c28).symm.trans hm
    refine lv_iconst (v := 1) hx hb dX8_drop_12 (by decide) ?_
    exact t_X8_drop_J13 K n S x1 1 hm H locs hw ls (lv_sub hl [0, 1] rfl)
  · replace hm := (if_neg c28).symm.trans hm
    refine lv_iconst (v := 0) hx hb dX8_drop_8 (by decide) ?_
    refine lv_goto (tgt := 13) hx hb dX8_drop_9 (by decide) ?_
    exact t_X8_drop_J13 K n S x1 0 hm H locs hw ls (lv_sub hl [0, 1] rfl)
set_option maxRecDepth 100000 in
set_option maxHeartbeats 4000000 in
theorem c_X8_drop (l : Launch) (D : va_G) (cy : Nat → ClassId) (ad : Nat → Nat → Nat) (sz n : Nat) (S : MSt) (x1 : Int32)  {out : Int32 × MSt} (hm : m_X8_drop n S x1 = some out) : Met l yX8_drop wsX8_drop rm_X8_drop (va_Pc [.ref (ad 0 0), .int x1] (Pre D (tysC cy) (GM cy ad S) (fun _ _ => True) sz)) (va_Qi (fun r (u : MSt) => out = (r, u)) (fun u => Pst D (tysC cy) (AA (adrs (GM cy ad S)) sz) (GM cy ad u)) (AA (adrs (GM cy ad S)) sz)) 0 0 (AA (adrs (GM cy ad S)) sz) := by
  refine g_met (by decide) rfl (Nat.le_of_ble_eq_true rfl) ?_
  intro p e s m args below meth c K hw ls hl
  exact t_X8_drop_0 (cy := cy) K n S x1  hm _ _ hw ls hl
end W_X8_drop
section W_X8_same
variable {p : Program} {l : Launch} {e : Env} {s : State} {m : MethodId} {args : Array Value} {below : List Frame} {meth : Method} {c : Code} {D : va_G} {A : Nat → Prop} {cy : Nat → ClassId} {ad : Nat → Nat → Nat} {Q : State → Prop}
abbrev rm_X8_same : Room := { frames := 1, cells := 0, slots := 0, locals := 20 }
theorem in_X8_same_X8 : ∀ w ∈ u_ws RX8 TX8 44, w ∈ wsX8_same := by decide +kernel
set_option maxRecDepth 100000 in
set_option maxHeartbeats 4000000 in
theorem t_X8_same_J20 (K : Cx p s m args meth c D A (tysC cy) RX8 cX8_same 3 (some .boolean) wsX8_same (fun _ _ => True)) (n : Nat) (S : MSt) (x1 : Int32) (x2 : Int32) (y1 : Int32) {out : Int32 × MSt} (hm : m_X8_same_J20 n S x1 x2 y1 = some out) : ∀ (H : Heap) (locs : List Loc), Wd D A s.heap (GM cy ad S) H locs → ∀ ls : Array Slot, lv_has ls 3 [(0, .ref (ad 0 0)), (1, .int x1), (2, .int x2)] → W p l e rm_X8_same s m args below meth c H locs 0 0 (MQ below (va_Qi (fun r (u : MSt) => out = (r, u)) (fun u => Pst D (tysC cy) A (GM cy ad u)) A) args s 0 0 A) (F0 m 20 ls [.int y1, .ref (ad 0 0)]) := by
  intro H locs hw ls hl 
  obtain ⟨hx, hb, hml, hown, hts, hr, hlo, hK, hA, hX⟩ := id K
  unfold m_X8_same_J20 at hm
  refine g_put (v := .int y1) (ty := .int) (ref := "MigrantHeapModel") (C := RX8) (T := TX8) (N := 44) (ci := 8) K in_X8_same_X8 tyX8 tyX8_ok nmX8 hw 0 rfl (by decide : 0 < 1) rfl rfl 0 (by decide) (List.mem_of_getElem? (i := 1) rfl) rfl rfl (by decide +kernel) rfl rfl (Nat.le_of_ble_eq_true rfl) dX8_same_20 (eM_0 cy ad S y1) (fun H locs hw => ?_)
  obtain ⟨S22, hS22, hm⟩ := nm_ex hm
  rw [← hS22] at hw
  refine lv_aload_n hx hb dX8_same_23 rfl (lv_at hl 0 rfl) ?_
  refine g_get (ref := "MigrantHeapModel") (C := RX8) (T := TX8) (N := 44) (ci := 8) K in_X8_same_X8 hw 0 rfl (by decide : 0 < 1) rfl rfl 0 (by decide) (List.mem_of_getElem? (i := 1) rfl) rfl rfl dX8_same_24 ?_
  refine lv_if_ne (tgt := 49) hx hb dX8_same_27 (by decide) (fun c23 => ?_) (fun c23 => ?_)
  · replace hm := (if_pos c23).symm.trans hm
    refine lv_iconst (v := 0) hx hb dX8_same_49 (by decide) ?_
    exact g_zret (GG := GM cy ad) K hw rfl (Option.some.inj hm).symm dX8_same_50
  · replace hm := (if_neg (fun h => h c23)).symm.trans hm
    refine lv_aload_n hx hb dX8_same_30 rfl (lv_at hl 0 rfl) ?_
    refine g_get (ref := "MigrantHeapModel") (C := RX8) (T := TX8) (N := 44) (ci := 8) K in_X8_same_X8 hw 0 rfl (by decide : 0 < 1) rfl rfl 19 (by decide) (List.mem_of_getElem? (i := 2) rfl) rfl rfl dX8_same_31 ?_
    refine lv_iload_n hx hb dX8_same_34 rfl (lv_at hl 1 rfl) ?_
    obtain ⟨h24, hm⟩ := chkS hm
    refine g_iald K hw 18 0 rfl (by decide) rfl rfl h24 dX8_same_35 ?_
    refine lv_aload_n hx hb dX8_same_36 rfl (lv_at hl 0 rfl) ?_
    refine g_get (ref := "MigrantHeapModel") (C := RX8) (T := TX8) (N := 44) (ci := 8) K in_X8_same_X8 hw 0 rfl (by decide : 0 < 1) rfl rfl 19 (by decide) (List.mem_of_getElem? (i := 2) rfl) rfl rfl dX8_same_37 ?_
    refine lv_iload_n hx hb dX8_same_40 rfl (lv_at hl 2 rfl) ?_
    obtain ⟨h25, hm⟩ := chkS hm
    refine g_iald K hw 18 0 rfl (by decide) rfl rfl h25 dX8_same_41 ?_
    refine lv_icmp_ne (tgt := 49) hx hb dX8_same_42 (by decide) (fun c26 => ?_) (fun c26 => ?_)
    · replace hm := (if_pos c26).symm.trans hm
      refine lv_iconst (v := 0) hx hb dX8_same_49 (by decide) ?_
      exact g_zret (GG := GM cy ad) K hw rfl (Option.some.inj hm).symm dX8_same_50
    · replace hm := (if_neg (fun h => h c26)).symm.trans hm
      refine lv_iconst (v := 1) hx hb dX8_same_45 (by decide) ?_
      refine lv_goto (tgt := 50) hx hb dX8_same_46 (by decide) ?_
      exact g_zret (GG := GM cy ad) K hw rfl (Option.some.inj hm).symm dX8_same_50
set_option maxRecDepth 100000 in
set_option maxHeartbeats 4000000 in
theorem t_X8_same_J19 (K : Cx p s m args meth c D A (tysC cy) RX8 cX8_same 3 (some .boolean) wsX8_same (fun _ _ => True)) (n : Nat) (S : MSt) (x1 : Int32) (x2 : Int32) {out : Int32 × MSt} (hm : m_X8_same_J19 n S x1 x2 = some out) : ∀ (H : Heap) (locs : List Loc), Wd D A s.heap (GM cy ad S) H locs → ∀ ls : Array Slot, lv_has ls 3 [(0, .ref (ad 0 0)), (1, .int x1), (2, .int x2)] → W p l e rm_X8_same s m args below meth c H locs 0 0 (MQ below (va_Qi (fun r (u : MSt) => out = (r, u)) (fun u => Pst D (tysC cy) A (GM cy ad u)) A) args s 0 0 A) (F0 m 19 ls [.ref (ad 0 0)]) := by
  intro H locs hw ls hl 
  obtain ⟨hx, hb, hml, hown, hts, hr, hlo, hK, hA, hX⟩ := id K
  unfold m_X8_same_J19 at hm
  refine lv_iconst (v := 1) hx hb dX8_same_19 (by decide) ?_
  exact t_X8_same_J20 K n S x1 x2 1 hm H locs hw ls (lv_sub hl [0, 1, 2] rfl)
set_option maxRecDepth 100000 in
set_option maxHeartbeats 4000000 in
theorem t_X8_same_0 (K : Cx p s m args meth c D A (tysC cy) RX8 cX8_same 3 (some .boolean) wsX8_same (fun _ _ => True)) (n : Nat) (S : MSt) (x1 : Int32) (x2 : Int32)  {out : Int32 × MSt} (hm : m_X8_same n S x1 x2 = some out) : ∀ (H : Heap) (locs : List Loc), Wd D A s.heap (GM cy ad S) H locs → ∀ ls : Array Slot, lv_has ls 3 [(0, .ref (ad 0 0)), (1, .int x1), (2, .int x2)] → W p l e rm_X8_same s m args below meth c H locs 0 0 (MQ below (va_Qi (fun r (u : MSt) => out = (r, u)) (fun u => Pst D (tysC cy) A (GM cy ad u)) A) args s 0 0 A) (F0 m 0 ls []) := by
  intro H locs hw ls hl
  obtain ⟨hx, hb, hml, hown, hts, hr, hlo, hK, hA, hX⟩ := id K
  unfold m_X8_same at hm
  refine lv_aload_n hx hb dX8_same_0 rfl (lv_at hl 0 rfl) ?_
  refine lv_iload_n hx hb dX8_same_1 rfl (lv_at hl 1 rfl) ?_
  obtain ⟨z28, hc27, hm⟩ := bindS hm
  refine g_calli (GG := GM cy ad) K hw (va_runS (As := [.int x1]) (rest := [.ref (ad 0 0)]) (g_fix K) (c_X8_isRoot l D cy ad H.size n S x1  hc27) (va_cwS 1 (g_hts K) gX8_same_X8_isRoot rfl rfl rfl (by decide +kernel) ⟨Nat.le_of_ble_eq_true rfl, Nat.le_of_ble_eq_true rfl⟩) ⟨g_blind rides_none, g_pre (X2 := fun _ _ => True) K hw (fun _ _ _ => trivial)⟩ rfl rfl hl.1 rfl (lv_room (Nat.le_of_ble_eq_true rfl)) dX8_same_2 ⟨Nat.le_of_ble_eq_true rfl, Nat.le_of_ble_eq_true rfl⟩) (fun r u H locs hp hw => ?_)
  obtain ⟨rfl, hu⟩ := hp
  rw [hu] at hw
  refine lv_if_eq (tgt := 19) hx hb dX8_same_5 (by decide) (fun c29 => ?_) (fun c29 => ?_)
  · replace hm := (if_pos c29).symm.trans hm
    exact t_X8_same_J19 K n S x1 x2 hm H locs hw ls (lv_sub hl [0, 1, 2] rfl)
  · replace hm := (if_neg c29).symm.trans hm
    refine lv_iload_n hx hb dX8_same_8 rfl (lv_at hl 2 rfl) ?_
    obtain ⟨z31, hc30, hm⟩ := bindS hm
    refine g_calli (GG := GM cy ad) K hw (va_runS (As := [.int x2]) (rest := [.ref (ad 0 0)]) (g_fix K) (c_X8_isRoot l D cy ad H.size n S x2  hc30) (va_cwS 1 (g_hts K) gX8_same_X8_isRoot rfl rfl rfl (by decide +kernel) ⟨Nat.le_of_ble_eq_true rfl, Nat.le_of_ble_eq_true rfl⟩) ⟨g_blind rides_none, g_pre (X2 := fun _ _ => True) K hw (fun _ _ _ => trivial)⟩ rfl rfl hl.1 rfl (lv_room (Nat.le_of_ble_eq_true rfl)) dX8_same_9 ⟨Nat.le_of_ble_eq_true rfl, Nat.le_of_ble_eq_true rfl⟩) (fun r u H locs hp hw => ?_)
    obtain ⟨rfl, hu⟩ := hp
    rw [hu] at hw
    refine lv_if_eq (tgt := 19) hx hb dX8_same_12 (by decide) (fun c32 => ?_) (fun c32 => ?_)
    · replace hm := (if_pos c32).symm.trans hm
      exact t_X8_same_J19 K n S x1 x2 hm H locs hw ls (lv_sub hl [0, 1, 2] rfl)
    · replace hm := (if_neg c32).symm.trans hm
      refine lv_iconst (v := 0) hx hb dX8_same_15 (by decide) ?_
      refine lv_goto (tgt := 20) hx hb dX8_same_16 (by decide) ?_
      exact t_X8_same_J20 K n S x1 x2 0 hm H locs hw ls (lv_sub hl [0, 1, 2] rfl)
set_option maxRecDepth 100000 in
set_option maxHeartbeats 4000000 in
theorem c_X8_same (l : Launch) (D : va_G) (cy : Nat → ClassId) (ad : Nat → Nat → Nat) (sz n : Nat) (S : MSt) (x1 : Int32) (x2 : Int32)  {out : Int32 × MSt} (hm : m_X8_same n S x1 x2 = some out) : Met l yX8_same wsX8_same rm_X8_same (va_Pc [.ref (ad 0 0), .int x1, .int x2] (Pre D (tysC cy) (GM cy ad S) (fun _ _ => True) sz)) (va_Qi (fun r (u : MSt) => out = (r, u)) (fun u => Pst D (tysC cy) (AA (adrs (GM cy ad S)) sz) (GM cy ad u)) (AA (adrs (GM cy ad S)) sz)) 0 0 (AA (adrs (GM cy ad S)) sz) := by
  refine g_met (by decide) rfl (Nat.le_of_ble_eq_true rfl) ?_
  intro p e s m args below meth c K hw ls hl
  exact t_X8_same_0 (cy := cy) K n S x1 x2  hm _ _ hw ls hl
end W_X8_same
section W_X8_word
variable {p : Program} {l : Launch} {e : Env} {s : State} {m : MethodId} {args : Array Value} {below : List Frame} {meth : Method} {c : Code} {D : va_G} {A : Nat → Prop} {cy : Nat → ClassId} {ad : Nat → Nat → Nat} {Q : State → Prop}
abbrev rm_X8_word : Room := { frames := 0, cells := 0, slots := 0, locals := 0 }
theorem in_X8_word_X8 : ∀ w ∈ u_ws RX8 TX8 44, w ∈ wsX8_word := by decide +kernel
set_option maxRecDepth 100000 in
set_option maxHeartbeats 4000000 in
theorem t_X8_word_J42 (K : Cx p s m args meth c D A (tysC cy) RX8 cX8_word 2 (some .int) wsX8_word (fun _ _ => True)) (n : Nat) (S : MSt) (x1 : Int32) (y1 : Int32) {out : Int32 × MSt} (hm : m_X8_word_J42 n S x1 y1 = some out) : ∀ (H : Heap) (locs : List Loc), Wd D A s.heap (GM cy ad S) H locs → ∀ ls : Array Slot, lv_has ls 2 [(0, .ref (ad 0 0)), (1, .int x1)] → W p l e rm_X8_word s m args below meth c H locs 0 0 (MQ below (va_Qi (fun r (u : MSt) => out = (r, u)) (fun u => Pst D (tysC cy) A (GM cy ad u)) A) args s 0 0 A) (F0 m 42 ls [.int y1, .ref (ad 0 0)]) := by
  intro H locs hw ls hl 
  obtain ⟨hx, hb, hml, hown, hts, hr, hlo, hK, hA, hX⟩ := id K
  unfold m_X8_word_J42 at hm
  refine g_put (v := .int y1) (ty := .int) (ref := "MigrantHeapModel") (C := RX8) (T := TX8) (N := 44) (ci := 8) K in_X8_word_X8 tyX8 tyX8_ok nmX8 hw 0 rfl (by decide : 0 < 1) rfl rfl 0 (by decide) (List.mem_of_getElem? (i := 2) rfl) rfl rfl (by decide +kernel) rfl rfl (Nat.le_of_ble_eq_true rfl) dX8_word_42 (eM_0 cy ad S y1) (fun H locs hw => ?_)
  obtain ⟨S13, hS13, hm⟩ := nm_ex hm
  rw [← hS13] at hw
  refine lv_aload_n hx hb dX8_word_45 rfl (lv_at hl 0 rfl) ?_
  refine g_get (ref := "MigrantHeapModel") (C := RX8) (T := TX8) (N := 44) (ci := 8) K in_X8_word_X8 hw 0 rfl (by decide : 0 < 1) rfl rfl 0 (by decide) (List.mem_of_getElem? (i := 2) rfl) rfl rfl dX8_word_46 ?_
  refine lv_if_le (tgt := 54) hx hb dX8_word_49 (by decide) (fun c14 => ?_) (fun c14 => ?_)
  · replace hm := (if_pos c14).symm.trans hm
    refine lv_aload_n hx hb dX8_word_54 rfl (lv_at hl 0 rfl) ?_
    refine g_get (ref := "MigrantHeapModel") (C := RX8) (T := TX8) (N := 44) (ci := 8) K in_X8_word_X8 hw 0 rfl (by decide : 0 < 1) rfl rfl 21 (by decide) (List.mem_of_getElem? (i := 3) rfl) rfl rfl dX8_word_55 ?_
    refine lv_aload_n hx hb dX8_word_58 rfl (lv_at hl 0 rfl) ?_
    refine g_get (ref := "MigrantHeapModel") (C := RX8) (T := TX8) (N := 44) (ci := 8) K in_X8_word_X8 hw 0 rfl (by decide : 0 < 1) rfl rfl 20 (by decide) (List.mem_of_getElem? (i := 1) rfl) rfl rfl dX8_word_59 ?_
    refine lv_iload_n hx hb dX8_word_62 rfl (lv_at hl 1 rfl) ?_
    obtain ⟨h15, hm⟩ := chkS hm
    refine g_iast K hw 19 0 rfl (by decide) rfl rfl h15 dX8_word_63 (eM_21 cy ad S13 ((S13.1 20 0).toNatClampNeg) x1) (fun H locs hw => ?_)
    obtain ⟨S16, hS16, hm⟩ := nm_ex hm
    rw [← hS16] at hw
    refine lv_aload_n hx hb dX8_word_64 rfl (lv_at hl 0 rfl) ?_
    refine lv_dup hx hb dX8_word_65 rfl ?_
    refine g_get (ref := "MigrantHeapModel") (C := RX8) (T := TX8) (N := 44) (ci := 8) K in_X8_word_X8 hw 0 rfl (by decide : 0 < 1) rfl rfl 20 (by decide) (List.mem_of_getElem? (i := 1) rfl) rfl rfl dX8_word_66 ?_
    refine lv_iconst (v := 1) hx hb dX8_word_69 (by decide) ?_
    refine lv_iadd hx hb dX8_word_70 ?_
    refine g_put (v := .int ((S16.1 20 0) + 1)) (ty := .int) (ref := "MigrantHeapModel") (C := RX8) (T := TX8) (N := 44) (ci := 8) K in_X8_word_X8 tyX8 tyX8_ok nmX8 hw 0 rfl (by decide : 0 < 1) rfl rfl 20 (by decide) (List.mem_of_getElem? (i := 1) rfl) rfl rfl (by decide +kernel) rfl rfl (Nat.le_of_ble_eq_true rfl) dX8_word_71 (eM_20 cy ad S16 ((S16.1 20 0) + 1)) (fun H locs hw => ?_)
    obtain ⟨S17, hS17, hm⟩ := nm_ex hm
    rw [← hS17] at hw
    refine lv_aload_n hx hb dX8_word_74 rfl (lv_at hl 0 rfl) ?_
    refine g_get (ref := "MigrantHeapModel") (C := RX8) (T := TX8) (N := 44) (ci := 8) K in_X8_word_X8 hw 0 rfl (by decide : 0 < 1) rfl rfl 20 (by decide) (List.mem_of_getElem? (i := 1) rfl) rfl rfl dX8_word_75 ?_
    exact g_iret (GG := GM cy ad) K hw (Option.some.inj hm).symm dX8_word_78
  · replace hm := (if_neg c14).symm.trans hm
    refine lv_iconst (v := 0) hx hb dX8_word_52 (by decide) ?_
    exact g_iret (GG := GM cy ad) K hw (Option.some.inj hm).symm dX8_word_53
set_option maxRecDepth 100000 in
set_option maxHeartbeats 4000000 in
theorem t_X8_word_J28 (K : Cx p s m args meth c D A (tysC cy) RX8 cX8_word 2 (some .int) wsX8_word (fun _ _ => True)) (n : Nat) (S : MSt) (x1 : Int32) {out : Int32 × MSt} (hm : m_X8_word_J28 n S x1 = some out) : ∀ (H : Heap) (locs : List Loc), Wd D A s.heap (GM cy ad S) H locs → ∀ ls : Array Slot, lv_has ls 2 [(0, .ref (ad 0 0)), (1, .int x1)] → W p l e rm_X8_word s m args below meth c H locs 0 0 (MQ below (va_Qi (fun r (u : MSt) => out = (r, u)) (fun u => Pst D (tysC cy) A (GM cy ad u)) A) args s 0 0 A) (F0 m 28 ls [.ref (ad 0 0)]) := by
  intro H locs hw ls hl 
  obtain ⟨hx, hb, hml, hown, hts, hr, hlo, hK, hA, hX⟩ := id K
  unfold m_X8_word_J28 at hm
  refine lv_aload_n hx hb dX8_word_28 rfl (lv_at hl 0 rfl) ?_
  refine g_get (ref := "MigrantHeapModel") (C := RX8) (T := TX8) (N := 44) (ci := 8) K in_X8_word_X8 hw 0 rfl (by decide : 0 < 1) rfl rfl 20 (by decide) (List.mem_of_getElem? (i := 1) rfl) rfl rfl dX8_word_29 ?_
  refine lv_bipush (v := 12) hx hb dX8_word_32 (by decide) ?_
  refine lv_icmp_ne (tgt := 41) hx hb dX8_word_34 (by decide) (fun c18 => ?_) (fun c18 => ?_)
  · replace hm := (if_pos c18).symm.trans hm
    refine lv_iconst (v := 0) hx hb dX8_word_41 (by decide) ?_
    exact t_X8_word_J42 K n S x1 0 hm H locs hw ls (lv_sub hl [0, 1] rfl)
  · replace hm := (if_neg (fun h => h c18)).symm.trans hm
    refine lv_iconst (v := 2) hx hb dX8_word_37 (by decide) ?_
    refine lv_goto (tgt := 42) hx hb dX8_word_38 (by decide) ?_
    exact t_X8_word_J42 K n S x1 2 hm H locs hw ls (lv_sub hl [0, 1] rfl)
set_option maxRecDepth 100000 in
set_option maxHeartbeats 4000000 in
theorem t_X8_word_J24 (K : Cx p s m args meth c D A (tysC cy) RX8 cX8_word 2 (some .int) wsX8_word (fun _ _ => True)) (n : Nat) (S : MSt) (x1 : Int32) {out : Int32 × MSt} (hm : m_X8_word_J24 n S x1 = some out) : ∀ (H : Heap) (locs : List Loc), Wd D A s.heap (GM cy ad S) H locs → ∀ ls : Array Slot, lv_has ls 2 [(0, .ref (ad 0 0)), (1, .int x1)] → W p l e rm_X8_word s m args below meth c H locs 0 0 (MQ below (va_Qi (fun r (u : MSt) => out = (r, u)) (fun u => Pst D (tysC cy) A (GM cy ad u)) A) args s 0 0 A) (F0 m 24 ls [.ref (ad 0 0)]) := by
  intro H locs hw ls hl 
  obtain ⟨hx, hb, hml, hown, hts, hr, hlo, hK, hA, hX⟩ := id K
  unfold m_X8_word_J24 at hm
  refine lv_iconst (v := 1) hx hb dX8_word_24 (by decide) ?_
  refine lv_goto (tgt := 42) hx hb dX8_word_25 (by decide) ?_
  exact t_X8_word_J42 K n S x1 1 hm H locs hw ls (lv_sub hl [0, 1] rfl)
set_option maxRecDepth 100000 in
set_option maxHeartbeats 4000000 in
theorem t_X8_word_J11 (K : Cx p s m args meth c D A (tysC cy) RX8 cX8_word 2 (some .int) wsX8_word (fun _ _ => True)) (n : Nat) (S : MSt) (x1 : Int32) {out : Int32 × MSt} (hm : m_X8_word_J11 n S x1 = some out) : ∀ (H : Heap) (locs : List Loc), Wd D A s.heap (GM cy ad S) H locs → ∀ ls : Array Slot, lv_has ls 2 [(0, .ref (ad 0 0)), (1, .int x1)] → W p l e rm_X8_word s m args below meth c H locs 0 0 (MQ below (va_Qi (fun r (u : MSt) => out = (r, u)) (fun u => Pst D (tysC cy) A (GM cy ad u)) A) args s 0 0 A) (F0 m 11 ls [.ref (ad 0 0)]) := by
  intro H locs hw ls hl 
  obtain ⟨hx, hb, hml, hown, hts, hr, hlo, hK, hA, hX⟩ := id K
  unfold m_X8_word_J11 at hm
  refine lv_iload_n hx hb dX8_word_11 rfl (lv_at hl 1 rfl) ?_
  refine lv_bipush (v := 100) hx hb dX8_word_12 (by decide) ?_
  refine lv_icmp_lt (tgt := 24) hx hb dX8_word_14 (by decide) (fun c19 => ?_) (fun c19 => ?_)
  · replace hm := (if_pos c19).symm.trans hm
    exact t_X8_word_J24 K n S x1 hm H locs hw ls (lv_sub hl [0, 1] rfl)
  · replace hm := (if_neg c19).symm.trans hm
    refine lv_iload_n hx hb dX8_word_17 rfl (lv_at hl 1 rfl) ?_
    refine lv_sipush (v := 300) hx hb dX8_word_18 (by decide) ?_
    refine lv_icmp_le (tgt := 28) hx hb dX8_word_21 (by decide) (fun c20 => ?_) (fun c20 => ?_)
    · replace hm := (if_pos c20).symm.trans hm
      exact t_X8_word_J28 K n S x1 hm H locs hw ls (lv_sub hl [0, 1] rfl)
    · replace hm := (if_neg c20).symm.trans hm
      exact t_X8_word_J24 K n S x1 hm H locs hw ls (lv_sub hl [0, 1] rfl)
set_option maxRecDepth 100000 in
set_option maxHeartbeats 4000000 in
theorem t_X8_word_0 (K : Cx p s m args meth c D A (tysC cy) RX8 cX8_word 2 (some .int) wsX8_word (fun _ _ => True)) (n : Nat) (S : MSt) (x1 : Int32)  {out : Int32 × MSt} (hm : m_X8_word n S x1 = some out) : ∀ (H : Heap) (locs : List Loc), Wd D A s.heap (GM cy ad S) H locs → ∀ ls : Array Slot, lv_has ls 2 [(0, .ref (ad 0 0)), (1, .int x1)] → W p l e rm_X8_word s m args below meth c H locs 0 0 (MQ below (va_Qi (fun r (u : MSt) => out = (r, u)) (fun u => Pst D (tysC cy) A (GM cy ad u)) A) args s 0 0 A) (F0 m 0 ls []) := by
  intro H locs hw ls hl
  obtain ⟨hx, hb, hml, hown, hts, hr, hlo, hK, hA, hX⟩ := id K
  unfold m_X8_word at hm
  refine lv_aload_n hx hb dX8_word_0 rfl (lv_at hl 0 rfl) ?_
  refine lv_iload_n hx hb dX8_word_1 rfl (lv_at hl 1 rfl) ?_
  refine lv_if_lt (tgt := 11) hx hb dX8_word_2 (by decide) (fun c21 => ?_) (fun c21 => ?_)
  · replace hm := (if_pos c21).symm.trans hm
    exact t_X8_word_J11 K n S x1 hm H locs hw ls (lv_sub hl [0, 1] rfl)
  · replace hm := (if_neg c21).symm.trans hm
    refine lv_iload_n hx hb dX8_word_5 rfl (lv_at hl 1 rfl) ?_
    refine lv_bipush (v := 16) hx hb dX8_word_6 (by decide) ?_
    refine lv_icmp_le (tgt := 28) hx hb dX8_word_8 (by decide) (fun c22 => ?_) (fun c22 => ?_)
    · replace hm := (if_pos c22).symm.trans hm
      exact t_X8_word_J28 K n S x1 hm H locs hw ls (lv_sub hl [0, 1] rfl)
    · replace hm := (if_neg c22).symm.trans hm
      exact t_X8_word_J11 K n S x1 hm H locs hw ls (lv_sub hl [0, 1] rfl)
set_option maxRecDepth 100000 in
set_option maxHeartbeats 4000000 in
theorem c_X8_word (l : Launch) (D : va_G) (cy : Nat → ClassId) (ad : Nat → Nat → Nat) (sz n : Nat) (S : MSt) (x1 : Int32)  {out : Int32 × MSt} (hm : m_X8_word n S x1 = some out) : Met l yX8_word wsX8_word rm_X8_word (va_Pc [.ref (ad 0 0), .int x1] (Pre D (tysC cy) (GM cy ad S) (fun _ _ => True) sz)) (va_Qi (fun r (u : MSt) => out = (r, u)) (fun u => Pst D (tysC cy) (AA (adrs (GM cy ad S)) sz) (GM cy ad u)) (AA (adrs (GM cy ad S)) sz)) 0 0 (AA (adrs (GM cy ad S)) sz) := by
  refine g_met (by decide) rfl (Nat.le_of_ble_eq_true rfl) ?_
  intro p e s m args below meth c K hw ls hl
  exact t_X8_word_0 (cy := cy) K n S x1  hm _ _ hw ls hl
end W_X8_word
section W_X8_isRight
variable {p : Program} {l : Launch} {e : Env} {s : State} {m : MethodId} {args : Array Value} {below : List Frame} {meth : Method} {c : Code} {D : va_G} {A : Nat → Prop} {cy : Nat → ClassId} {ad : Nat → Nat → Nat} {Q : State → Prop}
abbrev rm_X8_isRight : Room := { frames := 0, cells := 0, slots := 0, locals := 0 }
theorem in_X8_isRight_X8 : ∀ w ∈ u_ws RX8 TX8 44, w ∈ wsX8_isRight := by decide +kernel
set_option maxRecDepth 100000 in
set_option maxHeartbeats 4000000 in
theorem t_X8_isRight_J73 (K : Cx p s m args meth c D A (tysC cy) RX8 cX8_isRight 5 (some .boolean) wsX8_isRight (fun _ _ => True)) (n : Nat) (S : MSt) (x1 : Int32) (x3 : Int32) (x4 : Int32) (y0 : Int32) {out : (Int32 × Int32 × Int32) ⊕ (Int32 × Int32)} {z : (Int32 × Int32)} (hm : m_X8_isRight_J73 n S x1 x3 x4 y0 = some out) (hg : Gd (fun (x : (Int32 × Int32 × Int32)) => ∀ (H : Heap) (locs : List Loc), Wd D A s.heap (GM cy ad S) H locs → ∀ ls : Array Slot, lv_has ls 5 [(0, .ref (ad 0 0)), (1, .int x.1), (2, .int x.2.1), (3, .int x.2.2)] → W p l e rm_X8_isRight s m args below meth c H locs 0 0 Q (F0 m 6 ls [])) z out) (hE0 : ∀ w : (Int32 × Int32), z = w → ∀ (H : Heap) (locs : List Loc), Wd D A s.heap (GM cy ad S) H locs → ∀ ls : Array Slot, lv_has ls 5 [(1, .int w.1), (2, .int w.2)] → W p l e rm_X8_isRight s m args below meth c H locs 0 0 Q (F0 m 87 ls [])) : ∀ (H : Heap) (locs : List Loc), Wd D A s.heap (GM cy ad S) H locs → ∀ ls : Array Slot, lv_has ls 5 [(0, .ref (ad 0 0)), (1, .int x1), (3, .int x3), (4, .int x4)] → W p l e rm_X8_isRight s m args below meth c H locs 0 0 Q (F0 m 73 ls [.int y0]) := by
  intro H locs hw ls hl 
  obtain ⟨hx, hb, hml, hown, hts, hr, hlo, hK, hA, hX⟩ := id K
  unfold m_X8_isRight_J73 at hm
  refine lv_istore_n (lv' := [(2, .int y0), (0, .ref (ad 0 0)), (1, .int x1), (3, .int x3), (4, .int x4)]) hx hb dX8_isRight_73 rfl hl (by decide) rfl (fun ls hl => ?_)
  refine lv_iload_n hx hb dX8_isRight_74 rfl (lv_at hl 2 rfl) ?_
  refine lv_iconst (v := 1) hx hb dX8_isRight_75 (by decide) ?_
  refine lv_iload hx hb dX8_isRight_76 (lv_at hl 4 rfl) ?_
  refine lv_isub hx hb dX8_isRight_78 ?_
  refine lv_iadd hx hb dX8_isRight_79 ?_
  obtain ⟨x16, hx16, hm⟩ := nm_ex hm
  refine W.eq (g2 := F0 m 80 ls (.int x16 :: [])) (by rw [hx16]) ?_
  refine lv_istore_n (lv' := [(1, .int x16), (2, .int y0), (0, .ref (ad 0 0)), (3, .int x3), (4, .int x4)]) hx hb dX8_isRight_80 rfl hl (by decide) rfl (fun ls hl => ?_)
  obtain ⟨x17, hx17, hm⟩ := nm_ex hm
  refine lv_iinc (v := x17) (lv' := [(3, .int x17), (1, .int x16), (2, .int y0), (0, .ref (ad 0 0)), (4, .int x4)]) hx hb dX8_isRight_81 hl (k := 3) rfl (by rw [hx17]; rfl) (by decide) rfl (fun ls hl => ?_)
  refine lv_goto (tgt := 6) hx hb dX8_isRight_84 (by decide) ?_
  obtain rfl := Option.some.inj hm
  exact hg H locs hw ls (lv_sub hl [3, 1, 2, 0] rfl)
set_option maxRecDepth 100000 in
set_option maxHeartbeats 4000000 in
theorem t_X8_isRight_J72 (K : Cx p s m args meth c D A (tysC cy) RX8 cX8_isRight 5 (some .boolean) wsX8_isRight (fun _ _ => True)) (n : Nat) (S : MSt) (x1 : Int32) (x3 : Int32) (x4 : Int32) {out : (Int32 × Int32 × Int32) ⊕ (Int32 × Int32)} {z : (Int32 × Int32)} (hm : m_X8_isRight_J72 n S x1 x3 x4 = some out) (hg : Gd (fun (x : (Int32 × Int32 × Int32)) => ∀ (H : Heap) (locs : List Loc), Wd D A s.heap (GM cy ad S) H locs → ∀ ls : Array Slot, lv_has ls 5 [(0, .ref (ad 0 0)), (1, .int x.1), (2, .int x.2.1), (3, .int x.2.2)] → W p l e rm_X8_isRight s m args below meth c H locs 0 0 Q (F0 m 6 ls [])) z out) (hE0 : ∀ w : (Int32 × Int32), z = w → ∀ (H : Heap) (locs : List Loc), Wd D A s.heap (GM cy ad S) H locs → ∀ ls : Array Slot, lv_has ls 5 [(1, .int w.1), (2, .int w.2)] → W p l e rm_X8_isRight s m args below meth c H locs 0 0 Q (F0 m 87 ls [])) : ∀ (H : Heap) (locs : List Loc), Wd D A s.heap (GM cy ad S) H locs → ∀ ls : Array Slot, lv_has ls 5 [(0, .ref (ad 0 0)), (1, .int x1), (3, .int x3), (4, .int x4)] → W p l e rm_X8_isRight s m args below meth c H locs 0 0 Q (F0 m 72 ls []) := by
  intro H locs hw ls hl 
  obtain ⟨hx, hb, hml, hown, hts, hr, hlo, hK, hA, hX⟩ := id K
  unfold m_X8_isRight_J72 at hm
  refine lv_iconst (v := 0) hx hb dX8_isRight_72 (by decide) ?_
  exact t_X8_isRight_J73 K n S x1 x3 x4 0 hm hg hE0 H locs hw ls (lv_sub hl [0, 1, 2, 3] rfl)
set_option maxRecDepth 100000 in
set_option maxHeartbeats 4000000 in
theorem t_X8_isRight_J56 (K : Cx p s m args meth c D A (tysC cy) RX8 cX8_isRight 5 (some .boolean) wsX8_isRight (fun _ _ => True)) (n : Nat) (S : MSt) (x1 : Int32) (x2 : Int32) (x3 : Int32) (y0 : Int32) {out : (Int32 × Int32 × Int32) ⊕ (Int32 × Int32)} {z : (Int32 × Int32)} (hm : m_X8_isRight_J56 n S x1 x2 x3 y0 = some out) (hg : Gd (fun (x : (Int32 × Int32 × Int32)) => ∀ (H : Heap) (locs : List Loc), Wd D A s.heap (GM cy ad S) H locs → ∀ ls : Array Slot, lv_has ls 5 [(0, .ref (ad 0 0)), (1, .int x.1), (2, .int x.2.1), (3, .int x.2.2)] → W p l e rm_X8_isRight s m args below meth c H locs 0 0 Q (F0 m 6 ls [])) z out) (hE0 : ∀ w : (Int32 × Int32), z = w → ∀ (H : Heap) (locs : List Loc), Wd D A s.heap (GM cy ad S) H locs → ∀ ls : Array Slot, lv_has ls 5 [(1, .int w.1), (2, .int w.2)] → W p l e rm_X8_isRight s m args below meth c H locs 0 0 Q (F0 m 87 ls [])) : ∀ (H : Heap) (locs : List Loc), Wd D A s.heap (GM cy ad S) H locs → ∀ ls : Array Slot, lv_has ls 5 [(0, .ref (ad 0 0)), (1, .int x1), (2, .int x2), (3, .int x3)] → W p l e rm_X8_isRight s m args below meth c H locs 0 0 Q (F0 m 56 ls [.int y0]) := by
  intro H locs hw ls hl 
  obtain ⟨hx, hb, hml, hown, hts, hr, hlo, hK, hA, hX⟩ := id K
  unfold m_X8_isRight_J56 at hm
  refine lv_istore (lv' := [(4, .int y0), (0, .ref (ad 0 0)), (1, .int x1), (2, .int x2), (3, .int x3)]) hx hb dX8_isRight_56 hl (by decide) rfl (fun ls hl => ?_)
  refine lv_iload_n hx hb dX8_isRight_58 rfl (lv_at hl 3 rfl) ?_
  refine lv_if_eq (tgt := 72) hx hb dX8_isRight_59 (by decide) (fun c18 => ?_) (fun c18 => ?_)
  · replace hm := (if_pos c18).symm.trans hm
    exact t_X8_isRight_J72 K n S x1 x3 y0 hm hg hE0 H locs hw ls (lv_sub hl [1, 2, 4, 0] rfl)
  · replace hm := (if_neg c18).symm.trans hm
    refine lv_iload_n hx hb dX8_isRight_62 rfl (lv_at hl 2 rfl) ?_
    refine lv_iload hx hb dX8_isRight_63 (lv_at hl 0 rfl) ?_
    refine lv_icmp_lt (tgt := 72) hx hb dX8_isRight_65 (by decide) (fun c19 => ?_) (fun c19 => ?_)
    · replace hm := (if_pos c19).symm.trans hm
      exact t_X8_isRight_J72 K n S x1 x3 y0 hm hg hE0 H locs hw ls (lv_sub hl [1, 2, 4, 0] rfl)
    · replace hm := (if_neg c19).symm.trans hm
      refine lv_iconst (v := 1) hx hb dX8_isRight_68 (by decide) ?_
      refine lv_goto (tgt := 73) hx hb dX8_isRight_69 (by decide) ?_
      exact t_X8_isRight_J73 K n S x1 x3 y0 1 hm hg hE0 H locs hw ls (lv_sub hl [1, 2, 4, 0] rfl)
set_option maxRecDepth 100000 in
set_option maxHeartbeats 4000000 in
theorem t_X8_isRight_J36 (K : Cx p s m args meth c D A (tysC cy) RX8 cX8_isRight 5 (some .boolean) wsX8_isRight (fun _ _ => True)) (n : Nat) (S : MSt) (x1 : Int32) (x2 : Int32) (x3 : Int32) {out : (Int32 × Int32 × Int32) ⊕ (Int32 × Int32)} {z : (Int32 × Int32)} (hm : m_X8_isRight_J36 n S x1 x2 x3 = some out) (hg : Gd (fun (x : (Int32 × Int32 × Int32)) => ∀ (H : Heap) (locs : List Loc), Wd D A s.heap (GM cy ad S) H locs → ∀ ls : Array Slot, lv_has ls 5 [(0, .ref (ad 0 0)), (1, .int x.1), (2, .int x.2.1), (3, .int x.2.2)] → W p l e rm_X8_isRight s m args below meth c H locs 0 0 Q (F0 m 6 ls [])) z out) (hE0 : ∀ w : (Int32 × Int32), z = w → ∀ (H : Heap) (locs : List Loc), Wd D A s.heap (GM cy ad S) H locs → ∀ ls : Array Slot, lv_has ls 5 [(1, .int w.1), (2, .int w.2)] → W p l e rm_X8_isRight s m args below meth c H locs 0 0 Q (F0 m 87 ls [])) : ∀ (H : Heap) (locs : List Loc), Wd D A s.heap (GM cy ad S) H locs → ∀ ls : Array Slot, lv_has ls 5 [(0, .ref (ad 0 0)), (1, .int x1), (2, .int x2), (3, .int x3)] → W p l e rm_X8_isRight s m args below meth c H locs 0 0 Q (F0 m 36 ls []) := by
  intro H locs hw ls hl 
  obtain ⟨hx, hb, hml, hown, hts, hr, hlo, hK, hA, hX⟩ := id K
  unfold m_X8_isRight_J36 at hm
  refine lv_iconst (v := 0) hx hb dX8_isRight_36 (by decide) ?_
  refine lv_goto (tgt := 56) hx hb dX8_isRight_37 (by decide) ?_
  exact t_X8_isRight_J56 K n S x1 x2 x3 0 hm hg hE0 H locs hw ls (lv_sub hl [0, 1, 2, 3] rfl)
set_option maxRecDepth 100000 in
set_option maxHeartbeats 4000000 in
theorem t_X8_isRight_L6 (K : Cx p s m args meth c D A (tysC cy) RX8 cX8_isRight 5 (some .boolean) wsX8_isRight (fun _ _ => True)) (n : Nat) (S : MSt)  (z : (Int32 × Int32)) (hE0 : ∀ w : (Int32 × Int32), z = w → ∀ (H : Heap) (locs : List Loc), Wd D A s.heap (GM cy ad S) H locs → ∀ ls : Array Slot, lv_has ls 5 [(1, .int w.1), (2, .int w.2)] → W p l e rm_X8_isRight s m args below meth c H locs 0 0 Q (F0 m 87 ls [])) : ∀ (x : (Int32 × Int32 × Int32)), lpO (b_X8_isRight_6 n S) n x = some z → (fun (x : (Int32 × Int32 × Int32)) => ∀ (H : Heap) (locs : List Loc), Wd D A s.heap (GM cy ad S) H locs → ∀ ls : Array Slot, lv_has ls 5 [(0, .ref (ad 0 0)), (1, .int x.1), (2, .int x.2.1), (3, .int x.2.2)] → W p l e rm_X8_isRight s m args below meth c H locs 0 0 Q (F0 m 6 ls [])) x := by
  intro x hx0
  refine lpO_ind2 (P := fun (x : (Int32 × Int32 × Int32)) => ∀ (H : Heap) (locs : List Loc), Wd D A s.heap (GM cy ad S) H locs → ∀ ls : Array Slot, lv_has ls 5 [(0, .ref (ad 0 0)), (1, .int x.1), (2, .int x.2.1), (3, .int x.2.2)] → W p l e rm_X8_isRight s m args below meth c H locs 0 0 Q (F0 m 6 ls [])) (z := z) ?_ n x hx0
  clear hx0 x
  intro x out hm hg H locs hw ls hl 
  obtain ⟨hx, hb, hml, hown, hts, hr, hlo, hK, hA, hX⟩ := id K
  unfold b_X8_isRight_6 at hm
  refine lv_iload_n hx hb dX8_isRight_6 rfl (lv_at hl 3 rfl) ?_
  refine lv_aload_n hx hb dX8_isRight_7 rfl (lv_at hl 0 rfl) ?_
  refine g_get (ref := "MigrantHeapModel") (C := RX8) (T := TX8) (N := 44) (ci := 8) K in_X8_isRight_X8 hw 0 rfl (by decide : 0 < 1) rfl rfl 20 (by decide) (List.mem_of_getElem? (i := 1) rfl) rfl rfl dX8_isRight_8 ?_
  refine lv_icmp_ge (tgt := 87) hx hb dX8_isRight_11 (by decide) (fun c20 => ?_) (fun c20 => ?_)
  · replace hm := (if_pos c20).symm.trans hm
    obtain rfl := Option.some.inj hm
    exact hE0 _ hg.symm H locs hw ls (lv_sub hl [1, 2] rfl)
  · replace hm := (if_neg c20).symm.trans hm
    refine lv_aload_n hx hb dX8_isRight_14 rfl (lv_at hl 0 rfl) ?_
    refine g_get (ref := "MigrantHeapModel") (C := RX8) (T := TX8) (N := 44) (ci := 8) K in_X8_isRight_X8 hw 0 rfl (by decide : 0 < 1) rfl rfl 21 (by decide) (List.mem_of_getElem? (i := 2) rfl) rfl rfl dX8_isRight_15 ?_
    refine lv_iload_n hx hb dX8_isRight_18 rfl (lv_at hl 3 rfl) ?_
    obtain ⟨h21, hm⟩ := chkS hm
    refine g_iald K hw 19 0 rfl (by decide) rfl rfl h21 dX8_isRight_19 ?_
    refine lv_bipush (v := 10) hx hb dX8_isRight_20 (by decide) ?_
    refine lv_icmp_lt (tgt := 36) hx hb dX8_isRight_22 (by decide) (fun c22 => ?_) (fun c22 => ?_)
    · replace hm := (if_pos c22).symm.trans hm
      exact t_X8_isRight_J36 K n S x.1 x.2.1 x.2.2 hm hg hE0 H locs hw ls (lv_sub hl [0, 1, 2, 3] rfl)
    · replace hm := (if_neg c22).symm.trans hm
      refine lv_aload_n hx hb dX8_isRight_25 rfl (lv_at hl 0 rfl) ?_
      refine g_get (ref := "MigrantHeapModel") (C := RX8) (T := TX8) (N := 44) (ci := 8) K in_X8_isRight_X8 hw 0 rfl (by decide : 0 < 1) rfl rfl 21 (by decide) (List.mem_of_getElem? (i := 2) rfl) rfl rfl dX8_isRight_26 ?_
      refine lv_iload_n hx hb dX8_isRight_29 rfl (lv_at hl 3 rfl) ?_
      obtain ⟨h23, hm⟩ := chkS hm
      refine g_iald K hw 19 0 rfl (by decide) rfl rfl h23 dX8_isRight_30 ?_
      refine lv_bipush (v := 100) hx hb dX8_isRight_31 (by decide) ?_
      refine lv_icmp_lt (tgt := 40) hx hb dX8_isRight_33 (by decide) (fun c24 => ?_) (fun c24 => ?_)
      · replace hm := (if_pos c24).symm.trans hm
        refine lv_aload_n hx hb dX8_isRight_40 rfl (lv_at hl 0 rfl) ?_
        refine g_get (ref := "MigrantHeapModel") (C := RX8) (T := TX8) (N := 44) (ci := 8) K in_X8_isRight_X8 hw 0 rfl (by decide : 0 < 1) rfl rfl 21 (by decide) (List.mem_of_getElem? (i := 2) rfl) rfl rfl dX8_isRight_41 ?_
        refine lv_iload_n hx hb dX8_isRight_44 rfl (lv_at hl 3 rfl) ?_
        obtain ⟨h25, hm⟩ := chkS hm
        refine g_iald K hw 19 0 rfl (by decide) rfl rfl h25 dX8_isRight_45 ?_
        refine lv_bipush (v := 16) hx hb dX8_isRight_46 (by decide) ?_
        refine lv_icmp_ne (tgt := 55) hx hb dX8_isRight_48 (by decide) (fun c26 => ?_) (fun c26 => ?_)
        · replace hm := (if_pos c26).symm.trans hm
          refine lv_iconst (v := 2) hx hb dX8_isRight_55 (by decide) ?_
          exact t_X8_isRight_J56 K n S x.1 x.2.1 x.2.2 2 hm hg hE0 H locs hw ls (lv_sub hl [0, 1, 2, 3] rfl)
        · replace hm := (if_neg (fun h => h c26)).symm.trans hm
          refine lv_iconst (v := 1) hx hb dX8_isRight_51 (by decide) ?_
          refine lv_goto (tgt := 56) hx hb dX8_isRight_52 (by decide) ?_
          exact t_X8_isRight_J56 K n S x.1 x.2.1 x.2.2 1 hm hg hE0 H locs hw ls (lv_sub hl [0, 1, 2, 3] rfl)
      · replace hm := (if_neg c24).symm.trans hm
        exact t_X8_isRight_J36 K n S x.1 x.2.1 x.2.2 hm hg hE0 H locs hw ls (lv_sub hl [0, 1, 2, 3] rfl)
set_option maxRecDepth 100000 in
set_option maxHeartbeats 4000000 in
theorem t_X8_isRight_0 (K : Cx p s m args meth c D A (tysC cy) RX8 cX8_isRight 5 (some .boolean) wsX8_isRight (fun _ _ => True)) (n : Nat) (S : MSt)   {out : Int32} (hm : m_X8_isRight n S  = some out) : ∀ (H : Heap) (locs : List Loc), Wd D A s.heap (GM cy ad S) H locs → ∀ ls : Array Slot, lv_has ls 5 [(0, .ref (ad 0 0))] → W p l e rm_X8_isRight s m args below meth c H locs 0 0 (MQ below (va_Qi (fun r (u : MSt) => out = r ∧ u = S) (fun u => Pst D (tysC cy) A (GM cy ad u)) A) args s 0 0 A) (F0 m 0 ls []) := by
  intro H locs hw ls hl
  obtain ⟨hx, hb, hml, hown, hts, hr, hlo, hK, hA, hX⟩ := id K
  unfold m_X8_isRight at hm
  refine lv_iconst (v := 0) hx hb dX8_isRight_0 (by decide) ?_
  refine lv_istore_n (lv' := [(1, .int 0), (0, .ref (ad 0 0))]) hx hb dX8_isRight_1 rfl hl (by decide) rfl (fun ls hl => ?_)
  refine lv_iconst (v := 1) hx hb dX8_isRight_2 (by decide) ?_
  refine lv_istore_n (lv' := [(2, .int 1), (1, .int 0), (0, .ref (ad 0 0))]) hx hb dX8_isRight_3 rfl hl (by decide) rfl (fun ls hl => ?_)
  refine lv_iconst (v := 0) hx hb dX8_isRight_4 (by decide) ?_
  refine lv_istore_n (lv' := [(3, .int 0), (2, .int 1), (1, .int 0), (0, .ref (ad 0 0))]) hx hb dX8_isRight_5 rfl hl (by decide) rfl (fun ls hl => ?_)
  obtain ⟨z27, hz28, hm⟩ := bindS hm
  refine t_X8_isRight_L6 K n S z27 (fun w29 hww29 => ?_) ((0, 1, 0)) hz28 H locs hw ls (lv_sub hl [3, 2, 1, 0] rfl)
  · intro H locs hw ls hl 
    try rw [hww29] at hm
    refine lv_iload_n hx hb dX8_isRight_87 rfl (lv_at hl 1 rfl) ?_
    refine lv_if_eq (tgt := 100) hx hb dX8_isRight_88 (by decide) (fun c30 => ?_) (fun c30 => ?_)
    · replace hm := (if_pos c30).symm.trans hm
      refine lv_iconst (v := 0) hx hb dX8_isRight_100 (by decide) ?_
      exact g_zret (GG := GM cy ad) K hw rfl ⟨(Option.some.inj hm).symm, rfl⟩ dX8_isRight_101
    · replace hm := (if_neg c30).symm.trans hm
      refine lv_iload_n hx hb dX8_isRight_91 rfl (lv_at hl 0 rfl) ?_
      refine lv_iconst (v := 1) hx hb dX8_isRight_92 (by decide) ?_
      refine lv_icmp_ne (tgt := 100) hx hb dX8_isRight_93 (by decide) (fun c31 => ?_) (fun c31 => ?_)
      · replace hm := (if_pos c31).symm.trans hm
        refine lv_iconst (v := 0) hx hb dX8_isRight_100 (by decide) ?_
        exact g_zret (GG := GM cy ad) K hw rfl ⟨(Option.some.inj hm).symm, rfl⟩ dX8_isRight_101
      · replace hm := (if_neg (fun h => h c31)).symm.trans hm
        refine lv_iconst (v := 1) hx hb dX8_isRight_96 (by decide) ?_
        refine lv_goto (tgt := 101) hx hb dX8_isRight_97 (by decide) ?_
        exact g_zret (GG := GM cy ad) K hw rfl ⟨(Option.some.inj hm).symm, rfl⟩ dX8_isRight_101
set_option maxRecDepth 100000 in
set_option maxHeartbeats 4000000 in
theorem c_X8_isRight (l : Launch) (D : va_G) (cy : Nat → ClassId) (ad : Nat → Nat → Nat) (sz n : Nat) (S : MSt)   {out : Int32} (hm : m_X8_isRight n S  = some out) : Met l yX8_isRight wsX8_isRight rm_X8_isRight (va_Pc [.ref (ad 0 0)] (Pre D (tysC cy) (GM cy ad S) (fun _ _ => True) sz)) (va_Qi (fun r (u : MSt) => out = r ∧ u = S) (fun u => Pst D (tysC cy) (AA (adrs (GM cy ad S)) sz) (GM cy ad u)) (AA (adrs (GM cy ad S)) sz)) 0 0 (AA (adrs (GM cy ad S)) sz) := by
  refine g_met (by decide) rfl (Nat.le_of_ble_eq_true rfl) ?_
  intro p e s m args below meth c K hw ls hl
  exact t_X8_isRight_0 (cy := cy) K n S   hm _ _ hw ls hl
end W_X8_isRight
section W_X8_isStep
variable {p : Program} {l : Launch} {e : Env} {s : State} {m : MethodId} {args : Array Value} {below : List Frame} {meth : Method} {c : Code} {D : va_G} {A : Nat → Prop} {cy : Nat → ClassId} {ad : Nat → Nat → Nat} {Q : State → Prop}
abbrev rm_X8_isStep : Room := { frames := 1, cells := 0, slots := 0, locals := 24 }
set_option maxRecDepth 100000 in
set_option maxHeartbeats 4000000 in
theorem t_X8_isStep_J24 (K : Cx p s m args meth c D A (tysC cy) RX8 cX8_isStep 7 (some .boolean) wsX8_isStep (fun _ _ => True)) (n : Nat) (S : MSt) (x1 : Int32) (x2 : Int32) (x3 : Int32) (x4 : Int32) (x5 : Int32) (y0 : Int32) {out : Int32} (hm : m_X8_isStep_J24 n S x1 x2 x3 x4 x5 y0 = some out) : ∀ (H : Heap) (locs : List Loc), Wd D A s.heap (GM cy ad S) H locs → ∀ ls : Array Slot, lv_has ls 7 [(0, .ref (ad 0 0)), (1, .int x1), (2, .int x2), (3, .int x3), (4, .int x4), (5, .int x5)] → W p l e rm_X8_isStep s m args below meth c H locs 0 0 (MQ below (va_Qi (fun r (u : MSt) => out = r ∧ u = S) (fun u => Pst D (tysC cy) A (GM cy ad u)) A) args s 0 0 A) (F0 m 24 ls [.int y0]) := by
  intro H locs hw ls hl 
  obtain ⟨hx, hb, hml, hown, hts, hr, hlo, hK, hA, hX⟩ := id K
  unfold m_X8_isStep_J24 at hm
  refine lv_istore (lv' := [(6, .int y0), (0, .ref (ad 0 0)), (1, .int x1), (2, .int x2), (3, .int x3), (4, .int x4), (5, .int x5)]) hx hb dX8_isStep_24 hl (by decide) rfl (fun ls hl => ?_)
  refine lv_iload_n hx hb dX8_isStep_26 rfl (lv_at hl 2 rfl) ?_
  refine lv_if_lt (tgt := 43) hx hb dX8_isStep_27 (by decide) (fun c31 => ?_) (fun c31 => ?_)
  · replace hm := (if_pos c31).symm.trans hm
    refine lv_iconst (v := 0) hx hb dX8_isStep_43 (by decide) ?_
    exact g_zret (GG := GM cy ad) K hw rfl ⟨(Option.some.inj hm).symm, rfl⟩ dX8_isStep_44
  · replace hm := (if_neg c31).symm.trans hm
    refine lv_iload_n hx hb dX8_isStep_30 rfl (lv_at hl 2 rfl) ?_
    refine lv_bipush (v := 6) hx hb dX8_isStep_31 (by decide) ?_
    refine lv_icmp_gt (tgt := 43) hx hb dX8_isStep_33 (by decide) (fun c32 => ?_) (fun c32 => ?_)
    · replace hm := (if_pos c32).symm.trans hm
      refine lv_iconst (v := 0) hx hb dX8_isStep_43 (by decide) ?_
      exact g_zret (GG := GM cy ad) K hw rfl ⟨(Option.some.inj hm).symm, rfl⟩ dX8_isStep_44
    · replace hm := (if_neg c32).symm.trans hm
      refine lv_iload_n hx hb dX8_isStep_36 rfl (lv_at hl 3 rfl) ?_
      obtain ⟨z34, hc33, hm⟩ := bindS hm
      refine g_calli (GG := GM cy ad) K hw (va_runS (As := [.int x2]) (rest := []) (g_fix K) (c_X8_isName l D cy ad H.size n S x2  hc33) (va_cwS 1 (g_hts K) gX8_isStep_X8_isName rfl rfl rfl (by decide +kernel) ⟨Nat.le_of_ble_eq_true rfl, Nat.le_of_ble_eq_true rfl⟩) ⟨g_blind rides_none, g_pre (X2 := fun _ _ => True) K hw (fun _ _ _ => trivial)⟩ rfl rfl hl.1 rfl (lv_room (Nat.le_of_ble_eq_true rfl)) dX8_isStep_37 ⟨Nat.le_of_ble_eq_true rfl, Nat.le_of_ble_eq_true rfl⟩) (fun r u H locs hp hw => ?_)
      obtain ⟨rfl, hu⟩ := hp
      rw [hu] at hw
      refine lv_if_ne (tgt := 45) hx hb dX8_isStep_40 (by decide) (fun c35 => ?_) (fun c35 => ?_)
      · replace hm := (if_pos c35).symm.trans hm
        refine lv_iload_n hx hb dX8_isStep_45 rfl (lv_at hl 2 rfl) ?_
        by_cases c36 : x1 = 1
        · replace hm := (if_pos c36).symm.trans hm
          refine lv_tableIn (off := 34) (tgt := 80) hx hb dX8_isStep_46 (by rw [c36]; decide) (by rw [c36]; decide) (by rw [c36]; rfl) (by decide) ?_
          refine lv_iload_n hx hb dX8_isStep_80 rfl (lv_at hl 4 rfl) ?_
          obtain ⟨z38, hc37, hm⟩ := bindS hm
          refine g_calli (GG := GM cy ad) K hw (va_runS (As := [.int x3]) (rest := []) (g_fix K) (c_X8_isName l D cy ad H.size n S x3  hc37) (va_cwS 1 (g_hts K) gX8_isStep_X8_isName rfl rfl rfl (by decide +kernel) ⟨Nat.le_of_ble_eq_true rfl, Nat.le_of_ble_eq_true rfl⟩) ⟨g_blind rides_none, g_pre (X2 := fun _ _ => True) K hw (fun _ _ _ => trivial)⟩ rfl rfl hl.1 rfl (lv_room (Nat.le_of_ble_eq_true rfl)) dX8_isStep_81 ⟨Nat.le_of_ble_eq_true rfl, Nat.le_of_ble_eq_true rfl⟩) (fun r u H locs hp hw => ?_)
          obtain ⟨rfl, hu⟩ := hp
          rw [hu] at hw
          obtain ⟨h39, hm⟩ := chkS hm
          exact g_zret (GG := GM cy ad) K hw h39 ⟨(Option.some.inj hm).symm, rfl⟩ dX8_isStep_84
        · replace hm := (if_neg c36).symm.trans hm
          by_cases c40 : x1 = 2
          · replace hm := (if_pos c40).symm.trans hm
            refine lv_tableIn (off := 39) (tgt := 85) hx hb dX8_isStep_46 (by rw [c40]; decide) (by rw [c40]; decide) (by rw [c40]; rfl) (by decide) ?_
            refine lv_iload hx hb dX8_isStep_85 (lv_at hl 0 rfl) ?_
            refine lv_if_eq (tgt := 101) hx hb dX8_isStep_87 (by decide) (fun c41 => ?_) (fun c41 => ?_)
            · replace hm := (if_pos c41).symm.trans hm
              refine lv_iconst (v := 0) hx hb dX8_isStep_101 (by decide) ?_
              exact g_zret (GG := GM cy ad) K hw rfl ⟨(Option.some.inj hm).symm, rfl⟩ dX8_isStep_102
            · replace hm := (if_neg c41).symm.trans hm
              refine lv_aload_n hx hb dX8_isStep_90 rfl (lv_at hl 1 rfl) ?_
              obtain ⟨z43, hc42, hm⟩ := bindS hm
              refine g_calli (GG := GM cy ad) K hw (va_runV (As := []) (rest := []) (g_fix K) (c_X8_isRight l D cy ad H.size n S   hc42) (cwV 0 (g_hts K) gX8_isStep_X8_isRight rfl rfl rfl (by decide +kernel) ⟨Nat.le_of_ble_eq_true rfl, Nat.le_of_ble_eq_true rfl⟩) ⟨g_blind rides_none, g_recv K hw 0 rfl (by decide : 0 < 1) rfl rfl, g_pre (X2 := fun _ _ => True) K hw (fun _ _ _ => trivial)⟩ rfl rfl hl.1 rfl (lv_room (Nat.le_of_ble_eq_true rfl)) dX8_isStep_91 ⟨Nat.le_of_ble_eq_true rfl, Nat.le_of_ble_eq_true rfl⟩) (fun r u H locs hp hw => ?_)
              obtain ⟨rfl, hu⟩ := hp
              rw [hu] at hw
              refine lv_if_eq (tgt := 101) hx hb dX8_isStep_94 (by decide) (fun c44 => ?_) (fun c44 => ?_)
              · replace hm := (if_pos c44).symm.trans hm
                refine lv_iconst (v := 0) hx hb dX8_isStep_101 (by decide) ?_
                exact g_zret (GG := GM cy ad) K hw rfl ⟨(Option.some.inj hm).symm, rfl⟩ dX8_isStep_102
              · replace hm := (if_neg c44).symm.trans hm
                refine lv_iconst (v := 1) hx hb dX8_isStep_97 (by decide) ?_
                refine lv_goto (tgt := 102) hx hb dX8_isStep_98 (by decide) ?_
                exact g_zret (GG := GM cy ad) K hw rfl ⟨(Option.some.inj hm).symm, rfl⟩ dX8_isStep_102
          · replace hm := (if_neg c40).symm.trans hm
            by_cases c45 : x1 = 3
            · replace hm := (if_pos c45).symm.trans hm
              refine lv_tableIn (off := 57) (tgt := 103) hx hb dX8_isStep_46 (by rw [c45]; decide) (by rw [c45]; decide) (by rw [c45]; rfl) (by decide) ?_
              refine lv_iload hx hb dX8_isStep_103 (lv_at hl 0 rfl) ?_
              refine lv_if_eq (tgt := 123) hx hb dX8_isStep_105 (by decide) (fun c46 => ?_) (fun c46 => ?_)
              · replace hm := (if_pos c46).symm.trans hm
                refine lv_iconst (v := 0) hx hb dX8_isStep_123 (by decide) ?_
                exact g_zret (GG := GM cy ad) K hw rfl ⟨(Option.some.inj hm).symm, rfl⟩ dX8_isStep_124
              · replace hm := (if_neg c46).symm.trans hm
                refine lv_iload hx hb dX8_isStep_108 (lv_at hl 6 rfl) ?_
                refine lv_if_eq (tgt := 119) hx hb dX8_isStep_110 (by decide) (fun c47 => ?_) (fun c47 => ?_)
                · replace hm := (if_pos c47).symm.trans hm
                  refine lv_iconst (v := 1) hx hb dX8_isStep_119 (by decide) ?_
                  refine lv_goto (tgt := 124) hx hb dX8_isStep_120 (by decide) ?_
                  exact g_zret (GG := GM cy ad) K hw rfl ⟨(Option.some.inj hm).symm, rfl⟩ dX8_isStep_124
                · replace hm := (if_neg c47).symm.trans hm
                  refine lv_iload hx hb dX8_isStep_113 (lv_at hl 6 rfl) ?_
                  refine lv_iconst (v := 1) hx hb dX8_isStep_115 (by decide) ?_
                  refine lv_icmp_ne (tgt := 123) hx hb dX8_isStep_116 (by decide) (fun c48 => ?_) (fun c48 => ?_)
                  · replace hm := (if_pos c48).symm.trans hm
                    refine lv_iconst (v := 0) hx hb dX8_isStep_123 (by decide) ?_
                    exact g_zret (GG := GM cy ad) K hw rfl ⟨(Option.some.inj hm).symm, rfl⟩ dX8_isStep_124
                  · replace hm := (if_neg (fun h => h c48)).symm.trans hm
                    refine lv_iconst (v := 1) hx hb dX8_isStep_119 (by decide) ?_
                    refine lv_goto (tgt := 124) hx hb dX8_isStep_120 (by decide) ?_
                    exact g_zret (GG := GM cy ad) K hw rfl ⟨(Option.some.inj hm).symm, rfl⟩ dX8_isStep_124
            · replace hm := (if_neg c45).symm.trans hm
              by_cases c49 : x1 = 4
              · replace hm := (if_pos c49).symm.trans hm
                refine lv_tableIn (off := 79) (tgt := 125) hx hb dX8_isStep_46 (by rw [c49]; decide) (by rw [c49]; decide) (by rw [c49]; rfl) (by decide) ?_
                refine lv_aload_n hx hb dX8_isStep_125 rfl (lv_at hl 1 rfl) ?_
                refine lv_iload_n hx hb dX8_isStep_126 rfl (lv_at hl 4 rfl) ?_
                obtain ⟨z51, hc50, hm⟩ := bindS hm
                refine g_calli (GG := GM cy ad) K hw (va_runV (As := [.int x3]) (rest := []) (g_fix K) (c_X8_isClass l D cy ad H.size n S x3  hc50) (cwV 1 (g_hts K) gX8_isStep_X8_isClass rfl rfl rfl (by decide +kernel) ⟨Nat.le_of_ble_eq_true rfl, Nat.le_of_ble_eq_true rfl⟩) ⟨g_blind rides_none, g_recv K hw 0 rfl (by decide : 0 < 1) rfl rfl, g_pre (X2 := fun _ _ => True) K hw (fun _ _ _ => trivial)⟩ rfl rfl hl.1 rfl (lv_room (Nat.le_of_ble_eq_true rfl)) dX8_isStep_127 ⟨Nat.le_of_ble_eq_true rfl, Nat.le_of_ble_eq_true rfl⟩) (fun r u H locs hp hw => ?_)
                obtain ⟨rfl, hu⟩ := hp
                rw [hu] at hw
                obtain ⟨h52, hm⟩ := chkS hm
                exact g_zret (GG := GM cy ad) K hw h52 ⟨(Option.some.inj hm).symm, rfl⟩ dX8_isStep_130
              · replace hm := (if_neg c49).symm.trans hm
                by_cases c53 : x1 = 5
                · replace hm := (if_pos c53).symm.trans hm
                  refine lv_tableIn (off := 85) (tgt := 131) hx hb dX8_isStep_46 (by rw [c53]; decide) (by rw [c53]; decide) (by rw [c53]; rfl) (by decide) ?_
                  refine lv_aload_n hx hb dX8_isStep_131 rfl (lv_at hl 1 rfl) ?_
                  refine lv_iload_n hx hb dX8_isStep_132 rfl (lv_at hl 4 rfl) ?_
                  obtain ⟨z55, hc54, hm⟩ := bindS hm
                  refine g_calli (GG := GM cy ad) K hw (va_runV (As := [.int x3]) (rest := []) (g_fix K) (c_X8_isClass l D cy ad H.size n S x3  hc54) (cwV 1 (g_hts K) gX8_isStep_X8_isClass rfl rfl rfl (by decide +kernel) ⟨Nat.le_of_ble_eq_true rfl, Nat.le_of_ble_eq_true rfl⟩) ⟨g_blind rides_none, g_recv K hw 0 rfl (by decide : 0 < 1) rfl rfl, g_pre (X2 := fun _ _ => True) K hw (fun _ _ _ => trivial)⟩ rfl rfl hl.1 rfl (lv_room (Nat.le_of_ble_eq_true rfl)) dX8_isStep_133 ⟨Nat.le_of_ble_eq_true rfl, Nat.le_of_ble_eq_true rfl⟩) (fun r u H locs hp hw => ?_)
                  obtain ⟨rfl, hu⟩ := hp
                  rw [hu] at hw
                  refine lv_if_eq (tgt := 157) hx hb dX8_isStep_136 (by decide) (fun c56 => ?_) (fun c56 => ?_)
                  · replace hm := (if_pos c56).symm.trans hm
                    refine lv_iconst (v := 0) hx hb dX8_isStep_157 (by decide) ?_
                    exact g_zret (GG := GM cy ad) K hw rfl ⟨(Option.some.inj hm).symm, rfl⟩ dX8_isStep_158
                  · replace hm := (if_neg c56).symm.trans hm
                    refine lv_iload hx hb dX8_isStep_139 (lv_at hl 5 rfl) ?_
                    refine lv_iconst (v := 1) hx hb dX8_isStep_141 (by decide) ?_
                    refine lv_icmp_lt (tgt := 157) hx hb dX8_isStep_142 (by decide) (fun c57 => ?_) (fun c57 => ?_)
                    · replace hm := (if_pos c57).symm.trans hm
                      refine lv_iconst (v := 0) hx hb dX8_isStep_157 (by decide) ?_
                      exact g_zret (GG := GM cy ad) K hw rfl ⟨(Option.some.inj hm).symm, rfl⟩ dX8_isStep_158
                    · replace hm := (if_neg c57).symm.trans hm
                      refine lv_iload hx hb dX8_isStep_145 (lv_at hl 5 rfl) ?_
                      refine lv_sipush (v := 1023) hx hb dX8_isStep_147 (by decide) ?_
                      refine lv_icmp_gt (tgt := 157) hx hb dX8_isStep_150 (by decide) (fun c58 => ?_) (fun c58 => ?_)
                      · replace hm := (if_pos c58).symm.trans hm
                        refine lv_iconst (v := 0) hx hb dX8_isStep_157 (by decide) ?_
                        exact g_zret (GG := GM cy ad) K hw rfl ⟨(Option.some.inj hm).symm, rfl⟩ dX8_isStep_158
                      · replace hm := (if_neg c58).symm.trans hm
                        refine lv_iconst (v := 1) hx hb dX8_isStep_153 (by decide) ?_
                        refine lv_goto (tgt := 158) hx hb dX8_isStep_154 (by decide) ?_
                        exact g_zret (GG := GM cy ad) K hw rfl ⟨(Option.some.inj hm).symm, rfl⟩ dX8_isStep_158
                · replace hm := (if_neg c53).symm.trans hm
                  have hsw59 : Int32.toInt x1 < 1 ∨ 5 < Int32.toInt x1 := by
                    refine sw_out (fun k h1 h2 => ?_)
                    rcases (show k = 1 ∨ k = 2 ∨ k = 3 ∨ k = 4 ∨ k = 5 by omega) with rfl | rfl | rfl | rfl | rfl
                    · exact c36
                    · exact c40
                    · exact c45
                    · exact c49
                    · exact c53
                  refine lv_tableOut (tgt := 159) hx hb dX8_isStep_46 hsw59 (by decide) ?_
                  refine lv_iconst (v := 1) hx hb dX8_isStep_159 (by decide) ?_
                  exact g_zret (GG := GM cy ad) K hw rfl ⟨(Option.some.inj hm).symm, rfl⟩ dX8_isStep_160
      · replace hm := (if_neg (fun h => h c35)).symm.trans hm
        refine lv_iconst (v := 0) hx hb dX8_isStep_43 (by decide) ?_
        exact g_zret (GG := GM cy ad) K hw rfl ⟨(Option.some.inj hm).symm, rfl⟩ dX8_isStep_44
set_option maxRecDepth 100000 in
set_option maxHeartbeats 4000000 in
theorem t_X8_isStep_J23 (K : Cx p s m args meth c D A (tysC cy) RX8 cX8_isStep 7 (some .boolean) wsX8_isStep (fun _ _ => True)) (n : Nat) (S : MSt) (x1 : Int32) (x2 : Int32) (x3 : Int32) (x4 : Int32) (x5 : Int32) {out : Int32} (hm : m_X8_isStep_J23 n S x1 x2 x3 x4 x5 = some out) : ∀ (H : Heap) (locs : List Loc), Wd D A s.heap (GM cy ad S) H locs → ∀ ls : Array Slot, lv_has ls 7 [(0, .ref (ad 0 0)), (1, .int x1), (2, .int x2), (3, .int x3), (4, .int x4), (5, .int x5)] → W p l e rm_X8_isStep s m args below meth c H locs 0 0 (MQ below (va_Qi (fun r (u : MSt) => out = r ∧ u = S) (fun u => Pst D (tysC cy) A (GM cy ad u)) A) args s 0 0 A) (F0 m 23 ls []) := by
  intro H locs hw ls hl 
  obtain ⟨hx, hb, hml, hown, hts, hr, hlo, hK, hA, hX⟩ := id K
  unfold m_X8_isStep_J23 at hm
  refine lv_iconst (v := 0) hx hb dX8_isStep_23 (by decide) ?_
  exact t_X8_isStep_J24 K n S x1 x2 x3 x4 x5 0 hm H locs hw ls (lv_sub hl [0, 1, 2, 3, 4, 5] rfl)
set_option maxRecDepth 100000 in
set_option maxHeartbeats 4000000 in
theorem t_X8_isStep_0 (K : Cx p s m args meth c D A (tysC cy) RX8 cX8_isStep 7 (some .boolean) wsX8_isStep (fun _ _ => True)) (n : Nat) (S : MSt) (x1 : Int32) (x2 : Int32) (x3 : Int32) (x4 : Int32) (x5 : Int32)  {out : Int32} (hm : m_X8_isStep n S x1 x2 x3 x4 x5 = some out) : ∀ (H : Heap) (locs : List Loc), Wd D A s.heap (GM cy ad S) H locs → ∀ ls : Array Slot, lv_has ls 7 [(0, .ref (ad 0 0)), (1, .int x1), (2, .int x2), (3, .int x3), (4, .int x4), (5, .int x5)] → W p l e rm_X8_isStep s m args below meth c H locs 0 0 (MQ below (va_Qi (fun r (u : MSt) => out = r ∧ u = S) (fun u => Pst D (tysC cy) A (GM cy ad u)) A) args s 0 0 A) (F0 m 0 ls []) := by
  intro H locs hw ls hl
  obtain ⟨hx, hb, hml, hown, hts, hr, hlo, hK, hA, hX⟩ := id K
  unfold m_X8_isStep at hm
  refine lv_iload_n hx hb dX8_isStep_0 rfl (lv_at hl 3 rfl) ?_
  refine lv_iload hx hb dX8_isStep_1 (lv_at hl 4 rfl) ?_
  refine lv_icmp_gt (tgt := 23) hx hb dX8_isStep_3 (by decide) (fun c60 => ?_) (fun c60 => ?_)
  · replace hm := (if_pos c60).symm.trans hm
    exact t_X8_isStep_J23 K n S x1 x2 x3 x4 x5 hm H locs hw ls (lv_sub hl [0, 1, 2, 3, 4, 5] rfl)
  · replace hm := (if_neg c60).symm.trans hm
    refine lv_iload_n hx hb dX8_isStep_6 rfl (lv_at hl 3 rfl) ?_
    refine lv_ldc (v := (-1000000)) hx hb hown (hts _ (List.mem_of_getElem? (i := 1) rfl)) dX8_isStep_7 ?_
    refine lv_icmp_lt (tgt := 23) hx hb dX8_isStep_9 (by decide) (fun c61 => ?_) (fun c61 => ?_)
    · replace hm := (if_pos c61).symm.trans hm
      exact t_X8_isStep_J23 K n S x1 x2 x3 x4 x5 hm H locs hw ls (lv_sub hl [0, 1, 2, 3, 4, 5] rfl)
    · replace hm := (if_neg c61).symm.trans hm
      refine lv_iload hx hb dX8_isStep_12 (lv_at hl 4 rfl) ?_
      refine lv_ldc (v := 1000000) hx hb hown (hts _ (List.mem_of_getElem? (i := 2) rfl)) dX8_isStep_14 ?_
      refine lv_icmp_gt (tgt := 23) hx hb dX8_isStep_16 (by decide) (fun c62 => ?_) (fun c62 => ?_)
      · replace hm := (if_pos c62).symm.trans hm
        exact t_X8_isStep_J23 K n S x1 x2 x3 x4 x5 hm H locs hw ls (lv_sub hl [0, 1, 2, 3, 4, 5] rfl)
      · replace hm := (if_neg c62).symm.trans hm
        refine lv_iconst (v := 1) hx hb dX8_isStep_19 (by decide) ?_
        refine lv_goto (tgt := 24) hx hb dX8_isStep_20 (by decide) ?_
        exact t_X8_isStep_J24 K n S x1 x2 x3 x4 x5 1 hm H locs hw ls (lv_sub hl [0, 1, 2, 3, 4, 5] rfl)
set_option maxRecDepth 100000 in
set_option maxHeartbeats 4000000 in
theorem c_X8_isStep (l : Launch) (D : va_G) (cy : Nat → ClassId) (ad : Nat → Nat → Nat) (sz n : Nat) (S : MSt) (x1 : Int32) (x2 : Int32) (x3 : Int32) (x4 : Int32) (x5 : Int32)  {out : Int32} (hm : m_X8_isStep n S x1 x2 x3 x4 x5 = some out) : Met l yX8_isStep wsX8_isStep rm_X8_isStep (va_Pc [.ref (ad 0 0), .int x1, .int x2, .int x3, .int x4, .int x5] (Pre D (tysC cy) (GM cy ad S) (fun _ _ => True) sz)) (va_Qi (fun r (u : MSt) => out = r ∧ u = S) (fun u => Pst D (tysC cy) (AA (adrs (GM cy ad S)) sz) (GM cy ad u)) (AA (adrs (GM cy ad S)) sz)) 0 0 (AA (adrs (GM cy ad S)) sz) := by
  refine g_met (by decide) rfl (Nat.le_of_ble_eq_true rfl) ?_
  intro p e s m args below meth c K hw ls hl
  exact t_X8_isStep_0 (cy := cy) K n S x1 x2 x3 x4 x5  hm _ _ hw ls hl
end W_X8_isStep
