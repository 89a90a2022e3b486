section W_X8_act
variable {p : Program} {l : Launch} {e : Env} {s : State} {m : MethodId} {args : Array Value} {below : List Frame} {meth : Method} {c : Code} {D : va_G} {A : Nat → Prop} {cy : Nat → ClassId} {ad : Nat → Nat → Nat} {Q : State → Prop}
abbrev rm_X8_act : Room := { frames := 6, cells := 0, slots := 0, locals := 155 }
theorem in_X8_act_X8 : ∀ w ∈ u_ws RX8 TX8 44, w ∈ wsX8_act := by decide +kernel
set_option maxRecDepth 100000 in
set_option maxHeartbeats 4000000 in
theorem t_X8_act_J127 (K : Cx p s m args meth c D A (tysC cy) RX8 cX8_act 5 (some .boolean) wsX8_act (fun _ _ => True)) (n : Nat) (S : MSt) (y1 : Int32) (y2 : Int32) (y3 : Int32) (y4 : Int32) {out : Int32 × MSt} (hm : m_X8_act_J127 n S y1 y2 y3 y4 = some out) : ∀ (H : Heap) (locs : List Loc), Wd D A s.heap (GM cy ad S) H locs → ∀ ls : Array Slot, lv_has ls 5 [] → W p l e rm_X8_act s m args below meth c H locs 0 0 (MQ below (va_Qi (fun r (u : MSt) => out = (r, u)) (fun u => Pst D (tysC cy) A (GM cy ad u)) A) args s 0 0 A) (F0 m 127 ls [.int y4, .int y3, .int y2, .int y1, .ref (ad 0 0)]) := by
  intro H locs hw ls hl 
  obtain ⟨hx, hb, hml, hown, hts, hr, hlo, hK, hA, hX⟩ := id K
  unfold m_X8_act_J127 at hm
  obtain ⟨z68, hc67, hm⟩ := bindS hm
  refine g_calli (GG := GM cy ad) K hw (va_runV (As := [.int y1, .int y2, .int y3, .int y4]) (rest := []) (g_fix K) (c_X8_rangeField l D cy ad H.size n S y1 y2 y3 y4  hc67) (cwV 4 (g_hts K) gX8_act_X8_rangeField rfl rfl rfl (by decide +kernel) ⟨Nat.le_of_ble_eq_true rfl, Nat.le_of_ble_eq_true rfl⟩) ⟨g_blind rides_none, g_recv K hw 0 rfl (by decide : 0 < 1) rfl rfl, g_pre (X2 := fun _ _ => True) K hw (fun _ _ _ => trivial)⟩ rfl rfl hl.1 rfl (lv_room (Nat.le_of_ble_eq_true rfl)) dX8_act_127 ⟨Nat.le_of_ble_eq_true rfl, Nat.le_of_ble_eq_true rfl⟩) (fun r u H locs hp hw => ?_)
  obtain ⟨rfl, rfl⟩ : r = z68.1 ∧ u = z68.2 := by rw [hp]; exact ⟨rfl, rfl⟩
  obtain ⟨h69, hm⟩ := chkS hm
  exact g_zret (GG := GM cy ad) K hw h69 (Option.some.inj hm).symm dX8_act_130
set_option maxRecDepth 100000 in
set_option maxHeartbeats 4000000 in
theorem t_X8_act_0 (K : Cx p s m args meth c D A (tysC cy) RX8 cX8_act 5 (some .boolean) wsX8_act (fun _ _ => True)) (n : Nat) (S : MSt) (x1 : Int32)  {out : Int32 × MSt} (hm : m_X8_act n S x1 = some out) : ∀ (H : Heap) (locs : List Loc), Wd D A s.heap (GM cy ad S) H locs → ∀ ls : Array Slot, lv_has ls 5 [(0, .ref (ad 0 0)), (1, .int x1)] → W p l e rm_X8_act s m args below meth c H locs 0 0 (MQ below (va_Qi (fun r (u : MSt) => out = (r, u)) (fun u => Pst D (tysC cy) A (GM cy ad u)) A) args s 0 0 A) (F0 m 0 ls []) := by
  intro H locs hw ls hl
  obtain ⟨hx, hb, hml, hown, hts, hr, hlo, hK, hA, hX⟩ := id K
  unfold m_X8_act at hm
  refine lv_aload_n hx hb dX8_act_0 rfl (lv_at hl 0 rfl) ?_
  refine g_get (ref := "MigrantHeapModel") (C := RX8) (T := TX8) (N := 44) (ci := 8) K in_X8_act_X8 hw 0 rfl (by decide : 0 < 1) rfl rfl 23 (by decide) (List.mem_of_getElem? (i := 1) rfl) rfl rfl dX8_act_1 ?_
  refine lv_iconst (v := 5) hx hb dX8_act_4 (by decide) ?_
  refine lv_iload_n hx hb dX8_act_5 rfl (lv_at hl 1 rfl) ?_
  refine lv_imul hx hb dX8_act_6 ?_
  refine lv_iconst (v := 1) hx hb dX8_act_7 (by decide) ?_
  refine lv_iadd hx hb dX8_act_8 ?_
  obtain ⟨h70, hm⟩ := chkS hm
  refine g_iald K hw 20 0 rfl (by decide) rfl rfl h70 dX8_act_9 ?_
  obtain ⟨x71, hx71, hm⟩ := nm_ex hm
  refine W.eq (g2 := F0 m 10 ls (.int x71 :: [])) (by rw [hx71]) ?_
  refine lv_istore_n (lv' := [(2, .int x71), (0, .ref (ad 0 0)), (1, .int x1)]) hx hb dX8_act_10 rfl hl (by decide) rfl (fun ls hl => ?_)
  refine lv_aload_n hx hb dX8_act_11 rfl (lv_at hl 1 rfl) ?_
  refine g_get (ref := "MigrantHeapModel") (C := RX8) (T := TX8) (N := 44) (ci := 8) K in_X8_act_X8 hw 0 rfl (by decide : 0 < 1) rfl rfl 23 (by decide) (List.mem_of_getElem? (i := 1) rfl) rfl rfl dX8_act_12 ?_
  refine lv_iconst (v := 5) hx hb dX8_act_15 (by decide) ?_
  refine lv_iload_n hx hb dX8_act_16 rfl (lv_at hl 2 rfl) ?_
  refine lv_imul hx hb dX8_act_17 ?_
  refine lv_iconst (v := 2) hx hb dX8_act_18 (by decide) ?_
  refine lv_iadd hx hb dX8_act_19 ?_
  obtain ⟨h72, hm⟩ := chkS hm
  refine g_iald K hw 20 0 rfl (by decide) rfl rfl h72 dX8_act_20 ?_
  obtain ⟨x73, hx73, hm⟩ := nm_ex hm
  refine W.eq (g2 := F0 m 21 ls (.int x73 :: [])) (by rw [hx73]) ?_
  refine lv_istore_n (lv' := [(3, .int x73), (2, .int x71), (0, .ref (ad 0 0)), (1, .int x1)]) hx hb dX8_act_21 rfl hl (by decide) rfl (fun ls hl => ?_)
  refine lv_aload_n hx hb dX8_act_22 rfl (lv_at hl 2 rfl) ?_
  refine g_get (ref := "MigrantHeapModel") (C := RX8) (T := TX8) (N := 44) (ci := 8) K in_X8_act_X8 hw 0 rfl (by decide : 0 < 1) rfl rfl 23 (by decide) (List.mem_of_getElem? (i := 1) rfl) rfl rfl dX8_act_23 ?_
  refine lv_iconst (v := 5) hx hb dX8_act_26 (by decide) ?_
  refine lv_iload_n hx hb dX8_act_27 rfl (lv_at hl 3 rfl) ?_
  refine lv_imul hx hb dX8_act_28 ?_
  refine lv_iconst (v := 3) hx hb dX8_act_29 (by decide) ?_
  refine lv_iadd hx hb dX8_act_30 ?_
  obtain ⟨h74, hm⟩ := chkS hm
  refine g_iald K hw 20 0 rfl (by decide) rfl rfl h74 dX8_act_31 ?_
  obtain ⟨x75, hx75, hm⟩ := nm_ex hm
  refine W.eq (g2 := F0 m 32 ls (.int x75 :: [])) (by rw [hx75]) ?_
  refine lv_istore (lv' := [(4, .int x75), (3, .int x73), (2, .int x71), (0, .ref (ad 0 0)), (1, .int x1)]) hx hb dX8_act_32 hl (by decide) rfl (fun ls hl => ?_)
  refine lv_aload_n hx hb dX8_act_34 rfl (lv_at hl 3 rfl) ?_
  refine g_get (ref := "MigrantHeapModel") (C := RX8) (T := TX8) (N := 44) (ci := 8) K in_X8_act_X8 hw 0 rfl (by decide : 0 < 1) rfl rfl 23 (by decide) (List.mem_of_getElem? (i := 1) rfl) rfl rfl dX8_act_35 ?_
  refine lv_iconst (v := 5) hx hb dX8_act_38 (by decide) ?_
  refine lv_iload_n hx hb dX8_act_39 rfl (lv_at hl 4 rfl) ?_
  refine lv_imul hx hb dX8_act_40 ?_
  obtain ⟨h76, hm⟩ := chkS hm
  refine g_iald K hw 20 0 rfl (by decide) rfl rfl h76 dX8_act_41 ?_
  by_cases c77 : (S.1 23 (5 * x1).toNatClampNeg) = 0
  · replace hm := (if_pos c77).symm.trans hm
    refine lv_tableIn (off := 38) (tgt := 80) hx hb dX8_act_42 (by rw [c77]; decide) (by rw [c77]; decide) (by rw [c77]; rfl) (by decide) ?_
    refine lv_aload_n hx hb dX8_act_80 rfl (lv_at hl 3 rfl) ?_
    refine lv_iload_n hx hb dX8_act_81 rfl (lv_at hl 2 rfl) ?_
    obtain ⟨z79, hc78, hm⟩ := bindS hm
    refine g_calli (GG := GM cy ad) K hw (va_runV (As := [.int x71]) (rest := []) (g_fix K) (c_X8_dropField l D cy ad H.size n S x71  hc78) (cwV 1 (g_hts K) gX8_act_X8_dropField rfl rfl rfl (by decide +kernel) ⟨Nat.le_of_ble_eq_true rfl, Nat.le_of_ble_eq_true rfl⟩) ⟨g_blind rides_none, g_recv K hw 0 rfl (by decide : 0 < 1) rfl rfl, g_pre (X2 := fun _ _ => True) K hw (fun _ _ _ => trivial)⟩ rfl rfl hl.1 rfl (lv_room (Nat.le_of_ble_eq_true rfl)) dX8_act_82 ⟨Nat.le_of_ble_eq_true rfl, Nat.le_of_ble_eq_true rfl⟩) (fun r u H locs hp hw => ?_)
    obtain ⟨rfl, rfl⟩ : r = z79.1 ∧ u = z79.2 := by rw [hp]; exact ⟨rfl, rfl⟩
    obtain ⟨h80, hm⟩ := chkS hm
    exact g_zret (GG := GM cy ad) K hw h80 (Option.some.inj hm).symm dX8_act_85
  · replace hm := (if_neg c77).symm.trans hm
    by_cases c81 : (S.1 23 (5 * x1).toNatClampNeg) = 1
    · replace hm := (if_pos c81).symm.trans hm
      refine lv_tableIn (off := 44) (tgt := 86) hx hb dX8_act_42 (by rw [c81]; decide) (by rw [c81]; decide) (by rw [c81]; rfl) (by decide) ?_
      refine lv_aload_n hx hb dX8_act_86 rfl (lv_at hl 3 rfl) ?_
      refine lv_iload_n hx hb dX8_act_87 rfl (lv_at hl 2 rfl) ?_
      refine lv_iload_n hx hb dX8_act_88 rfl (lv_at hl 1 rfl) ?_
      obtain ⟨z83, hc82, hm⟩ := bindS hm
      refine g_calli (GG := GM cy ad) K hw (va_runV (As := [.int x71, .int x73]) (rest := []) (g_fix K) (c_X8_nameField l D cy ad H.size n S x71 x73  hc82) (cwV 2 (g_hts K) gX8_act_X8_nameField rfl rfl rfl (by decide +kernel) ⟨Nat.le_of_ble_eq_true rfl, Nat.le_of_ble_eq_true rfl⟩) ⟨g_blind rides_none, g_recv K hw 0 rfl (by decide : 0 < 1) rfl rfl, g_pre (X2 := fun _ _ => True) K hw (fun _ _ _ => trivial)⟩ rfl rfl hl.1 rfl (lv_room (Nat.le_of_ble_eq_true rfl)) dX8_act_89 ⟨Nat.le_of_ble_eq_true rfl, Nat.le_of_ble_eq_true rfl⟩) (fun r u H locs hp hw => ?_)
      obtain ⟨rfl, rfl⟩ : r = z83.1 ∧ u = z83.2 := by rw [hp]; exact ⟨rfl, rfl⟩
      obtain ⟨h84, hm⟩ := chkS hm
      exact g_zret (GG := GM cy ad) K hw h84 (Option.some.inj hm).symm dX8_act_92
    · replace hm := (if_neg c81).symm.trans hm
      by_cases c85 : (S.1 23 (5 * x1).toNatClampNeg) = 2
      · replace hm := (if_pos c85).symm.trans hm
        refine lv_tableIn (off := 51) (tgt := 93) hx hb dX8_act_42 (by rw [c85]; decide) (by rw [c85]; decide) (by rw [c85]; rfl) (by decide) ?_
        refine lv_aload_n hx hb dX8_act_93 rfl (lv_at hl 3 rfl) ?_
        refine lv_iload_n hx hb dX8_act_94 rfl (lv_at hl 4 rfl) ?_
        refine lv_iload_n hx hb dX8_act_95 rfl (lv_at hl 2 rfl) ?_
        refine lv_iload_n hx hb dX8_act_96 rfl (lv_at hl 1 rfl) ?_
        refine lv_iload hx hb dX8_act_97 (lv_at hl 0 rfl) ?_
        obtain ⟨z87, hc86, hm⟩ := bindS hm
        refine g_calli (GG := GM cy ad) K hw (va_runV (As := [.int x1, .int x71, .int x73, .int x75]) (rest := []) (g_fix K) (c_X8_numberField l D cy ad H.size n S x1 x71 x73 x75  hc86) (cwV 4 (g_hts K) gX8_act_X8_numberField rfl rfl rfl (by decide +kernel) ⟨Nat.le_of_ble_eq_true rfl, Nat.le_of_ble_eq_true rfl⟩) ⟨g_blind rides_none, g_recv K hw 0 rfl (by decide : 0 < 1) rfl rfl, g_pre (X2 := fun _ _ => True) K hw (fun _ _ _ => trivial)⟩ rfl rfl hl.1 rfl (lv_room (Nat.le_of_ble_eq_true rfl)) dX8_act_99 ⟨Nat.le_of_ble_eq_true rfl, Nat.le_of_ble_eq_true rfl⟩) (fun r u H locs hp hw => ?_)
        obtain ⟨rfl, rfl⟩ : r = z87.1 ∧ u = z87.2 := by rw [hp]; exact ⟨rfl, rfl⟩
        obtain ⟨h88, hm⟩ := chkS hm
        exact g_zret (GG := GM cy ad) K hw h88 (Option.some.inj hm).symm dX8_act_102
      · replace hm := (if_neg c85).symm.trans hm
        by_cases c89 : (S.1 23 (5 * x1).toNatClampNeg) = 3
        · replace hm := (if_pos c89).symm.trans hm
          refine lv_tableIn (off := 61) (tgt := 103) hx hb dX8_act_42 (by rw [c89]; decide) (by rw [c89]; decide) (by rw [c89]; rfl) (by decide) ?_
          refine lv_aload_n hx hb dX8_act_103 rfl (lv_at hl 3 rfl) ?_
          refine lv_iload_n hx hb dX8_act_104 rfl (lv_at hl 2 rfl) ?_
          refine lv_iload_n hx hb dX8_act_105 rfl (lv_at hl 1 rfl) ?_
          refine lv_iload hx hb dX8_act_106 (lv_at hl 0 rfl) ?_
          refine lv_aload_n hx hb dX8_act_108 rfl (lv_at hl 3 rfl) ?_
          refine g_get (ref := "MigrantHeapModel") (C := RX8) (T := TX8) (N := 44) (ci := 8) K in_X8_act_X8 hw 0 rfl (by decide : 0 < 1) rfl rfl 23 (by decide) (List.mem_of_getElem? (i := 1) rfl) rfl rfl dX8_act_109 ?_
          refine lv_iconst (v := 5) hx hb dX8_act_112 (by decide) ?_
          refine lv_iload_n hx hb dX8_act_113 rfl (lv_at hl 4 rfl) ?_
          refine lv_imul hx hb dX8_act_114 ?_
          refine lv_iconst (v := 4) hx hb dX8_act_115 (by decide) ?_
          refine lv_iadd hx hb dX8_act_116 ?_
          obtain ⟨h90, hm⟩ := chkS hm
          refine g_iald K hw 20 0 rfl (by decide) rfl rfl h90 dX8_act_117 ?_
          refine lv_iconst (v := 1) hx hb dX8_act_118 (by decide) ?_
          refine lv_icmp_ne (tgt := 126) hx hb dX8_act_119 (by decide) (fun c91 => ?_) (fun c91 => ?_)
          · replace hm := (if_pos c91).symm.trans hm
            refine lv_iconst (v := 0) hx hb dX8_act_126 (by decide) ?_
            exact t_X8_act_J127 K n S x71 x73 x75 0 hm H locs hw ls (lv_sub hl [] rfl)
          · replace hm := (if_neg (fun h => h c91)).symm.trans hm
            refine lv_iconst (v := 1) hx hb dX8_act_122 (by decide) ?_
            refine lv_goto (tgt := 127) hx hb dX8_act_123 (by decide) ?_
            exact t_X8_act_J127 K n S x71 x73 x75 1 hm H locs hw ls (lv_sub hl [] rfl)
        · replace hm := (if_neg c89).symm.trans hm
          by_cases c92 : (S.1 23 (5 * x1).toNatClampNeg) = 4
          · replace hm := (if_pos c92).symm.trans hm
            refine lv_tableIn (off := 89) (tgt := 131) hx hb dX8_act_42 (by rw [c92]; decide) (by rw [c92]; decide) (by rw [c92]; rfl) (by decide) ?_
            refine lv_aload_n hx hb dX8_act_131 rfl (lv_at hl 3 rfl) ?_
            refine lv_iload_n hx hb dX8_act_132 rfl (lv_at hl 2 rfl) ?_
            refine lv_iload_n hx hb dX8_act_133 rfl (lv_at hl 1 rfl) ?_
            obtain ⟨z94, hc93, hm⟩ := bindS hm
            refine g_calli (GG := GM cy ad) K hw (va_runV (As := [.int x71, .int x73]) (rest := []) (g_fix K) (c_X8_referenceField l D cy ad H.size n S x71 x73  hc93) (cwV 2 (g_hts K) gX8_act_X8_referenceField rfl rfl rfl (by decide +kernel) ⟨Nat.le_of_ble_eq_true rfl, Nat.le_of_ble_eq_true rfl⟩) ⟨g_blind rides_none, g_recv K hw 0 rfl (by decide : 0 < 1) rfl rfl, g_pre (X2 := fun _ _ => True) K hw (fun _ _ _ => trivial)⟩ rfl rfl hl.1 rfl (lv_room (Nat.le_of_ble_eq_true rfl)) dX8_act_134 ⟨Nat.le_of_ble_eq_true rfl, Nat.le_of_ble_eq_true rfl⟩) (fun r u H locs hp hw => ?_)
            obtain ⟨rfl, rfl⟩ : r = z94.1 ∧ u = z94.2 := by rw [hp]; exact ⟨rfl, rfl⟩
            obtain ⟨h95, hm⟩ := chkS hm
            exact g_zret (GG := GM cy ad) K hw h95 (Option.some.inj hm).symm dX8_act_137
          · replace hm := (if_neg c92).symm.trans hm
            by_cases c96 : (S.1 23 (5 * x1).toNatClampNeg) = 5
            · replace hm := (if_pos c96).symm.trans hm
              refine lv_tableIn (off := 96) (tgt := 138) hx hb dX8_act_42 (by rw [c96]; decide) (by rw [c96]; decide) (by rw [c96]; rfl) (by decide) ?_
              refine lv_aload_n hx hb dX8_act_138 rfl (lv_at hl 3 rfl) ?_
              refine lv_iload_n hx hb dX8_act_139 rfl (lv_at hl 2 rfl) ?_
              refine lv_iload_n hx hb dX8_act_140 rfl (lv_at hl 1 rfl) ?_
              refine lv_iload hx hb dX8_act_141 (lv_at hl 0 rfl) ?_
              obtain ⟨z98, hc97, hm⟩ := bindS hm
              refine g_calli (GG := GM cy ad) K hw (va_runV (As := [.int x71, .int x73, .int x75]) (rest := []) (g_fix K) (c_X8_splitField l D cy ad H.size n S x71 x73 x75  hc97) (cwV 3 (g_hts K) gX8_act_X8_splitField rfl rfl rfl (by decide +kernel) ⟨Nat.le_of_ble_eq_true rfl, Nat.le_of_ble_eq_true rfl⟩) ⟨g_blind rides_none, g_recv K hw 0 rfl (by decide : 0 < 1) rfl rfl, g_pre (X2 := fun _ _ => True) K hw (fun _ _ _ => trivial)⟩ rfl rfl hl.1 rfl (lv_room (Nat.le_of_ble_eq_true rfl)) dX8_act_143 ⟨Nat.le_of_ble_eq_true rfl, Nat.le_of_ble_eq_true rfl⟩) (fun r u H locs hp hw => ?_)
              obtain ⟨rfl, rfl⟩ : r = z98.1 ∧ u = z98.2 := by rw [hp]; exact ⟨rfl, rfl⟩
              obtain ⟨h99, hm⟩ := chkS hm
              exact g_zret (GG := GM cy ad) K hw h99 (Option.some.inj hm).symm dX8_act_146
            · replace hm := (if_neg c96).symm.trans hm
              have hsw103 : Int32.toInt (S.1 23 (5 * x1).toNatClampNeg) < 0 ∨ 5 < Int32.toInt (S.1 23 (5 * x1).toNatClampNeg) := by
                refine sw_out (fun k h1 h2 => ?_)
                rcases (show k = 0 ∨ k = 1 ∨ k = 2 ∨ k = 3 ∨ k = 4 ∨ k = 5 by omega) with rfl | rfl | rfl | rfl | rfl | rfl
                · exact c77
                · exact c81
                · exact c85
                · exact c89
                · exact c92
                · exact c96
              refine lv_tableOut (tgt := 147) hx hb dX8_act_42 hsw103 (by decide) ?_
              refine lv_aload_n hx hb dX8_act_147 rfl (lv_at hl 3 rfl) ?_
              refine lv_iload_n hx hb dX8_act_148 rfl (lv_at hl 2 rfl) ?_
              obtain ⟨z101, hc100, hm⟩ := bindS hm
              refine g_calli (GG := GM cy ad) K hw (va_runV (As := [.int x71]) (rest := []) (g_fix K) (c_X8_joinField l D cy ad H.size n S x71  hc100) (cwV 1 (g_hts K) gX8_act_X8_joinField rfl rfl rfl (by decide +kernel) ⟨Nat.le_of_ble_eq_true rfl, Nat.le_of_ble_eq_true rfl⟩) ⟨g_blind rides_none, g_recv K hw 0 rfl (by decide : 0 < 1) rfl rfl, g_pre (X2 := fun _ _ => True) K hw (fun _ _ _ => trivial)⟩ rfl rfl hl.1 rfl (lv_room (Nat.le_of_ble_eq_true rfl)) dX8_act_149 ⟨Nat.le_of_ble_eq_true rfl, Nat.le_of_ble_eq_true rfl⟩) (fun r u H locs hp hw => ?_)
              obtain ⟨rfl, rfl⟩ : r = z101.1 ∧ u = z101.2 := by rw [hp]; exact ⟨rfl, rfl⟩
              obtain ⟨h102, hm⟩ := chkS hm
              exact g_zret (GG := GM cy ad) K hw h102 (Option.some.inj hm).symm dX8_act_152
set_option maxRecDepth 100000 in
set_option maxHeartbeats 4000000 in
theorem c_X8_act (l : Launch) (D : va_G) (cy : Nat → ClassId) (ad : Nat → Nat → Nat) (sz n : Nat) (S : MSt) (x1 : Int32)  {out : Int32 × MSt} (hm : m_X8_act n S x1 = some out) : Met l yX8_act wsX8_act rm_X8_act (va_Pc [.ref (ad 0 0), .int x1] (Pre D (tysC cy) (GM cy ad S) (fun _ _ => True) sz)) (va_Qi (fun r (u : MSt) => out = (r, u)) (fun u => Pst D (tysC cy) (AA (adrs (GM cy ad S)) sz) (GM cy ad u)) (AA (adrs (GM cy ad S)) sz)) 0 0 (AA (adrs (GM cy ad S)) sz) := by
  refine g_met (by decide) rfl (Nat.le_of_ble_eq_true rfl) ?_
  intro p e s m args below meth c K hw ls hl
  exact t_X8_act_0 (cy := cy) K n S x1  hm _ _ hw ls hl
end W_X8_act
section W_X8_begin
variable {p : Program} {l : Launch} {e : Env} {s : State} {m : MethodId} {args : Array Value} {below : List Frame} {meth : Method} {c : Code} {D : va_G} {A : Nat → Prop} {cy : Nat → ClassId} {ad : Nat → Nat → Nat} {Q : State → Prop}
abbrev rm_X8_begin : Room := { frames := 0, cells := 0, slots := 0, locals := 0 }
theorem in_X8_begin_X8 : ∀ w ∈ u_ws RX8 TX8 44, w ∈ wsX8_begin := by decide +kernel
set_option maxRecDepth 100000 in
set_option maxHeartbeats 4000000 in
theorem t_X8_begin_L157 (K : Cx p s m args meth c D A (tysC cy) RX8 cX8_begin 3 none wsX8_begin (fun _ _ => True)) (n : Nat)   (z : MSt) (hE0 : ∀ w : MSt, z = w → ∀ (H : Heap) (locs : List Loc), Wd D A s.heap (GM cy ad w) H locs → ∀ ls : Array Slot, lv_has ls 3 [] → W p l e rm_X8_begin s m args below meth c H locs 0 0 Q (F0 m 193 ls [])) : ∀ (x : (MSt × Int32)), lpO (b_X8_begin_157 n ) n x = some z → (fun (x : (MSt × Int32)) => ∀ (H : Heap) (locs : List Loc), Wd D A s.heap (GM cy ad x.1) H locs → ∀ ls : Array Slot, lv_has ls 3 [(0, .ref (ad 0 0)), (2, .int x.2)] → W p l e rm_X8_begin s m args below meth c H locs 0 0 Q (F0 m 157 ls [])) x := by
  intro x hx0
  refine lpO_ind2 (P := fun (x : (MSt × Int32)) => ∀ (H : Heap) (locs : List Loc), Wd D A s.heap (GM cy ad x.1) H locs → ∀ ls : Array Slot, lv_has ls 3 [(0, .ref (ad 0 0)), (2, .int x.2)] → W p l e rm_X8_begin s m args below meth c H locs 0 0 Q (F0 m 157 ls [])) (z := z) ?_ n x hx0
  clear hx0 x
  intro x out hm hg H locs hw ls hl 
  obtain ⟨hx, hb, hml, hown, hts, hr, hlo, hK, hA, hX⟩ := id K
  unfold b_X8_begin_157 at hm
  refine lv_iload_n hx hb dX8_begin_157 rfl (lv_at hl 1 rfl) ?_
  refine lv_bipush (v := 24) hx hb dX8_begin_158 (by decide) ?_
  refine lv_icmp_ge (tgt := 193) hx hb dX8_begin_160 (by decide) (fun c103 => ?_) (fun c103 => ?_)
  · replace hm := (if_pos c103).symm.trans hm
    obtain rfl := Option.some.inj hm
    exact hE0 _ hg.symm H locs hw ls (lv_sub hl [] rfl)
  · replace hm := (if_neg c103).symm.trans hm
    refine lv_aload_n hx hb dX8_begin_163 rfl (lv_at hl 0 rfl) ?_
    refine g_get (ref := "MigrantHeapModel") (C := RX8) (T := TX8) (N := 44) (ci := 8) K in_X8_begin_X8 hw 0 rfl (by decide : 0 < 1) rfl rfl 37 (by decide) (List.mem_of_getElem? (i := 18) rfl) rfl rfl dX8_begin_164 ?_
    refine lv_iload_n hx hb dX8_begin_167 rfl (lv_at hl 1 rfl) ?_
    refine lv_aload_n hx hb dX8_begin_168 rfl (lv_at hl 0 rfl) ?_
    refine g_get (ref := "MigrantHeapModel") (C := RX8) (T := TX8) (N := 44) (ci := 8) K in_X8_begin_X8 hw 0 rfl (by decide : 0 < 1) rfl rfl 14 (by decide) (List.mem_of_getElem? (i := 19) rfl) rfl rfl dX8_begin_169 ?_
    refine lv_iload_n hx hb dX8_begin_172 rfl (lv_at hl 1 rfl) ?_
    obtain ⟨h104, hm⟩ := chkS hm
    refine g_iald K hw 13 0 rfl (by decide) rfl rfl h104 dX8_begin_173 ?_
    obtain ⟨h105, hm⟩ := chkS hm
    refine g_iast K hw 29 0 rfl (by decide) rfl rfl h105 dX8_begin_174 (eM_37 cy ad x.1 x.2.toNatClampNeg (x.1.1 14 x.2.toNatClampNeg)) (fun H locs hw => ?_)
    obtain ⟨S106, hS106, hm⟩ := nm_ex hm
    rw [← hS106] at hw
    refine lv_aload_n hx hb dX8_begin_175 rfl (lv_at hl 0 rfl) ?_
    refine g_get (ref := "MigrantHeapModel") (C := RX8) (T := TX8) (N := 44) (ci := 8) K in_X8_begin_X8 hw 0 rfl (by decide : 0 < 1) rfl rfl 38 (by decide) (List.mem_of_getElem? (i := 20) rfl) rfl rfl dX8_begin_176 ?_
    refine lv_iload_n hx hb dX8_begin_179 rfl (lv_at hl 1 rfl) ?_
    refine lv_aload_n hx hb dX8_begin_180 rfl (lv_at hl 0 rfl) ?_
    refine g_get (ref := "MigrantHeapModel") (C := RX8) (T := TX8) (N := 44) (ci := 8) K in_X8_begin_X8 hw 0 rfl (by decide : 0 < 1) rfl rfl 15 (by decide) (List.mem_of_getElem? (i := 21) rfl) rfl rfl dX8_begin_181 ?_
    refine lv_iload_n hx hb dX8_begin_184 rfl (lv_at hl 1 rfl) ?_
    obtain ⟨h107, hm⟩ := chkS hm
    refine g_iald K hw 14 0 rfl (by decide) rfl rfl h107 dX8_begin_185 ?_
    obtain ⟨h108, hm⟩ := chkS hm
    refine g_iast K hw 30 0 rfl (by decide) rfl rfl h108 dX8_begin_186 (eM_38 cy ad S106 x.2.toNatClampNeg (S106.1 15 x.2.toNatClampNeg)) (fun H locs hw => ?_)
    obtain ⟨S109, hS109, hm⟩ := nm_ex hm
    rw [← hS109] at hw
    obtain ⟨x110, hx110, hm⟩ := nm_ex hm
    refine lv_iinc (v := x110) (lv' := [(2, .int x110), (0, .ref (ad 0 0))]) hx hb dX8_begin_187 hl (k := 1) rfl (by rw [hx110]; rfl) (by decide) rfl (fun ls hl => ?_)
    refine lv_goto (tgt := 157) hx hb dX8_begin_190 (by decide) ?_
    obtain rfl := Option.some.inj hm
    exact hg H locs hw ls (lv_sub hl [1, 0] rfl)
set_option maxRecDepth 100000 in
set_option maxHeartbeats 4000000 in
theorem t_X8_begin_L118 (K : Cx p s m args meth c D A (tysC cy) RX8 cX8_begin 3 none wsX8_begin (fun _ _ => True)) (n : Nat)   (z : MSt) (hE0 : ∀ w : MSt, z = w → ∀ (H : Heap) (locs : List Loc), Wd D A s.heap (GM cy ad w) H locs → ∀ ls : Array Slot, lv_has ls 3 [(0, .ref (ad 0 0))] → W p l e rm_X8_begin s m args below meth c H locs 0 0 Q (F0 m 155 ls [])) : ∀ (x : (MSt × Int32)), lpO (b_X8_begin_118 n ) n x = some z → (fun (x : (MSt × Int32)) => ∀ (H : Heap) (locs : List Loc), Wd D A s.heap (GM cy ad x.1) H locs → ∀ ls : Array Slot, lv_has ls 3 [(0, .ref (ad 0 0)), (2, .int x.2)] → W p l e rm_X8_begin s m args below meth c H locs 0 0 Q (F0 m 118 ls [])) x := by
  intro x hx0
  refine lpO_ind2 (P := fun (x : (MSt × Int32)) => ∀ (H : Heap) (locs : List Loc), Wd D A s.heap (GM cy ad x.1) H locs → ∀ ls : Array Slot, lv_has ls 3 [(0, .ref (ad 0 0)), (2, .int x.2)] → W p l e rm_X8_begin s m args below meth c H locs 0 0 Q (F0 m 118 ls [])) (z := z) ?_ n x hx0
  clear hx0 x
  intro x out hm hg H locs hw ls hl 
  obtain ⟨hx, hb, hml, hown, hts, hr, hlo, hK, hA, hX⟩ := id K
  unfold b_X8_begin_118 at hm
  refine lv_iload_n hx hb dX8_begin_118 rfl (lv_at hl 1 rfl) ?_
  refine lv_sipush (v := 144) hx hb dX8_begin_119 (by decide) ?_
  refine lv_icmp_ge (tgt := 155) hx hb dX8_begin_122 (by decide) (fun c111 => ?_) (fun c111 => ?_)
  · replace hm := (if_pos c111).symm.trans hm
    obtain rfl := Option.some.inj hm
    exact hE0 _ hg.symm H locs hw ls (lv_sub hl [0] rfl)
  · replace hm := (if_neg c111).symm.trans hm
    refine lv_aload_n hx hb dX8_begin_125 rfl (lv_at hl 0 rfl) ?_
    refine g_get (ref := "MigrantHeapModel") (C := RX8) (T := TX8) (N := 44) (ci := 8) K in_X8_begin_X8 hw 0 rfl (by decide : 0 < 1) rfl rfl 34 (by decide) (List.mem_of_getElem? (i := 15) rfl) rfl rfl dX8_begin_126 ?_
    refine lv_iload_n hx hb dX8_begin_129 rfl (lv_at hl 1 rfl) ?_
    refine lv_aload_n hx hb dX8_begin_130 rfl (lv_at hl 0 rfl) ?_
    refine g_get (ref := "MigrantHeapModel") (C := RX8) (T := TX8) (N := 44) (ci := 8) K in_X8_begin_X8 hw 0 rfl (by decide : 0 < 1) rfl rfl 16 (by decide) (List.mem_of_getElem? (i := 16) rfl) rfl rfl dX8_begin_131 ?_
    refine lv_iload_n hx hb dX8_begin_134 rfl (lv_at hl 1 rfl) ?_
    obtain ⟨h112, hm⟩ := chkS hm
    refine g_iald K hw 15 0 rfl (by decide) rfl rfl h112 dX8_begin_135 ?_
    obtain ⟨h113, hm⟩ := chkS hm
    refine g_iast K hw 28 0 rfl (by decide) rfl rfl h113 dX8_begin_136 (eM_34 cy ad x.1 x.2.toNatClampNeg (x.1.1 16 x.2.toNatClampNeg)) (fun H locs hw => ?_)
    obtain ⟨S114, hS114, hm⟩ := nm_ex hm
    rw [← hS114] at hw
    refine lv_aload_n hx hb dX8_begin_137 rfl (lv_at hl 0 rfl) ?_
    refine g_get (ref := "MigrantHeapModel") (C := RX8) (T := TX8) (N := 44) (ci := 8) K in_X8_begin_X8 hw 0 rfl (by decide : 0 < 1) rfl rfl 39 (by decide) (List.mem_of_getElem? (i := 17) rfl) rfl rfl dX8_begin_138 ?_
    refine lv_iload_n hx hb dX8_begin_141 rfl (lv_at hl 1 rfl) ?_
    refine lv_aload_n hx hb dX8_begin_142 rfl (lv_at hl 0 rfl) ?_
    refine g_get (ref := "MigrantHeapModel") (C := RX8) (T := TX8) (N := 44) (ci := 8) K in_X8_begin_X8 hw 0 rfl (by decide : 0 < 1) rfl rfl 16 (by decide) (List.mem_of_getElem? (i := 16) rfl) rfl rfl dX8_begin_143 ?_
    refine lv_iload_n hx hb dX8_begin_146 rfl (lv_at hl 1 rfl) ?_
    obtain ⟨h115, hm⟩ := chkS hm
    refine g_iald K hw 15 0 rfl (by decide) rfl rfl h115 dX8_begin_147 ?_
    obtain ⟨h116, hm⟩ := chkS hm
    refine g_iast K hw 31 0 rfl (by decide) rfl rfl h116 dX8_begin_148 (eM_39 cy ad S114 x.2.toNatClampNeg (S114.1 16 x.2.toNatClampNeg)) (fun H locs hw => ?_)
    obtain ⟨S117, hS117, hm⟩ := nm_ex hm
    rw [← hS117] at hw
    obtain ⟨x118, hx118, hm⟩ := nm_ex hm
    refine lv_iinc (v := x118) (lv' := [(2, .int x118), (0, .ref (ad 0 0))]) hx hb dX8_begin_149 hl (k := 1) rfl (by rw [hx118]; rfl) (by decide) rfl (fun ls hl => ?_)
    refine lv_goto (tgt := 118) hx hb dX8_begin_152 (by decide) ?_
    obtain rfl := Option.some.inj hm
    exact hg H locs hw ls (lv_sub hl [1, 0] rfl)
set_option maxRecDepth 100000 in
set_option maxHeartbeats 4000000 in
theorem t_X8_begin_L27 (K : Cx p s m args meth c D A (tysC cy) RX8 cX8_begin 3 none wsX8_begin (fun _ _ => True)) (n : Nat) (x1 : Int32)  (z : MSt) (hE0 : ∀ w : MSt, z = w → ∀ (H : Heap) (locs : List Loc), Wd D A s.heap (GM cy ad w) H locs → ∀ ls : Array Slot, lv_has ls 3 [(0, .ref (ad 0 0))] → W p l e rm_X8_begin s m args below meth c H locs 0 0 Q (F0 m 116 ls [])) : ∀ (x : (MSt × Int32)), lpO (b_X8_begin_27 n x1) n x = some z → (fun (x : (MSt × Int32)) => ∀ (H : Heap) (locs : List Loc), Wd D A s.heap (GM cy ad x.1) H locs → ∀ ls : Array Slot, lv_has ls 3 [(0, .ref (ad 0 0)), (1, .int x1), (2, .int x.2)] → W p l e rm_X8_begin s m args below meth c H locs 0 0 Q (F0 m 27 ls [])) x := by
  intro x hx0
  refine lpO_ind2 (P := fun (x : (MSt × Int32)) => ∀ (H : Heap) (locs : List Loc), Wd D A s.heap (GM cy ad x.1) H locs → ∀ ls : Array Slot, lv_has ls 3 [(0, .ref (ad 0 0)), (1, .int x1), (2, .int x.2)] → W p l e rm_X8_begin s m args below meth c H locs 0 0 Q (F0 m 27 ls [])) (z := z) ?_ n x hx0
  clear hx0 x
  intro x out hm hg H locs hw ls hl 
  obtain ⟨hx, hb, hml, hown, hts, hr, hlo, hK, hA, hX⟩ := id K
  unfold b_X8_begin_27 at hm
  refine lv_iload_n hx hb dX8_begin_27 rfl (lv_at hl 2 rfl) ?_
  refine lv_aload_n hx hb dX8_begin_28 rfl (lv_at hl 0 rfl) ?_
  refine g_get (ref := "MigrantHeapModel") (C := RX8) (T := TX8) (N := 44) (ci := 8) K in_X8_begin_X8 hw 0 rfl (by decide : 0 < 1) rfl rfl 28 (by decide) (List.mem_of_getElem? (i := 3) rfl) rfl rfl dX8_begin_29 ?_
  refine lv_icmp_ge (tgt := 116) hx hb dX8_begin_32 (by decide) (fun c119 => ?_) (fun c119 => ?_)
  · replace hm := (if_pos c119).symm.trans hm
    obtain rfl := Option.some.inj hm
    exact hE0 _ hg.symm H locs hw ls (lv_sub hl [0] rfl)
  · replace hm := (if_neg c119).symm.trans hm
    refine lv_aload_n hx hb dX8_begin_35 rfl (lv_at hl 0 rfl) ?_
    refine g_get (ref := "MigrantHeapModel") (C := RX8) (T := TX8) (N := 44) (ci := 8) K in_X8_begin_X8 hw 0 rfl (by decide : 0 < 1) rfl rfl 29 (by decide) (List.mem_of_getElem? (i := 6) rfl) rfl rfl dX8_begin_36 ?_
    refine lv_iload_n hx hb dX8_begin_39 rfl (lv_at hl 2 rfl) ?_
    refine lv_aload_n hx hb dX8_begin_40 rfl (lv_at hl 0 rfl) ?_
    refine g_get (ref := "MigrantHeapModel") (C := RX8) (T := TX8) (N := 44) (ci := 8) K in_X8_begin_X8 hw 0 rfl (by decide : 0 < 1) rfl rfl 5 (by decide) (List.mem_of_getElem? (i := 7) rfl) rfl rfl dX8_begin_41 ?_
    refine lv_bipush (v := 6) hx hb dX8_begin_44 (by decide) ?_
    refine lv_iload_n hx hb dX8_begin_46 rfl (lv_at hl 1 rfl) ?_
    refine lv_imul hx hb dX8_begin_47 ?_
    refine lv_iload_n hx hb dX8_begin_48 rfl (lv_at hl 2 rfl) ?_
    refine lv_iadd hx hb dX8_begin_49 ?_
    obtain ⟨h120, hm⟩ := chkS hm
    refine g_iald K hw 4 0 rfl (by decide) rfl rfl h120 dX8_begin_50 ?_
    obtain ⟨h121, hm⟩ := chkS hm
    refine g_iast K hw 23 0 rfl (by decide) rfl rfl h121 dX8_begin_51 (eM_29 cy ad x.1 x.2.toNatClampNeg (x.1.1 5 ((6 * x1) + x.2).toNatClampNeg)) (fun H locs hw => ?_)
    obtain ⟨S122, hS122, hm⟩ := nm_ex hm
    rw [← hS122] at hw
    refine lv_aload_n hx hb dX8_begin_52 rfl (lv_at hl 0 rfl) ?_
    refine g_get (ref := "MigrantHeapModel") (C := RX8) (T := TX8) (N := 44) (ci := 8) K in_X8_begin_X8 hw 0 rfl (by decide : 0 < 1) rfl rfl 30 (by decide) (List.mem_of_getElem? (i := 8) rfl) rfl rfl dX8_begin_53 ?_
    refine lv_iload_n hx hb dX8_begin_56 rfl (lv_at hl 2 rfl) ?_
    refine lv_aload_n hx hb dX8_begin_57 rfl (lv_at hl 0 rfl) ?_
    refine g_get (ref := "MigrantHeapModel") (C := RX8) (T := TX8) (N := 44) (ci := 8) K in_X8_begin_X8 hw 0 rfl (by decide : 0 < 1) rfl rfl 6 (by decide) (List.mem_of_getElem? (i := 9) rfl) rfl rfl dX8_begin_58 ?_
    refine lv_bipush (v := 6) hx hb dX8_begin_61 (by decide) ?_
    refine lv_iload_n hx hb dX8_begin_63 rfl (lv_at hl 1 rfl) ?_
    refine lv_imul hx hb dX8_begin_64 ?_
    refine lv_iload_n hx hb dX8_begin_65 rfl (lv_at hl 2 rfl) ?_
    refine lv_iadd hx hb dX8_begin_66 ?_
    obtain ⟨h123, hm⟩ := chkS hm
    refine g_iald K hw 5 0 rfl (by decide) rfl rfl h123 dX8_begin_67 ?_
    obtain ⟨h124, hm⟩ := chkS hm
    refine g_iast K hw 24 0 rfl (by decide) rfl rfl h124 dX8_begin_68 (eM_30 cy ad S122 x.2.toNatClampNeg (S122.1 6 ((6 * x1) + x.2).toNatClampNeg)) (fun H locs hw => ?_)
    obtain ⟨S125, hS125, hm⟩ := nm_ex hm
    rw [← hS125] at hw
    refine lv_aload_n hx hb dX8_begin_69 rfl (lv_at hl 0 rfl) ?_
    refine g_get (ref := "MigrantHeapModel") (C := RX8) (T := TX8) (N := 44) (ci := 8) K in_X8_begin_X8 hw 0 rfl (by decide : 0 < 1) rfl rfl 31 (by decide) (List.mem_of_getElem? (i := 10) rfl) rfl rfl dX8_begin_70 ?_
    refine lv_iload_n hx hb dX8_begin_73 rfl (lv_at hl 2 rfl) ?_
    refine lv_aload_n hx hb dX8_begin_74 rfl (lv_at hl 0 rfl) ?_
    refine g_get (ref := "MigrantHeapModel") (C := RX8) (T := TX8) (N := 44) (ci := 8) K in_X8_begin_X8 hw 0 rfl (by decide : 0 < 1) rfl rfl 7 (by decide) (List.mem_of_getElem? (i := 11) rfl) rfl rfl dX8_begin_75 ?_
    refine lv_bipush (v := 6) hx hb dX8_begin_78 (by decide) ?_
    refine lv_iload_n hx hb dX8_begin_80 rfl (lv_at hl 1 rfl) ?_
    refine lv_imul hx hb dX8_begin_81 ?_
    refine lv_iload_n hx hb dX8_begin_82 rfl (lv_at hl 2 rfl) ?_
    refine lv_iadd hx hb dX8_begin_83 ?_
    obtain ⟨h126, hm⟩ := chkS hm
    refine g_iald K hw 6 0 rfl (by decide) rfl rfl h126 dX8_begin_84 ?_
    obtain ⟨h127, hm⟩ := chkS hm
    refine g_iast K hw 25 0 rfl (by decide) rfl rfl h127 dX8_begin_85 (eM_31 cy ad S125 x.2.toNatClampNeg (S125.1 7 ((6 * x1) + x.2).toNatClampNeg)) (fun H locs hw => ?_)
    obtain ⟨S128, hS128, hm⟩ := nm_ex hm
    rw [← hS128] at hw
    refine lv_aload_n hx hb dX8_begin_86 rfl (lv_at hl 0 rfl) ?_
    refine g_get (ref := "MigrantHeapModel") (C := RX8) (T := TX8) (N := 44) (ci := 8) K in_X8_begin_X8 hw 0 rfl (by decide : 0 < 1) rfl rfl 32 (by decide) (List.mem_of_getElem? (i := 12) rfl) rfl rfl dX8_begin_87 ?_
    refine lv_iload_n hx hb dX8_begin_90 rfl (lv_at hl 2 rfl) ?_
    refine lv_aload_n hx hb dX8_begin_91 rfl (lv_at hl 0 rfl) ?_
    refine g_get (ref := "MigrantHeapModel") (C := RX8) (T := TX8) (N := 44) (ci := 8) K in_X8_begin_X8 hw 0 rfl (by decide : 0 < 1) rfl rfl 8 (by decide) (List.mem_of_getElem? (i := 13) rfl) rfl rfl dX8_begin_92 ?_
    refine lv_bipush (v := 6) hx hb dX8_begin_95 (by decide) ?_
    refine lv_iload_n hx hb dX8_begin_97 rfl (lv_at hl 1 rfl) ?_
    refine lv_imul hx hb dX8_begin_98 ?_
    refine lv_iload_n hx hb dX8_begin_99 rfl (lv_at hl 2 rfl) ?_
    refine lv_iadd hx hb dX8_begin_100 ?_
    obtain ⟨h129, hm⟩ := chkS hm
    refine g_iald K hw 7 0 rfl (by decide) rfl rfl h129 dX8_begin_101 ?_
    obtain ⟨h130, hm⟩ := chkS hm
    refine g_iast K hw 26 0 rfl (by decide) rfl rfl h130 dX8_begin_102 (eM_32 cy ad S128 x.2.toNatClampNeg (S128.1 8 ((6 * x1) + x.2).toNatClampNeg)) (fun H locs hw => ?_)
    obtain ⟨S131, hS131, hm⟩ := nm_ex hm
    rw [← hS131] at hw
    refine lv_aload_n hx hb dX8_begin_103 rfl (lv_at hl 0 rfl) ?_
    refine g_get (ref := "MigrantHeapModel") (C := RX8) (T := TX8) (N := 44) (ci := 8) K in_X8_begin_X8 hw 0 rfl (by decide : 0 < 1) rfl rfl 33 (by decide) (List.mem_of_getElem? (i := 14) rfl) rfl rfl dX8_begin_104 ?_
    refine lv_iload_n hx hb dX8_begin_107 rfl (lv_at hl 2 rfl) ?_
    refine lv_iload_n hx hb dX8_begin_108 rfl (lv_at hl 2 rfl) ?_
    obtain ⟨h132, hm⟩ := chkS hm
    refine g_iast K hw 27 0 rfl (by decide) rfl rfl h132 dX8_begin_109 (eM_33 cy ad S131 x.2.toNatClampNeg x.2) (fun H locs hw => ?_)
    obtain ⟨S133, hS133, hm⟩ := nm_ex hm
    rw [← hS133] at hw
    obtain ⟨x134, hx134, hm⟩ := nm_ex hm
    refine lv_iinc (v := x134) (lv' := [(2, .int x134), (0, .ref (ad 0 0)), (1, .int x1)]) hx hb dX8_begin_110 hl (k := 2) rfl (by rw [hx134]; rfl) (by decide) rfl (fun ls hl => ?_)
    refine lv_goto (tgt := 27) hx hb dX8_begin_113 (by decide) ?_
    obtain rfl := Option.some.inj hm
    exact hg H locs hw ls (lv_sub hl [1, 2, 0] rfl)
set_option maxRecDepth 100000 in
set_option maxHeartbeats 4000000 in
theorem t_X8_begin_0 (K : Cx p s m args meth c D A (tysC cy) RX8 cX8_begin 3 none wsX8_begin (fun _ _ => True)) (n : Nat) (S : MSt) (x1 : Int32)  {out : MSt} (hm : m_X8_begin n S x1 = some out) : ∀ (H : Heap) (locs : List Loc), Wd D A s.heap (GM cy ad S) H locs → ∀ ls : Array Slot, lv_has ls 3 [(0, .ref (ad 0 0)), (1, .int x1)] → W p l e rm_X8_begin s m args below meth c H locs 0 0 (MQ below (va_Qv (fun (u : MSt) => out = u) (fun u => Pst D (tysC cy) A (GM cy ad u)) A) args s 0 0 A) (F0 m 0 ls []) := by
  intro H locs hw ls hl
  obtain ⟨hx, hb, hml, hown, hts, hr, hlo, hK, hA, hX⟩ := id K
  unfold m_X8_begin at hm
  refine lv_aload_n hx hb dX8_begin_0 rfl (lv_at hl 0 rfl) ?_
  refine lv_iload_n hx hb dX8_begin_1 rfl (lv_at hl 1 rfl) ?_
  refine g_put (v := .int x1) (ty := .int) (ref := "MigrantHeapModel") (C := RX8) (T := TX8) (N := 44) (ci := 8) K in_X8_begin_X8 tyX8 tyX8_ok nmX8 hw 0 rfl (by decide : 0 < 1) rfl rfl 27 (by decide) (List.mem_of_getElem? (i := 1) rfl) rfl rfl (by decide +kernel) rfl rfl (Nat.le_of_ble_eq_true rfl) dX8_begin_2 (eM_27 cy ad S x1) (fun H locs hw => ?_)
  obtain ⟨S135, hS135, hm⟩ := nm_ex hm
  rw [← hS135] at hw
  refine lv_aload_n hx hb dX8_begin_5 rfl (lv_at hl 0 rfl) ?_
  refine lv_aload_n hx hb dX8_begin_6 rfl (lv_at hl 0 rfl) ?_
  refine g_get (ref := "MigrantHeapModel") (C := RX8) (T := TX8) (N := 44) (ci := 8) K in_X8_begin_X8 hw 0 rfl (by decide : 0 < 1) rfl rfl 4 (by decide) (List.mem_of_getElem? (i := 2) rfl) rfl rfl dX8_begin_7 ?_
  refine lv_iload_n hx hb dX8_begin_10 rfl (lv_at hl 1 rfl) ?_
  obtain ⟨h136, hm⟩ := chkS hm
  refine g_iald K hw 3 0 rfl (by decide) rfl rfl h136 dX8_begin_11 ?_
  refine g_put (v := .int (S135.1 4 x1.toNatClampNeg)) (ty := .int) (ref := "MigrantHeapModel") (C := RX8) (T := TX8) (N := 44) (ci := 8) K in_X8_begin_X8 tyX8 tyX8_ok nmX8 hw 0 rfl (by decide : 0 < 1) rfl rfl 28 (by decide) (List.mem_of_getElem? (i := 3) rfl) rfl rfl (by decide +kernel) rfl rfl (Nat.le_of_ble_eq_true rfl) dX8_begin_12 (eM_28 cy ad S135 (S135.1 4 x1.toNatClampNeg)) (fun H locs hw => ?_)
  obtain ⟨S137, hS137, hm⟩ := nm_ex hm
  rw [← hS137] at hw
  refine lv_aload_n hx hb dX8_begin_15 rfl (lv_at hl 0 rfl) ?_
  refine lv_iconst (v := 0) hx hb dX8_begin_16 (by decide) ?_
  refine g_put (v := .int 0) (ty := .boolean) (ref := "MigrantHeapModel") (C := RX8) (T := TX8) (N := 44) (ci := 8) K in_X8_begin_X8 tyX8 tyX8_ok nmX8 hw 0 rfl (by decide : 0 < 1) rfl rfl 35 (by decide) (List.mem_of_getElem? (i := 4) rfl) rfl rfl (by decide +kernel) rfl rfl (Nat.le_of_ble_eq_true rfl) dX8_begin_17 (eM_35 cy ad S137 0) (fun H locs hw => ?_)
  obtain ⟨S138, hS138, hm⟩ := nm_ex hm
  rw [← hS138] at hw
  refine lv_aload_n hx hb dX8_begin_20 rfl (lv_at hl 0 rfl) ?_
  refine lv_iconst (v := 0) hx hb dX8_begin_21 (by decide) ?_
  refine g_put (v := .int 0) (ty := .int) (ref := "MigrantHeapModel") (C := RX8) (T := TX8) (N := 44) (ci := 8) K in_X8_begin_X8 tyX8 tyX8_ok nmX8 hw 0 rfl (by decide : 0 < 1) rfl rfl 36 (by decide) (List.mem_of_getElem? (i := 5) rfl) rfl rfl (by decide +kernel) rfl rfl (Nat.le_of_ble_eq_true rfl) dX8_begin_22 (eM_36 cy ad S138 0) (fun H locs hw => ?_)
  obtain ⟨S139, hS139, hm⟩ := nm_ex hm
  rw [← hS139] at hw
  refine lv_iconst (v := 0) hx hb dX8_begin_25 (by decide) ?_
  refine lv_istore_n (lv' := [(2, .int 0), (0, .ref (ad 0 0)), (1, .int x1)]) hx hb dX8_begin_26 rfl hl (by decide) rfl (fun ls hl => ?_)
  obtain ⟨z140, hz141, hm⟩ := bindS hm
  refine t_X8_begin_L27 K n x1 z140 (fun w142 hww142 => ?_) ((S139, 0)) hz141 H locs hw ls (lv_sub hl [1, 2, 0] rfl)
  · intro H locs hw ls hl 
    try rw [hww142] at hm
    refine lv_iconst (v := 0) hx hb dX8_begin_116 (by decide) ?_
    refine lv_istore_n (lv' := [(2, .int 0), (0, .ref (ad 0 0))]) hx hb dX8_begin_117 rfl hl (by decide) rfl (fun ls hl => ?_)
    obtain ⟨z143, hz144, hm⟩ := bindS hm
    refine t_X8_begin_L118 K n  z143 (fun w145 hww145 => ?_) ((w142, 0)) hz144 H locs hw ls (lv_sub hl [1, 0] rfl)
    · intro H locs hw ls hl 
      try rw [hww145] at hm
      refine lv_iconst (v := 0) hx hb dX8_begin_155 (by decide) ?_
      refine lv_istore_n (lv' := [(2, .int 0), (0, .ref (ad 0 0))]) hx hb dX8_begin_156 rfl hl (by decide) rfl (fun ls hl => ?_)
      obtain ⟨z146, hz147, hm⟩ := bindS hm
      refine t_X8_begin_L157 K n  z146 (fun w148 hww148 => ?_) ((w145, 0)) hz147 H locs hw ls (lv_sub hl [1, 0] rfl)
      · intro H locs hw ls hl 
        try rw [hww148] at hm
        exact g_vret (GG := GM cy ad) K hw (Option.some.inj hm).symm dX8_begin_193
set_option maxRecDepth 100000 in
set_option maxHeartbeats 4000000 in
theorem c_X8_begin (l : Launch) (D : va_G) (cy : Nat → ClassId) (ad : Nat → Nat → Nat) (sz n : Nat) (S : MSt) (x1 : Int32)  {out : MSt} (hm : m_X8_begin n S x1 = some out) : Met l yX8_begin wsX8_begin rm_X8_begin (va_Pc [.ref (ad 0 0), .int x1] (Pre D (tysC cy) (GM cy ad S) (fun _ _ => True) sz)) (va_Qv (fun (u : MSt) => out = u) (fun u => Pst D (tysC cy) (AA (adrs (GM cy ad S)) sz) (GM cy ad u)) (AA (adrs (GM cy ad S)) sz)) 0 0 (AA (adrs (GM cy ad S)) sz) := by
  refine g_met (by decide) rfl (Nat.le_of_ble_eq_true rfl) ?_
  intro p e s m args below meth c K hw ls hl
  exact t_X8_begin_0 (cy := cy) K n S x1  hm _ _ hw ls hl
end W_X8_begin
section W_X8_restore
variable {p : Program} {l : Launch} {e : Env} {s : State} {m : MethodId} {args : Array Value} {below : List Frame} {meth : Method} {c : Code} {D : va_G} {A : Nat → Prop} {cy : Nat → ClassId} {ad : Nat → Nat → Nat} {Q : State → Prop}
abbrev rm_X8_restore : Room := { frames := 0, cells := 0, slots := 0, locals := 0 }
theorem in_X8_restore_X8 : ∀ w ∈ u_ws RX8 TX8 44, w ∈ wsX8_restore := by decide +kernel
set_option maxRecDepth 100000 in
set_option maxHeartbeats 4000000 in
theorem t_X8_restore_L29 (K : Cx p s m args meth c D A (tysC cy) RX8 cX8_restore 2 none wsX8_restore (fun _ _ => True)) (n : Nat)   (z : MSt) (hE0 : ∀ w : MSt, z = w → ∀ (H : Heap) (locs : List Loc), Wd D A s.heap (GM cy ad w) H locs → ∀ ls : Array Slot, lv_has ls 2 [] → W p l e rm_X8_restore s m args below meth c H locs 0 0 Q (F0 m 65 ls [])) : ∀ (x : (MSt × Int32)), lpO (b_X8_restore_29 n ) n x = some z → (fun (x : (MSt × Int32)) => ∀ (H : Heap) (locs : List Loc), Wd D A s.heap (GM cy ad x.1) H locs → ∀ ls : Array Slot, lv_has ls 2 [(0, .ref (ad 0 0)), (1, .int x.2)] → W p l e rm_X8_restore s m args below meth c H locs 0 0 Q (F0 m 29 ls [])) x := by
  intro x hx0
  refine lpO_ind2 (P := fun (x : (MSt × Int32)) => ∀ (H : Heap) (locs : List Loc), Wd D A s.heap (GM cy ad x.1) H locs → ∀ ls : Array Slot, lv_has ls 2 [(0, .ref (ad 0 0)), (1, .int x.2)] → W p l e rm_X8_restore s m args below meth c H locs 0 0 Q (F0 m 29 ls [])) (z := z) ?_ n x hx0
  clear hx0 x
  intro x out hm hg H locs hw ls hl 
  obtain ⟨hx, hb, hml, hown, hts, hr, hlo, hK, hA, hX⟩ := id K
  unfold b_X8_restore_29 at hm
  refine lv_iload_n hx hb dX8_restore_29 rfl (lv_at hl 1 rfl) ?_
  refine lv_bipush (v := 24) hx hb dX8_restore_30 (by decide) ?_
  refine lv_icmp_ge (tgt := 65) hx hb dX8_restore_32 (by decide) (fun c34 => ?_) (fun c34 => ?_)
  · replace hm := (if_pos c34).symm.trans hm
    obtain rfl := Option.some.inj hm
    exact hE0 _ hg.symm H locs hw ls (lv_sub hl [] rfl)
  · replace hm := (if_neg c34).symm.trans hm
    refine lv_aload_n hx hb dX8_restore_35 rfl (lv_at hl 0 rfl) ?_
    refine g_get (ref := "MigrantHeapModel") (C := RX8) (T := TX8) (N := 44) (ci := 8) K in_X8_restore_X8 hw 0 rfl (by decide : 0 < 1) rfl rfl 14 (by decide) (List.mem_of_getElem? (i := 3) rfl) rfl rfl dX8_restore_36 ?_
    refine lv_iload_n hx hb dX8_restore_39 rfl (lv_at hl 1 rfl) ?_
    refine lv_aload_n hx hb dX8_restore_40 rfl (lv_at hl 0 rfl) ?_
    refine g_get (ref := "MigrantHeapModel") (C := RX8) (T := TX8) (N := 44) (ci := 8) K in_X8_restore_X8 hw 0 rfl (by decide : 0 < 1) rfl rfl 37 (by decide) (List.mem_of_getElem? (i := 4) rfl) rfl rfl dX8_restore_41 ?_
    refine lv_iload_n hx hb dX8_restore_44 rfl (lv_at hl 1 rfl) ?_
    obtain ⟨h35, hm⟩ := chkS hm
    refine g_iald K hw 29 0 rfl (by decide) rfl rfl h35 dX8_restore_45 ?_
    obtain ⟨h36, hm⟩ := chkS hm
    refine g_iast K hw 13 0 rfl (by decide) rfl rfl h36 dX8_restore_46 (eM_14 cy ad x.1 x.2.toNatClampNeg (x.1.1 37 x.2.toNatClampNeg)) (fun H locs hw => ?_)
    obtain ⟨S37, hS37, hm⟩ := nm_ex hm
    rw [← hS37] at hw
    refine lv_aload_n hx hb dX8_restore_47 rfl (lv_at hl 0 rfl) ?_
    refine g_get (ref := "MigrantHeapModel") (C := RX8) (T := TX8) (N := 44) (ci := 8) K in_X8_restore_X8 hw 0 rfl (by decide : 0 < 1) rfl rfl 15 (by decide) (List.mem_of_getElem? (i := 5) rfl) rfl rfl dX8_restore_48 ?_
    refine lv_iload_n hx hb dX8_restore_51 rfl (lv_at hl 1 rfl) ?_
    refine lv_aload_n hx hb dX8_restore_52 rfl (lv_at hl 0 rfl) ?_
    refine g_get (ref := "MigrantHeapModel") (C := RX8) (T := TX8) (N := 44) (ci := 8) K in_X8_restore_X8 hw 0 rfl (by decide : 0 < 1) rfl rfl 38 (by decide) (List.mem_of_getElem? (i := 6) rfl) rfl rfl dX8_restore_53 ?_
    refine lv_iload_n hx hb dX8_restore_56 rfl (lv_at hl 1 rfl) ?_
    obtain ⟨h38, hm⟩ := chkS hm
    refine g_iald K hw 30 0 rfl (by decide) rfl rfl h38 dX8_restore_57 ?_
    obtain ⟨h39, hm⟩ := chkS hm
    refine g_iast K hw 14 0 rfl (by decide) rfl rfl h39 dX8_restore_58 (eM_15 cy ad S37 x.2.toNatClampNeg (S37.1 38 x.2.toNatClampNeg)) (fun H locs hw => ?_)
    obtain ⟨S40, hS40, hm⟩ := nm_ex hm
    rw [← hS40] at hw
    obtain ⟨x41, hx41, hm⟩ := nm_ex hm
    refine lv_iinc (v := x41) (lv' := [(1, .int x41), (0, .ref (ad 0 0))]) hx hb dX8_restore_59 hl (k := 1) rfl (by rw [hx41]; rfl) (by decide) rfl (fun ls hl => ?_)
    refine lv_goto (tgt := 29) hx hb dX8_restore_62 (by decide) ?_
    obtain rfl := Option.some.inj hm
    exact hg H locs hw ls (lv_sub hl [1, 0] rfl)
set_option maxRecDepth 100000 in
set_option maxHeartbeats 4000000 in
theorem t_X8_restore_L2 (K : Cx p s m args meth c D A (tysC cy) RX8 cX8_restore 2 none wsX8_restore (fun _ _ => True)) (n : Nat)   (z : MSt) (hE0 : ∀ w : MSt, z = w → ∀ (H : Heap) (locs : List Loc), Wd D A s.heap (GM cy ad w) H locs → ∀ ls : Array Slot, lv_has ls 2 [(0, .ref (ad 0 0))] → W p l e rm_X8_restore s m args below meth c H locs 0 0 Q (F0 m 27 ls [])) : ∀ (x : (MSt × Int32)), lpO (b_X8_restore_2 n ) n x = some z → (fun (x : (MSt × Int32)) => ∀ (H : Heap) (locs : List Loc), Wd D A s.heap (GM cy ad x.1) H locs → ∀ ls : Array Slot, lv_has ls 2 [(0, .ref (ad 0 0)), (1, .int x.2)] → W p l e rm_X8_restore s m args below meth c H locs 0 0 Q (F0 m 2 ls [])) x := by
  intro x hx0
  refine lpO_ind2 (P := fun (x : (MSt × Int32)) => ∀ (H : Heap) (locs : List Loc), Wd D A s.heap (GM cy ad x.1) H locs → ∀ ls : Array Slot, lv_has ls 2 [(0, .ref (ad 0 0)), (1, .int x.2)] → W p l e rm_X8_restore s m args below meth c H locs 0 0 Q (F0 m 2 ls [])) (z := z) ?_ n x hx0
  clear hx0 x
  intro x out hm hg H locs hw ls hl 
  obtain ⟨hx, hb, hml, hown, hts, hr, hlo, hK, hA, hX⟩ := id K
  unfold b_X8_restore_2 at hm
  refine lv_iload_n hx hb dX8_restore_2 rfl (lv_at hl 1 rfl) ?_
  refine lv_sipush (v := 144) hx hb dX8_restore_3 (by decide) ?_
  refine lv_icmp_ge (tgt := 27) hx hb dX8_restore_6 (by decide) (fun c42 => ?_) (fun c42 => ?_)
  · replace hm := (if_pos c42).symm.trans hm
    obtain rfl := Option.some.inj hm
    exact hE0 _ hg.symm H locs hw ls (lv_sub hl [0] rfl)
  · replace hm := (if_neg c42).symm.trans hm
    refine lv_aload_n hx hb dX8_restore_9 rfl (lv_at hl 0 rfl) ?_
    refine g_get (ref := "MigrantHeapModel") (C := RX8) (T := TX8) (N := 44) (ci := 8) K in_X8_restore_X8 hw 0 rfl (by decide : 0 < 1) rfl rfl 16 (by decide) (List.mem_of_getElem? (i := 1) rfl) rfl rfl dX8_restore_10 ?_
    refine lv_iload_n hx hb dX8_restore_13 rfl (lv_at hl 1 rfl) ?_
    refine lv_aload_n hx hb dX8_restore_14 rfl (lv_at hl 0 rfl) ?_
    refine g_get (ref := "MigrantHeapModel") (C := RX8) (T := TX8) (N := 44) (ci := 8) K in_X8_restore_X8 hw 0 rfl (by decide : 0 < 1) rfl rfl 39 (by decide) (List.mem_of_getElem? (i := 2) rfl) rfl rfl dX8_restore_15 ?_
    refine lv_iload_n hx hb dX8_restore_18 rfl (lv_at hl 1 rfl) ?_
    obtain ⟨h43, hm⟩ := chkS hm
    refine g_iald K hw 31 0 rfl (by decide) rfl rfl h43 dX8_restore_19 ?_
    obtain ⟨h44, hm⟩ := chkS hm
    refine g_iast K hw 15 0 rfl (by decide) rfl rfl h44 dX8_restore_20 (eM_16 cy ad x.1 x.2.toNatClampNeg (x.1.1 39 x.2.toNatClampNeg)) (fun H locs hw => ?_)
    obtain ⟨S45, hS45, hm⟩ := nm_ex hm
    rw [← hS45] at hw
    obtain ⟨x46, hx46, hm⟩ := nm_ex hm
    refine lv_iinc (v := x46) (lv' := [(1, .int x46), (0, .ref (ad 0 0))]) hx hb dX8_restore_21 hl (k := 1) rfl (by rw [hx46]; rfl) (by decide) rfl (fun ls hl => ?_)
    refine lv_goto (tgt := 2) hx hb dX8_restore_24 (by decide) ?_
    obtain rfl := Option.some.inj hm
    exact hg H locs hw ls (lv_sub hl [1, 0] rfl)
set_option maxRecDepth 100000 in
set_option maxHeartbeats 4000000 in
theorem t_X8_restore_0 (K : Cx p s m args meth c D A (tysC cy) RX8 cX8_restore 2 none wsX8_restore (fun _ _ => True)) (n : Nat) (S : MSt)   {out : MSt} (hm : m_X8_restore n S  = some out) : ∀ (H : Heap) (locs : List Loc), Wd D A s.heap (GM cy ad S) H locs → ∀ ls : Array Slot, lv_has ls 2 [(0, .ref (ad 0 0))] → W p l e rm_X8_restore s m args below meth c H locs 0 0 (MQ below (va_Qv (fun (u : MSt) => out = u) (fun u => Pst D (tysC cy) A (GM cy ad u)) A) args s 0 0 A) (F0 m 0 ls []) := by
  intro H locs hw ls hl
  obtain ⟨hx, hb, hml, hown, hts, hr, hlo, hK, hA, hX⟩ := id K
  unfold m_X8_restore at hm
  refine lv_iconst (v := 0) hx hb dX8_restore_0 (by decide) ?_
  refine lv_istore_n (lv' := [(1, .int 0), (0, .ref (ad 0 0))]) hx hb dX8_restore_1 rfl hl (by decide) rfl (fun ls hl => ?_)
  obtain ⟨z47, hz48, hm⟩ := bindS hm
  refine t_X8_restore_L2 K n  z47 (fun w49 hww49 => ?_) ((S, 0)) hz48 H locs hw ls (lv_sub hl [1, 0] rfl)
  · intro H locs hw ls hl 
    try rw [hww49] at hm
    refine lv_iconst (v := 0) hx hb dX8_restore_27 (by decide) ?_
    refine lv_istore_n (lv' := [(1, .int 0), (0, .ref (ad 0 0))]) hx hb dX8_restore_28 rfl hl (by decide) rfl (fun ls hl => ?_)
    obtain ⟨z50, hz51, hm⟩ := bindS hm
    refine t_X8_restore_L29 K n  z50 (fun w52 hww52 => ?_) ((w49, 0)) hz51 H locs hw ls (lv_sub hl [1, 0] rfl)
    · intro H locs hw ls hl 
      try rw [hww52] at hm
      exact g_vret (GG := GM cy ad) K hw (Option.some.inj hm).symm dX8_restore_65
set_option maxRecDepth 100000 in
set_option maxHeartbeats 4000000 in
theorem c_X8_restore (l : Launch) (D : va_G) (cy : Nat → ClassId) (ad : Nat → Nat → Nat) (sz n : Nat) (S : MSt)   {out : MSt} (hm : m_X8_restore n S  = some out) : Met l yX8_restore wsX8_restore rm_X8_restore (va_Pc [.ref (ad 0 0)] (Pre D (tysC cy) (GM cy ad S) (fun _ _ => True) sz)) (va_Qv (fun (u : MSt) => out = u) (fun u => Pst D (tysC cy) (AA (adrs (GM cy ad S)) sz) (GM cy ad u)) (AA (adrs (GM cy ad S)) sz)) 0 0 (AA (adrs (GM cy ad S)) sz) := by
  refine g_met (by decide) rfl (Nat.le_of_ble_eq_true rfl) ?_
  intro p e s m args below meth c K hw ls hl
  exact t_X8_restore_0 (cy := cy) K n S   hm _ _ hw ls hl
end W_X8_restore
