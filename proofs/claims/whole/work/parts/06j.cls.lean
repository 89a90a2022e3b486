section W_X7_move
variable {p : Program} {l : Launch} {e : Env} {s : State} {m : MethodId} {args : Array Value} {below : List Frame} {meth : Method} {c : Code} {D : va_G} {A : Nat → Prop} {cy : Nat → ClassId} {ad : Nat → Nat → Nat} {Q : State → Prop}
abbrev rm_X7_move : Room := { frames := 4, cells := 0, slots := 0, locals := 108 }
theorem in_X7_move_X0 : ∀ w ∈ u_ws RX0 TX0 6, w ∈ wsX7_move := by decide +kernel
theorem in_X7_move_X2 : ∀ w ∈ u_ws RX2 TX2 4, w ∈ wsX7_move := by decide +kernel
theorem in_X7_move_X4 : ∀ w ∈ u_ws RX4 TX4 6, w ∈ wsX7_move := by decide +kernel
theorem in_X7_move_X5 : ∀ w ∈ u_ws RX5 TX5 6, w ∈ wsX7_move := by decide +kernel
theorem in_X7_move_X7 : ∀ w ∈ u_ws RX7 TX7 11, w ∈ wsX7_move := by decide +kernel
set_option maxRecDepth 100000 in
set_option maxHeartbeats 4000000 in
theorem t_X7_move_0 (K : Cx p s m args meth c D A (tysC cy) RX7 cX7_move 4 none wsX7_move EV) (n : Nat) (S : CSt) (x1 : Nat) (x2 : Nat) (hb_x1 : x1 < 6) (hb_x2 : x2 < 24) {out : CSt} (hm : m_X7_move n S x1 x2 = some out) : ∀ (H : Heap) (locs : List Loc), Wd D A s.heap (GC cy ad S) H locs → ∀ ls : Array Slot, lv_has ls 4 [(0, .ref (ad 0 0)), (1, .ref (ad 18 x1)), (2, .ref (ad 11 x2))] → W p l e rm_X7_move s m args below meth c H locs 0 0 (MQ below (va_Qv (fun (u : CSt) => out = u) (fun u => Pst D (tysC cy) A (GC cy ad u)) A) args s 0 0 A) (F0 m 0 ls []) := by
  intro H locs hw ls hl
  obtain ⟨hx, hb, hml, hown, hts, hr, hlo, hK, hA, hX⟩ := id K
  unfold m_X7_move at hm
  refine lv_aload_n hx hb dX7_move_0 rfl (lv_at hl 0 rfl) ?_
  refine g_get (ref := "MigrantHeap") (C := RX7) (T := TX7) (N := 11) (ci := 7) K in_X7_move_X7 hw 0 rfl (by decide : 0 < 1) rfl rfl 8 (by decide) (List.mem_of_getElem? (i := 1) rfl) rfl rfl dX7_move_1 ?_
  refine lv_aload_n hx hb dX7_move_4 rfl (lv_at hl 1 rfl) ?_
  refine g_get (ref := "MigrantHeap$Step") (C := RX5) (T := TX5) (N := 6) (ci := 5) K in_X7_move_X5 hw 18 rfl hb_x1 rfl rfl 1 (by decide) (List.mem_of_getElem? (i := 2) rfl) rfl rfl dX7_move_5 ?_
  obtain ⟨z62, hc61, hm⟩ := bindS hm
  refine g_calli (GG := GC cy ad) K hw (va_runV (As := [.int (S.1 23 x1 0)]) (rest := []) (g_fix K) (c_X4_placeOf l D cy ad H.size n S 8 (S.1 23 x1 0) (by decide : 8 < 9) hc61) (cwV 1 (g_hts K) gX7_move_X4_placeOf rfl rfl rfl (by decide +kernel) ⟨Nat.le_of_ble_eq_true rfl, Nat.le_of_ble_eq_true rfl⟩) ⟨g_blind rides_none, g_recv K hw 3 rfl (by decide : 8 < 9) rfl rfl, g_pre (X2 := fun _ _ => True) K hw (fun _ _ _ => trivial)⟩ rfl rfl hl.1 rfl (lv_room (Nat.le_of_ble_eq_true rfl)) dX7_move_8 ⟨Nat.le_of_ble_eq_true rfl, Nat.le_of_ble_eq_true rfl⟩) (fun r u H locs hp hw => ?_)
  obtain ⟨rfl, hu⟩ := hp
  rw [hu] at hw
  refine lv_istore_n (lv' := [(3, .int z62), (0, .ref (ad 0 0)), (1, .ref (ad 18 x1)), (2, .ref (ad 11 x2))]) hx hb dX7_move_11 rfl hl (by decide) rfl (fun ls hl => ?_)
  refine lv_aload_n hx hb dX7_move_12 rfl (lv_at hl 2 rfl) ?_
  refine g_get (ref := "MigrantHeap$Step") (C := RX5) (T := TX5) (N := 6) (ci := 5) K in_X7_move_X5 hw 18 rfl hb_x1 rfl rfl 0 (by decide) (List.mem_of_getElem? (i := 3) rfl) rfl rfl dX7_move_13 ?_
  by_cases c63 : (S.1 22 x1 0) = 0
  · replace hm := (if_pos c63).symm.trans hm
    refine lv_tableIn (off := 44) (tgt := 60) hx hb dX7_move_16 (by rw [c63]; decide) (by rw [c63]; decide) (by rw [c63]; rfl) (by decide) ?_
    refine lv_aload_n hx hb dX7_move_60 rfl (lv_at hl 1 rfl) ?_
    refine g_get (ref := "MigrantHeap") (C := RX7) (T := TX7) (N := 11) (ci := 7) K in_X7_move_X7 hw 0 rfl (by decide : 0 < 1) rfl rfl 8 (by decide) (List.mem_of_getElem? (i := 1) rfl) rfl rfl dX7_move_61 ?_
    refine lv_aload_n hx hb dX7_move_64 rfl (lv_at hl 3 rfl) ?_
    refine g_get (ref := "MigrantHeap$Entry") (C := RX0) (T := TX0) (N := 6) (ci := 0) K in_X7_move_X0 hw 11 rfl hb_x2 rfl rfl 4 (by decide) (List.mem_of_getElem? (i := 4) rfl) rfl rfl dX7_move_65 ?_
    refine lv_iconst (v := 1) hx hb dX7_move_68 (by decide) ?_
    refine lv_aload_n hx hb dX7_move_69 rfl (lv_at hl 2 rfl) ?_
    refine g_get (ref := "MigrantHeap$Step") (C := RX5) (T := TX5) (N := 6) (ci := 5) K in_X7_move_X5 hw 18 rfl hb_x1 rfl rfl 1 (by decide) (List.mem_of_getElem? (i := 2) rfl) rfl rfl dX7_move_70 ?_
    refine lv_ishl hx hb dX7_move_73 ?_
    obtain ⟨z65, hc64, hm⟩ := bindS hm
    refine g_calli (GG := GC cy ad) K hw (va_runV (As := [.ref (ad 12 x2), .int (1 <<< ((S.1 23 x1 0) &&& 31))]) (rest := []) (g_fix K) (c_X4_squeeze_a17 l D cy ad H.size n S 8 x2 (1 <<< ((S.1 23 x1 0) &&& 31)) (by decide : 8 < 9) hb_x2 hc64) (cwV 2 (g_hts K) gX7_move_X4_squeeze rfl rfl rfl (by decide +kernel) ⟨Nat.le_of_ble_eq_true rfl, Nat.le_of_ble_eq_true rfl⟩) ⟨g_blind rides_EV, g_recv K hw 3 rfl (by decide : 8 < 9) rfl rfl, g_pre K hw (g_ride rides_EV K hw)⟩ rfl rfl hl.1 rfl (lv_room (Nat.le_of_ble_eq_true rfl)) dX7_move_74 ⟨Nat.le_of_ble_eq_true rfl, Nat.le_of_ble_eq_true rfl⟩) (fun r u H locs hp hw => ?_)
    obtain ⟨rfl, rfl⟩ : r = z65.1 ∧ u = z65.2 := by rw [hp]; exact ⟨rfl, rfl⟩
    refine lv_pop hx hb dX7_move_77 rfl ?_
    refine lv_goto (tgt := 217) hx hb dX7_move_78 (by decide) ?_
    exact g_vret (GG := GC cy ad) K hw (Option.some.inj hm).symm dX7_move_217
  · replace hm := (if_neg c63).symm.trans hm
    by_cases c66 : (S.1 22 x1 0) = 1
    · replace hm := (if_pos c66).symm.trans hm
      refine lv_tableIn (off := 201) (tgt := 217) hx hb dX7_move_16 (by rw [c66]; decide) (by rw [c66]; decide) (by rw [c66]; rfl) (by decide) ?_
      exact g_vret (GG := GC cy ad) K hw (Option.some.inj hm).symm dX7_move_217
    · replace hm := (if_neg c66).symm.trans hm
      by_cases c67 : (S.1 22 x1 0) = 2
      · replace hm := (if_pos c67).symm.trans hm
        refine lv_tableIn (off := 65) (tgt := 81) hx hb dX7_move_16 (by rw [c67]; decide) (by rw [c67]; decide) (by rw [c67]; rfl) (by decide) ?_
        refine lv_aload_n hx hb dX7_move_81 rfl (lv_at hl 1 rfl) ?_
        refine g_get (ref := "MigrantHeap") (C := RX7) (T := TX7) (N := 11) (ci := 7) K in_X7_move_X7 hw 0 rfl (by decide : 0 < 1) rfl rfl 9 (by decide) (List.mem_of_getElem? (i := 5) rfl) rfl rfl dX7_move_82 ?_
        refine lv_aload_n hx hb dX7_move_85 rfl (lv_at hl 2 rfl) ?_
        refine g_get (ref := "MigrantHeap$Step") (C := RX5) (T := TX5) (N := 6) (ci := 5) K in_X7_move_X5 hw 18 rfl hb_x1 rfl rfl 5 (by decide) (List.mem_of_getElem? (i := 6) rfl) rfl rfl dX7_move_86 ?_
        refine lv_aload_n hx hb dX7_move_89 rfl (lv_at hl 1 rfl) ?_
        refine g_get (ref := "MigrantHeap") (C := RX7) (T := TX7) (N := 11) (ci := 7) K in_X7_move_X7 hw 0 rfl (by decide : 0 < 1) rfl rfl 0 (by decide) (List.mem_of_getElem? (i := 7) rfl) rfl rfl dX7_move_90 ?_
        refine lv_aload_n hx hb dX7_move_93 rfl (lv_at hl 3 rfl) ?_
        refine g_get (ref := "MigrantHeap$Entry") (C := RX0) (T := TX0) (N := 6) (ci := 0) K in_X7_move_X0 hw 11 rfl hb_x2 rfl rfl 1 (by decide) (List.mem_of_getElem? (i := 8) rfl) rfl rfl dX7_move_94 ?_
        obtain ⟨h68, hm⟩ := chkS hm
        refine g_aald K hw 1 4 rfl (by decide) rfl rfl h68 dX7_move_97 ?_
        refine g_get (ref := "MigrantHeap$Kind") (C := RX2) (T := TX2) (N := 4) (ci := 2) K in_X7_move_X2 hw 2 rfl (inB_lt h68) rfl rfl 3 (by decide) (List.mem_of_getElem? (i := 9) rfl) rfl rfl dX7_move_98 ?_
        refine lv_aload_n hx hb dX7_move_101 rfl (lv_at hl 3 rfl) ?_
        refine g_get (ref := "MigrantHeap$Entry") (C := RX0) (T := TX0) (N := 6) (ci := 0) K in_X7_move_X0 hw 11 rfl hb_x2 rfl rfl 5 (by decide) (List.mem_of_getElem? (i := 10) rfl) rfl rfl dX7_move_102 ?_
        obtain ⟨z70, hc69, hm⟩ := bindS hm
        refine g_calli (GG := GC cy ad) K hw (va_runV (As := [.ref (ad 15 x1), .ref (ad 3 (2 * (S.1 14 x2 0).toNatClampNeg + 1)), .ref (ad 13 x2)]) (rest := []) (g_fix K) (c_X3_reckon_a18 l D cy ad H.size n S x1 (2 * (S.1 14 x2 0).toNatClampNeg + 1) x2 (by have := hb_x1; omega : x1 < 7) (by have := (inB_lt h68); omega : (2 * (S.1 14 x2 0).toNatClampNeg + 1) < 9) hb_x2 hc69) (cwV 3 (g_hts K) gX7_move_X3_reckon rfl rfl rfl (by decide +kernel) ⟨Nat.le_of_ble_eq_true rfl, Nat.le_of_ble_eq_true rfl⟩) ⟨g_blind rides_none, g_recv K hw 19 rfl (by decide : 0 < 1) rfl rfl, g_pre (X2 := fun _ _ => True) K hw (fun _ _ _ => trivial)⟩ rfl rfl hl.1 rfl (lv_room (Nat.le_of_ble_eq_true rfl)) dX7_move_105 ⟨Nat.le_of_ble_eq_true rfl, Nat.le_of_ble_eq_true rfl⟩) (fun r u H locs hp hw => ?_)
        obtain ⟨rfl, rfl⟩ : r = z70.1 ∧ u = z70.2 := by rw [hp]; exact ⟨rfl, rfl⟩
        refine lv_pop hx hb dX7_move_108 rfl ?_
        refine lv_aload_n hx hb dX7_move_109 rfl (lv_at hl 3 rfl) ?_
        refine lv_aload_n hx hb dX7_move_110 rfl (lv_at hl 1 rfl) ?_
        refine g_get (ref := "MigrantHeap") (C := RX7) (T := TX7) (N := 11) (ci := 7) K in_X7_move_X7 hw 0 rfl (by decide : 0 < 1) rfl rfl 8 (by decide) (List.mem_of_getElem? (i := 1) rfl) rfl rfl dX7_move_111 ?_
        refine g_get (ref := "MigrantHeap$Shape") (C := RX4) (T := TX4) (N := 6) (ci := 4) K in_X7_move_X4 hw 3 rfl (by decide : 8 < 9) rfl rfl 0 (by decide) (List.mem_of_getElem? (i := 11) rfl) rfl rfl dX7_move_114 ?_
        refine lv_aload_n hx hb dX7_move_117 rfl (lv_at hl 1 rfl) ?_
        refine g_get (ref := "MigrantHeap") (C := RX7) (T := TX7) (N := 11) (ci := 7) K in_X7_move_X7 hw 0 rfl (by decide : 0 < 1) rfl rfl 9 (by decide) (List.mem_of_getElem? (i := 5) rfl) rfl rfl dX7_move_118 ?_
        obtain ⟨z72, hc71, hm⟩ := bindS hm
        refine g_calli (GG := GC cy ad) K hw (va_runV (As := []) (rest := [.int (z70.2.1 5 8 0), .ref (ad 11 x2)]) (g_fix K) (c_X3_value l D cy ad H.size n z70.2   hc71) (cwV 0 (g_hts K) gX7_move_X3_value rfl rfl rfl (by decide +kernel) ⟨Nat.le_of_ble_eq_true rfl, Nat.le_of_ble_eq_true rfl⟩) ⟨g_blind rides_none, g_recv K hw 19 rfl (by decide : 0 < 1) rfl rfl, g_pre (X2 := fun _ _ => True) K hw (fun _ _ _ => trivial)⟩ rfl rfl hl.1 rfl (lv_room (Nat.le_of_ble_eq_true rfl)) dX7_move_121 ⟨Nat.le_of_ble_eq_true rfl, Nat.le_of_ble_eq_true rfl⟩) (fun r u H locs hp hw => ?_)
        obtain ⟨rfl, hu⟩ := hp
        rw [hu] at hw
        obtain ⟨z74, hc73, hm⟩ := bindS hm
        refine g_callv (GG := GC cy ad) K hw (va_runV (As := [.int (z70.2.1 5 8 0), .int z72]) (rest := []) (g_fix K) (c_X0_put l D cy ad H.size n z70.2 x2 (z70.2.1 5 8 0) z72 hb_x2 hc73) (cwV 2 (g_hts K) gX7_move_X0_put rfl rfl rfl (by decide +kernel) ⟨Nat.le_of_ble_eq_true rfl, Nat.le_of_ble_eq_true rfl⟩) ⟨g_blind rides_none, g_recv K hw 11 rfl hb_x2 rfl rfl, g_pre (X2 := fun _ _ => True) K hw (fun _ _ _ => trivial)⟩ rfl rfl hl.1 rfl (lv_room (Nat.le_of_ble_eq_true rfl)) dX7_move_124 ⟨Nat.le_of_ble_eq_true rfl, Nat.le_of_ble_eq_true rfl⟩) (fun u H locs hp hw => ?_)
        obtain rfl := hp
        refine lv_goto (tgt := 217) hx hb dX7_move_127 (by decide) ?_
        exact g_vret (GG := GC cy ad) K hw (Option.some.inj hm).symm dX7_move_217
      · replace hm := (if_neg c67).symm.trans hm
        by_cases c75 : (S.1 22 x1 0) = 3
        · replace hm := (if_pos c75).symm.trans hm
          refine lv_tableIn (off := 114) (tgt := 130) hx hb dX7_move_16 (by rw [c75]; decide) (by rw [c75]; decide) (by rw [c75]; rfl) (by decide) ?_
          refine lv_iload_n hx hb dX7_move_130 rfl (lv_at hl 0 rfl) ?_
          refine lv_iconst (v := (-1)) hx hb dX7_move_131 (by decide) ?_
          refine lv_icmp_eq (tgt := 217) hx hb dX7_move_132 (by decide) (fun c76 => ?_) (fun c76 => ?_)
          · replace hm := (if_pos c76).symm.trans hm
            exact g_vret (GG := GC cy ad) K hw (Option.some.inj hm).symm dX7_move_217
          · replace hm := (if_neg c76).symm.trans hm
            refine lv_aload_n hx hb dX7_move_135 rfl (lv_at hl 3 rfl) ?_
            refine lv_iload_n hx hb dX7_move_136 rfl (lv_at hl 0 rfl) ?_
            refine lv_aload_n hx hb dX7_move_137 rfl (lv_at hl 3 rfl) ?_
            refine g_get (ref := "MigrantHeap$Entry") (C := RX0) (T := TX0) (N := 6) (ci := 0) K in_X7_move_X0 hw 11 rfl hb_x2 rfl rfl 4 (by decide) (List.mem_of_getElem? (i := 4) rfl) rfl rfl dX7_move_138 ?_
            refine lv_iload_n hx hb dX7_move_141 rfl (lv_at hl 0 rfl) ?_
            obtain ⟨h77, hm⟩ := chkS hm
            refine g_iald K hw 12 0 rfl hb_x2 rfl rfl h77 dX7_move_142 ?_
            refine lv_aload_n hx hb dX7_move_143 rfl (lv_at hl 2 rfl) ?_
            refine g_get (ref := "MigrantHeap$Step") (C := RX5) (T := TX5) (N := 6) (ci := 5) K in_X7_move_X5 hw 18 rfl hb_x1 rfl rfl 2 (by decide) (List.mem_of_getElem? (i := 12) rfl) rfl rfl dX7_move_144 ?_
            refine lv_aload_n hx hb dX7_move_147 rfl (lv_at hl 2 rfl) ?_
            refine g_get (ref := "MigrantHeap$Step") (C := RX5) (T := TX5) (N := 6) (ci := 5) K in_X7_move_X5 hw 18 rfl hb_x1 rfl rfl 3 (by decide) (List.mem_of_getElem? (i := 13) rfl) rfl rfl dX7_move_148 ?_
            obtain ⟨z79, hc78, hm⟩ := bindS hm
            refine g_calli (GG := GC cy ad) K hw (va_runS (As := [.int (S.1 17 x2 z62.toNatClampNeg), .int (S.1 24 x1 0), .int (S.1 25 x1 0)]) (rest := [.int z62, .ref (ad 11 x2)]) (g_fix K) (c_X7_nearest l D cy ad H.size n S (S.1 17 x2 z62.toNatClampNeg) (S.1 24 x1 0) (S.1 25 x1 0)  hc78) (va_cwS 3 (g_hts K) gX7_move_X7_nearest rfl rfl rfl (by decide +kernel) ⟨Nat.le_of_ble_eq_true rfl, Nat.le_of_ble_eq_true rfl⟩) ⟨g_blind rides_none, g_pre (X2 := fun _ _ => True) K hw (fun _ _ _ => trivial)⟩ rfl rfl hl.1 rfl (lv_room (Nat.le_of_ble_eq_true rfl)) dX7_move_151 ⟨Nat.le_of_ble_eq_true rfl, Nat.le_of_ble_eq_true rfl⟩) (fun r u H locs hp hw => ?_)
            obtain ⟨rfl, hu⟩ := hp
            rw [hu] at hw
            obtain ⟨z81, hc80, hm⟩ := bindS hm
            refine g_callv (GG := GC cy ad) K hw (va_runV (As := [.int z62, .int z79]) (rest := []) (g_fix K) (c_X0_put l D cy ad H.size n S x2 z62 z79 hb_x2 hc80) (cwV 2 (g_hts K) gX7_move_X0_put rfl rfl rfl (by decide +kernel) ⟨Nat.le_of_ble_eq_true rfl, Nat.le_of_ble_eq_true rfl⟩) ⟨g_blind rides_none, g_recv K hw 11 rfl hb_x2 rfl rfl, g_pre (X2 := fun _ _ => True) K hw (fun _ _ _ => trivial)⟩ rfl rfl hl.1 rfl (lv_room (Nat.le_of_ble_eq_true rfl)) dX7_move_154 ⟨Nat.le_of_ble_eq_true rfl, Nat.le_of_ble_eq_true rfl⟩) (fun u H locs hp hw => ?_)
            obtain rfl := hp
            refine lv_goto (tgt := 217) hx hb dX7_move_157 (by decide) ?_
            exact g_vret (GG := GC cy ad) K hw (Option.some.inj hm).symm dX7_move_217
        · replace hm := (if_neg c75).symm.trans hm
          by_cases c82 : (S.1 22 x1 0) = 4
          · replace hm := (if_pos c82).symm.trans hm
            refine lv_tableIn (off := 144) (tgt := 160) hx hb dX7_move_16 (by rw [c82]; decide) (by rw [c82]; decide) (by rw [c82]; rfl) (by decide) ?_
            refine lv_aload_n hx hb dX7_move_160 rfl (lv_at hl 3 rfl) ?_
            refine lv_aload_n hx hb dX7_move_161 rfl (lv_at hl 1 rfl) ?_
            refine g_get (ref := "MigrantHeap") (C := RX7) (T := TX7) (N := 11) (ci := 7) K in_X7_move_X7 hw 0 rfl (by decide : 0 < 1) rfl rfl 8 (by decide) (List.mem_of_getElem? (i := 1) rfl) rfl rfl dX7_move_162 ?_
            refine g_get (ref := "MigrantHeap$Shape") (C := RX4) (T := TX4) (N := 6) (ci := 4) K in_X7_move_X4 hw 3 rfl (by decide : 8 < 9) rfl rfl 0 (by decide) (List.mem_of_getElem? (i := 11) rfl) rfl rfl dX7_move_165 ?_
            refine lv_iconst (v := 0) hx hb dX7_move_168 (by decide) ?_
            obtain ⟨z84, hc83, hm⟩ := bindS hm
            refine g_callv (GG := GC cy ad) K hw (va_runV (As := [.int (S.1 5 8 0), .int 0]) (rest := []) (g_fix K) (c_X0_put l D cy ad H.size n S x2 (S.1 5 8 0) 0 hb_x2 hc83) (cwV 2 (g_hts K) gX7_move_X0_put rfl rfl rfl (by decide +kernel) ⟨Nat.le_of_ble_eq_true rfl, Nat.le_of_ble_eq_true rfl⟩) ⟨g_blind rides_none, g_recv K hw 11 rfl hb_x2 rfl rfl, g_pre (X2 := fun _ _ => True) K hw (fun _ _ _ => trivial)⟩ rfl rfl hl.1 rfl (lv_room (Nat.le_of_ble_eq_true rfl)) dX7_move_169 ⟨Nat.le_of_ble_eq_true rfl, Nat.le_of_ble_eq_true rfl⟩) (fun u H locs hp hw => ?_)
            obtain rfl := hp
            refine lv_goto (tgt := 217) hx hb dX7_move_172 (by decide) ?_
            exact g_vret (GG := GC cy ad) K hw (Option.some.inj hm).symm dX7_move_217
          · replace hm := (if_neg c82).symm.trans hm
            by_cases c85 : (S.1 22 x1 0) = 5
            · replace hm := (if_pos c85).symm.trans hm
              refine lv_tableIn (off := 159) (tgt := 175) hx hb dX7_move_16 (by rw [c85]; decide) (by rw [c85]; decide) (by rw [c85]; rfl) (by decide) ?_
              refine lv_aload_n hx hb dX7_move_175 rfl (lv_at hl 1 rfl) ?_
              refine lv_aload_n hx hb dX7_move_176 rfl (lv_at hl 2 rfl) ?_
              refine lv_aload_n hx hb dX7_move_177 rfl (lv_at hl 3 rfl) ?_
              obtain ⟨z87, hc86, hm⟩ := bindS hm
              refine g_callv (GG := GC cy ad) K hw (va_runV (As := [.ref (ad 18 x1), .ref (ad 11 x2)]) (rest := []) (g_fix K) (c_X7_splitOff l D cy ad H.size n S x1 x2 hb_x1 hb_x2 hc86) (cwV 2 (g_hts K) gX7_move_X7_splitOff rfl rfl rfl (by decide +kernel) ⟨Nat.le_of_ble_eq_true rfl, Nat.le_of_ble_eq_true rfl⟩) ⟨g_blind rides_EV, g_recv K hw 0 rfl (by decide : 0 < 1) rfl rfl, g_pre K hw (g_ride rides_EV K hw)⟩ rfl rfl hl.1 rfl (lv_room (Nat.le_of_ble_eq_true rfl)) dX7_move_178 ⟨Nat.le_of_ble_eq_true rfl, Nat.le_of_ble_eq_true rfl⟩) (fun u H locs hp hw => ?_)
              obtain rfl := hp
              refine lv_goto (tgt := 217) hx hb dX7_move_181 (by decide) ?_
              exact g_vret (GG := GC cy ad) K hw (Option.some.inj hm).symm dX7_move_217
            · replace hm := (if_neg c85).symm.trans hm
              by_cases c88 : (S.1 22 x1 0) = 6
              · replace hm := (if_pos c88).symm.trans hm
                refine lv_tableIn (off := 168) (tgt := 184) hx hb dX7_move_16 (by rw [c88]; decide) (by rw [c88]; decide) (by rw [c88]; rfl) (by decide) ?_
                refine lv_aload_n hx hb dX7_move_184 rfl (lv_at hl 1 rfl) ?_
                refine g_get (ref := "MigrantHeap") (C := RX7) (T := TX7) (N := 11) (ci := 7) K in_X7_move_X7 hw 0 rfl (by decide : 0 < 1) rfl rfl 8 (by decide) (List.mem_of_getElem? (i := 1) rfl) rfl rfl dX7_move_185 ?_
                refine lv_iload_n hx hb dX7_move_188 rfl (lv_at hl 0 rfl) ?_
                obtain ⟨z90, hc89, hm⟩ := bindS hm
                refine g_calli (GG := GC cy ad) K hw (va_runV (As := [.int z62]) (rest := []) (g_fix K) (c_X4_isOwning l D cy ad H.size n S 8 z62 (by decide : 8 < 9) hc89) (cwV 1 (g_hts K) gX7_move_X4_isOwning rfl rfl rfl (by decide +kernel) ⟨Nat.le_of_ble_eq_true rfl, Nat.le_of_ble_eq_true rfl⟩) ⟨g_blind rides_none, g_recv K hw 3 rfl (by decide : 8 < 9) rfl rfl, g_pre (X2 := fun _ _ => True) K hw (fun _ _ _ => trivial)⟩ rfl rfl hl.1 rfl (lv_room (Nat.le_of_ble_eq_true rfl)) dX7_move_189 ⟨Nat.le_of_ble_eq_true rfl, Nat.le_of_ble_eq_true rfl⟩) (fun r u H locs hp hw => ?_)
                obtain ⟨rfl, hu⟩ := hp
                rw [hu] at hw
                refine lv_if_eq (tgt := 217) hx hb dX7_move_192 (by decide) (fun c91 => ?_) (fun c91 => ?_)
                · replace hm := (if_pos c91).symm.trans hm
                  exact g_vret (GG := GC cy ad) K hw (Option.some.inj hm).symm dX7_move_217
                · replace hm := (if_neg c91).symm.trans hm
                  refine lv_aload_n hx hb dX7_move_195 rfl (lv_at hl 1 rfl) ?_
                  refine lv_aload_n hx hb dX7_move_196 rfl (lv_at hl 2 rfl) ?_
                  refine lv_aload_n hx hb dX7_move_197 rfl (lv_at hl 3 rfl) ?_
                  refine lv_aload_n hx hb dX7_move_198 rfl (lv_at hl 1 rfl) ?_
                  refine g_get (ref := "MigrantHeap") (C := RX7) (T := TX7) (N := 11) (ci := 7) K in_X7_move_X7 hw 0 rfl (by decide : 0 < 1) rfl rfl 2 (by decide) (List.mem_of_getElem? (i := 14) rfl) rfl rfl dX7_move_199 ?_
                  refine lv_aload_n hx hb dX7_move_202 rfl (lv_at hl 3 rfl) ?_
                  refine g_get (ref := "MigrantHeap$Entry") (C := RX0) (T := TX0) (N := 6) (ci := 0) K in_X7_move_X0 hw 11 rfl hb_x2 rfl rfl 4 (by decide) (List.mem_of_getElem? (i := 4) rfl) rfl rfl dX7_move_203 ?_
                  refine lv_iload_n hx hb dX7_move_206 rfl (lv_at hl 0 rfl) ?_
                  obtain ⟨h92, hm⟩ := chkS hm
                  refine g_iald K hw 12 0 rfl hb_x2 rfl rfl h92 dX7_move_207 ?_
                  obtain ⟨z94, hc93, hm⟩ := bindS hm
                  refine g_callq (GG := GC cy ad) K hw (va_runV (As := [.int (S.1 17 x2 z62.toNatClampNeg)]) (rest := [.ref (ad 11 x2), .ref (ad 18 x1), .ref (ad 0 0)]) (g_fix K) (c_X6_find l D cy ad H.size n S (S.1 17 x2 z62.toNatClampNeg)  hc93) (cwV 1 (g_hts K) gX7_move_X6_find rfl rfl rfl (by decide +kernel) ⟨Nat.le_of_ble_eq_true rfl, Nat.le_of_ble_eq_true rfl⟩) ⟨g_blind rides_none, g_recv K hw 9 rfl (by decide : 0 < 1) rfl rfl, g_pre (X2 := fun _ _ => True) K hw (fun _ _ _ => trivial)⟩ rfl rfl hl.1 rfl (lv_room (Nat.le_of_ble_eq_true rfl)) dX7_move_208 ⟨Nat.le_of_ble_eq_true rfl, Nat.le_of_ble_eq_true rfl⟩) (fun r u H locs hp hw => ?_)
                  obtain ⟨rfl, hu⟩ := hp
                  rw [hu] at hw
                  rcases hq97 : z94 with _ | i95
                  · rw [hq97] at hm
                    replace hm := (optN _ _).symm.trans hm
                    refine W.eq (g2 := F0 m 211 ls (.null :: .ref (ad 11 x2) :: .ref (ad 18 x1) :: .ref (ad 0 0) :: [])) (by first | rfl | (rw [hq97]; rfl)) ?_
                    obtain ⟨z99, hc98, hm⟩ := bindS hm
                    refine g_callv (GG := GC cy ad) K hw (va_runV (As := [.ref (ad 18 x1), .ref (ad 11 x2), .null]) (rest := []) (g_fix K) (c_X7_joinBack_nul l D cy ad H.size n S x1 x2 hb_x1 hb_x2 hc98) (cwV 3 (g_hts K) gX7_move_X7_joinBack rfl rfl rfl (by decide +kernel) ⟨Nat.le_of_ble_eq_true rfl, Nat.le_of_ble_eq_true rfl⟩) ⟨g_blind rides_none, g_recv K hw 0 rfl (by decide : 0 < 1) rfl rfl, g_pre (X2 := fun _ _ => True) K hw (fun _ _ _ => trivial)⟩ rfl rfl hl.1 rfl (lv_room (Nat.le_of_ble_eq_true rfl)) dX7_move_211 ⟨Nat.le_of_ble_eq_true rfl, Nat.le_of_ble_eq_true rfl⟩) (fun u H locs hp hw => ?_)
                    rw [hp] at hw
                    refine lv_goto (tgt := 217) hx hb dX7_move_214 (by decide) ?_
                    exact g_vret (GG := GC cy ad) K hw (Option.some.inj hm).symm dX7_move_217
                  · rw [hq97] at hm
                    replace hm := (optS _ _ _).symm.trans hm
                    obtain ⟨h96, hm⟩ := chkS hm
                    replace h96 := of_decide_eq_true h96
                    refine W.eq (g2 := F0 m 211 ls (.ref (ad 11 i95) :: .ref (ad 11 x2) :: .ref (ad 18 x1) :: .ref (ad 0 0) :: [])) (by first | rfl | (rw [hq97]; rfl)) ?_
                    obtain ⟨z101, hc100, hm⟩ := bindS hm
                    refine g_callv (GG := GC cy ad) K hw (va_runV (As := [.ref (ad 18 x1), .ref (ad 11 x2), .ref (ad 11 i95)]) (rest := []) (g_fix K) (c_X7_joinBack l D cy ad H.size n S x1 x2 i95 hb_x1 hb_x2 h96 hc100) (cwV 3 (g_hts K) gX7_move_X7_joinBack rfl rfl rfl (by decide +kernel) ⟨Nat.le_of_ble_eq_true rfl, Nat.le_of_ble_eq_true rfl⟩) ⟨g_blind rides_EV, g_recv K hw 0 rfl (by decide : 0 < 1) rfl rfl, g_pre K hw (g_ride rides_EV K hw)⟩ rfl rfl hl.1 rfl (lv_room (Nat.le_of_ble_eq_true rfl)) dX7_move_211 ⟨Nat.le_of_ble_eq_true rfl, Nat.le_of_ble_eq_true rfl⟩) (fun u H locs hp hw => ?_)
                    obtain rfl := hp
                    refine lv_goto (tgt := 217) hx hb dX7_move_214 (by decide) ?_
                    exact g_vret (GG := GC cy ad) K hw (Option.some.inj hm).symm dX7_move_217
              · replace hm := (if_neg c88).symm.trans hm
                have hsw102 : Int32.toInt (S.1 22 x1 0) < 0 ∨ 6 < Int32.toInt (S.1 22 x1 0) := by
                  refine sw_out (fun k h1 h2 => ?_)
                  rcases (show k = 0 ∨ k = 1 ∨ k = 2 ∨ k = 3 ∨ k = 4 ∨ k = 5 ∨ k = 6 by omega) with rfl | rfl | rfl | rfl | rfl | rfl | rfl
                  · exact c63
                  · exact c66
                  · exact c67
                  · exact c75
                  · exact c82
                  · exact c85
                  · exact c88
                refine lv_tableOut (tgt := 217) hx hb dX7_move_16 hsw102 (by decide) ?_
                exact g_vret (GG := GC cy ad) K hw (Option.some.inj hm).symm dX7_move_217
set_option maxRecDepth 100000 in
set_option maxHeartbeats 4000000 in
theorem c_X7_move (l : Launch) (D : va_G) (cy : Nat → ClassId) (ad : Nat → Nat → Nat) (sz n : Nat) (S : CSt) (x1 : Nat) (x2 : Nat) (hb_x1 : x1 < 6) (hb_x2 : x2 < 24) {out : CSt} (hm : m_X7_move n S x1 x2 = some out) : Met l yX7_move wsX7_move rm_X7_move (va_Pc [.ref (ad 0 0), .ref (ad 18 x1), .ref (ad 11 x2)] (Pre D (tysC cy) (GC cy ad S) EV sz)) (va_Qv (fun (u : CSt) => out = u) (fun u => Pst D (tysC cy) (AA (adrs (GC cy ad S)) sz) (GC cy ad u)) (AA (adrs (GC cy ad S)) sz)) 0 0 (AA (adrs (GC cy ad S)) sz) := by
  refine g_met (by decide) rfl (Nat.le_of_ble_eq_true rfl) ?_
  intro p e s m args below meth c K hw ls hl
  exact t_X7_move_0 (cy := cy) K n S x1 x2 hb_x1 hb_x2 hm _ _ hw ls hl
end W_X7_move
section W_X7_moveAll
variable {p : Program} {l : Launch} {e : Env} {s : State} {m : MethodId} {args : Array Value} {below : List Frame} {meth : Method} {c : Code} {D : va_G} {A : Nat → Prop} {cy : Nat → ClassId} {ad : Nat → Nat → Nat} {Q : State → Prop}
abbrev rm_X7_moveAll : Room := { frames := 5, cells := 0, slots := 0, locals := 131 }
theorem in_X7_moveAll_X6 : ∀ w ∈ u_ws RX6 TX6 3, w ∈ wsX7_moveAll := by decide +kernel
theorem in_X7_moveAll_X7 : ∀ w ∈ u_ws RX7 TX7 11, w ∈ wsX7_moveAll := by decide +kernel
set_option maxRecDepth 100000 in
set_option maxHeartbeats 4000000 in
theorem t_X7_moveAll_L2 (K : Cx p s m args meth c D A (tysC cy) RX7 cX7_moveAll 5 none wsX7_moveAll EV) (n : Nat) (x1 : Nat) (x2 : Int32) (hb_x1 : x1 < 6) (z : CSt) (hE0 : ∀ w : CSt, z = w → ∀ (H : Heap) (locs : List Loc), Wd D A s.heap (GC cy ad w) H locs → ∀ ls : Array Slot, lv_has ls 5 [] → W p l e rm_X7_moveAll s m args below meth c H locs 0 0 Q (F0 m 41 ls [])) : ∀ (x : (CSt × Int32)), lpO (b_X7_moveAll_2 n x1 x2) n x = some z → (fun (x : (CSt × Int32)) => ∀ (H : Heap) (locs : List Loc), Wd D A s.heap (GC cy ad x.1) H locs → ∀ ls : Array Slot, lv_has ls 5 [(0, .ref (ad 0 0)), (1, .ref (ad 18 x1)), (2, .int x2), (3, .int x.2)] → W p l e rm_X7_moveAll s m args below meth c H locs 0 0 Q (F0 m 2 ls [])) x := by
  intro x hx0
  refine lpO_ind2 (P := fun (x : (CSt × Int32)) => ∀ (H : Heap) (locs : List Loc), Wd D A s.heap (GC cy ad x.1) H locs → ∀ ls : Array Slot, lv_has ls 5 [(0, .ref (ad 0 0)), (1, .ref (ad 18 x1)), (2, .int x2), (3, .int x.2)] → W p l e rm_X7_moveAll s m args below meth c H locs 0 0 Q (F0 m 2 ls [])) (z := z) ?_ n x hx0
  clear hx0 x
  intro x out hm hg H locs hw ls hl 
  obtain ⟨hx, hb, hml, hown, hts, hr, hlo, hK, hA, hX⟩ := id K
  unfold b_X7_moveAll_2 at hm
  refine lv_iload_n hx hb dX7_moveAll_2 rfl (lv_at hl 3 rfl) ?_
  refine lv_bipush (v := 24) hx hb dX7_moveAll_3 (by decide) ?_
  refine lv_icmp_ge (tgt := 41) hx hb dX7_moveAll_5 (by decide) (fun c21 => ?_) (fun c21 => ?_)
  · replace hm := (if_pos c21).symm.trans hm
    obtain rfl := Option.some.inj hm
    exact hE0 _ hg.symm H locs hw ls (lv_sub hl [] rfl)
  · replace hm := (if_neg c21).symm.trans hm
    refine lv_aload_n hx hb dX7_moveAll_8 rfl (lv_at hl 0 rfl) ?_
    refine g_get (ref := "MigrantHeap") (C := RX7) (T := TX7) (N := 11) (ci := 7) K in_X7_moveAll_X7 hw 0 rfl (by decide : 0 < 1) rfl rfl 2 (by decide) (List.mem_of_getElem? (i := 1) rfl) rfl rfl dX7_moveAll_9 ?_
    refine g_get (ref := "MigrantHeap$Store") (C := RX6) (T := TX6) (N := 3) (ci := 6) K in_X7_moveAll_X6 hw 9 rfl (by decide : 0 < 1) rfl rfl 0 (by decide) (List.mem_of_getElem? (i := 2) rfl) rfl rfl dX7_moveAll_12 ?_
    refine lv_iload_n hx hb dX7_moveAll_15 rfl (lv_at hl 3 rfl) ?_
    obtain ⟨h22, hm⟩ := chkS hm
    refine g_aald K hw 10 3 rfl (by decide) rfl rfl h22 dX7_moveAll_16 ?_
    refine lv_astore (lv' := [(4, .ref (ad 11 x.2.toNatClampNeg)), (0, .ref (ad 0 0)), (1, .ref (ad 18 x1)), (2, .int x2), (3, .int x.2)]) hx hb dX7_moveAll_17 hl (by decide) rfl (fun ls hl => ?_)
    refine lv_aload hx hb dX7_moveAll_19 (lv_at hl 0 rfl) ?_
    refine lv_iload_n hx hb dX7_moveAll_21 rfl (lv_at hl 3 rfl) ?_
    obtain ⟨z24, hc23, hm⟩ := bindS hm
    refine g_calli (GG := GC cy ad) K hw (va_runV (As := [.int x2]) (rest := []) (g_fix K) (c_X0_isOf l D cy ad H.size n x.1 x.2.toNatClampNeg x2 (inB_lt h22) hc23) (cwV 1 (g_hts K) gX7_moveAll_X0_isOf rfl rfl rfl (by decide +kernel) ⟨Nat.le_of_ble_eq_true rfl, Nat.le_of_ble_eq_true rfl⟩) ⟨g_blind rides_none, g_recv K hw 11 rfl (inB_lt h22) rfl rfl, g_pre (X2 := fun _ _ => True) K hw (fun _ _ _ => trivial)⟩ rfl rfl hl.1 rfl (lv_room (Nat.le_of_ble_eq_true rfl)) dX7_moveAll_22 ⟨Nat.le_of_ble_eq_true rfl, Nat.le_of_ble_eq_true rfl⟩) (fun r u H locs hp hw => ?_)
    obtain ⟨rfl, hu⟩ := hp
    rw [hu] at hw
    refine lv_if_eq (tgt := 35) hx hb dX7_moveAll_25 (by decide) (fun c25 => ?_) (fun c25 => ?_)
    · replace hm := (if_pos c25).symm.trans hm
      obtain ⟨x26, hx26, hm⟩ := nm_ex hm
      refine lv_iinc (v := x26) (lv' := [(3, .int x26), (4, .ref (ad 11 x.2.toNatClampNeg)), (0, .ref (ad 0 0)), (1, .ref (ad 18 x1)), (2, .int x2)]) hx hb dX7_moveAll_35 hl (k := 4) rfl (by rw [hx26]; rfl) (by decide) rfl (fun ls hl => ?_)
      refine lv_goto (tgt := 2) hx hb dX7_moveAll_38 (by decide) ?_
      obtain rfl := Option.some.inj hm
      exact hg H locs hw ls (lv_sub hl [2, 3, 4, 0] rfl)
    · replace hm := (if_neg c25).symm.trans hm
      refine lv_aload_n hx hb dX7_moveAll_28 rfl (lv_at hl 1 rfl) ?_
      refine lv_aload_n hx hb dX7_moveAll_29 rfl (lv_at hl 2 rfl) ?_
      refine lv_aload hx hb dX7_moveAll_30 (lv_at hl 0 rfl) ?_
      obtain ⟨z28, hc27, hm⟩ := bindS hm
      refine g_callv (GG := GC cy ad) K hw (va_runV (As := [.ref (ad 18 x1), .ref (ad 11 x.2.toNatClampNeg)]) (rest := []) (g_fix K) (c_X7_move l D cy ad H.size n x.1 x1 x.2.toNatClampNeg hb_x1 (inB_lt h22) hc27) (cwV 2 (g_hts K) gX7_moveAll_X7_move rfl rfl rfl (by decide +kernel) ⟨Nat.le_of_ble_eq_true rfl, Nat.le_of_ble_eq_true rfl⟩) ⟨g_blind rides_EV, g_recv K hw 0 rfl (by decide : 0 < 1) rfl rfl, g_pre K hw (g_ride rides_EV K hw)⟩ rfl rfl hl.1 rfl (lv_room (Nat.le_of_ble_eq_true rfl)) dX7_moveAll_32 ⟨Nat.le_of_ble_eq_true rfl, Nat.le_of_ble_eq_true rfl⟩) (fun u H locs hp hw => ?_)
      obtain rfl := hp
      obtain ⟨x29, hx29, hm⟩ := nm_ex hm
      refine lv_iinc (v := x29) (lv' := [(3, .int x29), (4, .ref (ad 11 x.2.toNatClampNeg)), (0, .ref (ad 0 0)), (1, .ref (ad 18 x1)), (2, .int x2)]) hx hb dX7_moveAll_35 hl (k := 4) rfl (by rw [hx29]; rfl) (by decide) rfl (fun ls hl => ?_)
      refine lv_goto (tgt := 2) hx hb dX7_moveAll_38 (by decide) ?_
      obtain rfl := Option.some.inj hm
      exact hg H locs hw ls (lv_sub hl [2, 3, 4, 0] rfl)
set_option maxRecDepth 100000 in
set_option maxHeartbeats 4000000 in
theorem t_X7_moveAll_0 (K : Cx p s m args meth c D A (tysC cy) RX7 cX7_moveAll 5 none wsX7_moveAll EV) (n : Nat) (S : CSt) (x1 : Nat) (x2 : Int32) (hb_x1 : x1 < 6) {out : CSt} (hm : m_X7_moveAll n S x1 x2 = some out) : ∀ (H : Heap) (locs : List Loc), Wd D A s.heap (GC cy ad S) H locs → ∀ ls : Array Slot, lv_has ls 5 [(0, .ref (ad 0 0)), (1, .ref (ad 18 x1)), (2, .int x2)] → W p l e rm_X7_moveAll s m args below meth c H locs 0 0 (MQ below (va_Qv (fun (u : CSt) => out = u) (fun u => Pst D (tysC cy) A (GC cy ad u)) A) args s 0 0 A) (F0 m 0 ls []) := by
  intro H locs hw ls hl
  obtain ⟨hx, hb, hml, hown, hts, hr, hlo, hK, hA, hX⟩ := id K
  unfold m_X7_moveAll at hm
  refine lv_iconst (v := 0) hx hb dX7_moveAll_0 (by decide) ?_
  refine lv_istore_n (lv' := [(3, .int 0), (0, .ref (ad 0 0)), (1, .ref (ad 18 x1)), (2, .int x2)]) hx hb dX7_moveAll_1 rfl hl (by decide) rfl (fun ls hl => ?_)
  obtain ⟨z30, hz31, hm⟩ := bindS hm
  refine t_X7_moveAll_L2 K n x1 x2 hb_x1 z30 (fun w32 hww32 => ?_) ((S, 0)) hz31 H locs hw ls (lv_sub hl [1, 2, 3, 0] rfl)
  · intro H locs hw ls hl 
    try rw [hww32] at hm
    exact g_vret (GG := GC cy ad) K hw (Option.some.inj hm).symm dX7_moveAll_41
set_option maxRecDepth 100000 in
set_option maxHeartbeats 4000000 in
theorem c_X7_moveAll (l : Launch) (D : va_G) (cy : Nat → ClassId) (ad : Nat → Nat → Nat) (sz n : Nat) (S : CSt) (x1 : Nat) (x2 : Int32) (hb_x1 : x1 < 6) {out : CSt} (hm : m_X7_moveAll n S x1 x2 = some out) : Met l yX7_moveAll wsX7_moveAll rm_X7_moveAll (va_Pc [.ref (ad 0 0), .ref (ad 18 x1), .int x2] (Pre D (tysC cy) (GC cy ad S) EV sz)) (va_Qv (fun (u : CSt) => out = u) (fun u => Pst D (tysC cy) (AA (adrs (GC cy ad S)) sz) (GC cy ad u)) (AA (adrs (GC cy ad S)) sz)) 0 0 (AA (adrs (GC cy ad S)) sz) := by
  refine g_met (by decide) rfl (Nat.le_of_ble_eq_true rfl) ?_
  intro p e s m args below meth c K hw ls hl
  exact t_X7_moveAll_0 (cy := cy) K n S x1 x2 hb_x1 hm _ _ hw ls hl
end W_X7_moveAll
section W_X7_carryOut
variable {p : Program} {l : Launch} {e : Env} {s : State} {m : MethodId} {args : Array Value} {below : List Frame} {meth : Method} {c : Code} {D : va_G} {A : Nat → Prop} {cy : Nat → ClassId} {ad : Nat → Nat → Nat} {Q : State → Prop}
abbrev rm_X7_carryOut : Room := { frames := 6, cells := 0, slots := 0, locals := 155 }
theorem in_X7_carryOut_X2 : ∀ w ∈ u_ws RX2 TX2 4, w ∈ wsX7_carryOut := by decide +kernel
theorem in_X7_carryOut_X5 : ∀ w ∈ u_ws RX5 TX5 6, w ∈ wsX7_carryOut := by decide +kernel
theorem in_X7_carryOut_X7 : ∀ w ∈ u_ws RX7 TX7 11, w ∈ wsX7_carryOut := by decide +kernel
set_option maxRecDepth 100000 in
set_option maxHeartbeats 4000000 in
theorem t_X7_carryOut_J93 (K : Cx p s m args meth c D A (tysC cy) RX7 cX7_carryOut 7 none wsX7_carryOut EV) (n : Nat) (S : CSt) (x1 : Int32) (x2 : Int32) (x3 : Nat) (x4 : Int32) (x5 : Int32) (x6 : Nat) {out : (CSt × Int32 × Int32) ⊕ (CSt × Int32)} {z : (CSt × Int32)} (hm : m_X7_carryOut_J93 n S x1 x2 x3 x4 x5 x6 = some out) (hg : Gd (fun (x : (CSt × Int32 × Int32)) => ∀ (H : Heap) (locs : List Loc), Wd D A s.heap (GC cy ad x.1) H locs → ∀ ls : Array Slot, lv_has ls 7 [(0, .ref (ad 0 0)), (1, .int x1), (2, .int x2), (3, .ref (ad 2 x3)), (4, .int x.2.1), (5, .int x.2.2)] → W p l e rm_X7_carryOut s m args below meth c H locs 0 0 Q (F0 m 43 ls [])) z out) (hE0 : ∀ w : (CSt × Int32), z = w → ∀ (H : Heap) (locs : List Loc), Wd D A s.heap (GC cy ad w.1) H locs → ∀ ls : Array Slot, lv_has ls 7 [(0, .ref (ad 0 0)), (3, .ref (ad 2 x3)), (4, .int w.2)] → W p l e rm_X7_carryOut s m args below meth c H locs 0 0 Q (F0 m 112 ls [])) : ∀ (H : Heap) (locs : List Loc), Wd D A s.heap (GC cy ad S) H locs → ∀ ls : Array Slot, lv_has ls 7 [(0, .ref (ad 0 0)), (1, .int x1), (2, .int x2), (3, .ref (ad 2 x3)), (4, .int x4), (5, .int x5), (6, .ref (ad 18 x6))] → (x3 < 4) → (x6 < 6) → W p l e rm_X7_carryOut s m args below meth c H locs 0 0 Q (F0 m 93 ls []) := by
  intro H locs hw ls hl hb_x3 hb_x6
  obtain ⟨hx, hb, hml, hown, hts, hr, hlo, hK, hA, hX⟩ := id K
  unfold m_X7_carryOut_J93 at hm
  refine lv_aload_n hx hb dX7_carryOut_93 rfl (lv_at hl 0 rfl) ?_
  refine lv_aload hx hb dX7_carryOut_94 (lv_at hl 6 rfl) ?_
  refine lv_iload_n hx hb dX7_carryOut_96 rfl (lv_at hl 1 rfl) ?_
  obtain ⟨z59, hc58, hm⟩ := bindS hm
  refine g_callv (GG := GC cy ad) K hw (va_runV (As := [.ref (ad 18 x6), .int x1]) (rest := []) (g_fix K) (c_X7_moveAll l D cy ad H.size n S x6 x1 hb_x6 hc58) (cwV 2 (g_hts K) gX7_carryOut_X7_moveAll rfl rfl rfl (by decide +kernel) ⟨Nat.le_of_ble_eq_true rfl, Nat.le_of_ble_eq_true rfl⟩) ⟨g_blind rides_EV, g_recv K hw 0 rfl (by decide : 0 < 1) rfl rfl, g_pre K hw (g_ride rides_EV K hw)⟩ rfl rfl hl.1 rfl (lv_room (Nat.le_of_ble_eq_true rfl)) dX7_carryOut_97 ⟨Nat.le_of_ble_eq_true rfl, Nat.le_of_ble_eq_true rfl⟩) (fun u H locs hp hw => ?_)
  obtain rfl := hp
  refine lv_aload_n hx hb dX7_carryOut_100 rfl (lv_at hl 0 rfl) ?_
  refine lv_aload hx hb dX7_carryOut_101 (lv_at hl 6 rfl) ?_
  obtain ⟨z61, hc60, hm⟩ := bindS hm
  refine g_callv (GG := GC cy ad) K hw (va_runV (As := [.ref (ad 18 x6)]) (rest := []) (g_fix K) (c_X7_reshape l D cy ad H.size n z59 x6 hb_x6 hc60) (cwV 1 (g_hts K) gX7_carryOut_X7_reshape rfl rfl rfl (by decide +kernel) ⟨Nat.le_of_ble_eq_true rfl, Nat.le_of_ble_eq_true rfl⟩) ⟨g_blind rides_EV, g_recv K hw 0 rfl (by decide : 0 < 1) rfl rfl, g_pre K hw (g_ride rides_EV K hw)⟩ rfl rfl hl.1 rfl (lv_room (Nat.le_of_ble_eq_true rfl)) dX7_carryOut_103 ⟨Nat.le_of_ble_eq_true rfl, Nat.le_of_ble_eq_true rfl⟩) (fun u H locs hp hw => ?_)
  obtain rfl := hp
  obtain ⟨x62, hx62, hm⟩ := nm_ex hm
  refine lv_iinc (v := x62) (lv' := [(5, .int x62), (0, .ref (ad 0 0)), (1, .int x1), (2, .int x2), (3, .ref (ad 2 x3)), (4, .int x4), (6, .ref (ad 18 x6))]) hx hb dX7_carryOut_106 hl (k := 5) rfl (by rw [hx62]; rfl) (by decide) rfl (fun ls hl => ?_)
  refine lv_goto (tgt := 43) hx hb dX7_carryOut_109 (by decide) ?_
  obtain rfl := Option.some.inj hm
  exact hg H locs hw ls (lv_sub hl [1, 2, 3, 4, 5, 0] rfl)
set_option maxRecDepth 100000 in
set_option maxHeartbeats 4000000 in
theorem t_X7_carryOut_J84 (K : Cx p s m args meth c D A (tysC cy) RX7 cX7_carryOut 7 none wsX7_carryOut EV) (n : Nat) (S : CSt) (x1 : Int32) (x2 : Int32) (x3 : Nat) (x5 : Int32) (x6 : Nat) {out : (CSt × Int32 × Int32) ⊕ (CSt × Int32)} {z : (CSt × Int32)} (hm : m_X7_carryOut_J84 n S x1 x2 x3 x5 x6 = some out) (hg : Gd (fun (x : (CSt × Int32 × Int32)) => ∀ (H : Heap) (locs : List Loc), Wd D A s.heap (GC cy ad x.1) H locs → ∀ ls : Array Slot, lv_has ls 7 [(0, .ref (ad 0 0)), (1, .int x1), (2, .int x2), (3, .ref (ad 2 x3)), (4, .int x.2.1), (5, .int x.2.2)] → W p l e rm_X7_carryOut s m args below meth c H locs 0 0 Q (F0 m 43 ls [])) z out) (hE0 : ∀ w : (CSt × Int32), z = w → ∀ (H : Heap) (locs : List Loc), Wd D A s.heap (GC cy ad w.1) H locs → ∀ ls : Array Slot, lv_has ls 7 [(0, .ref (ad 0 0)), (3, .ref (ad 2 x3)), (4, .int w.2)] → W p l e rm_X7_carryOut s m args below meth c H locs 0 0 Q (F0 m 112 ls [])) : ∀ (H : Heap) (locs : List Loc), Wd D A s.heap (GC cy ad S) H locs → ∀ ls : Array Slot, lv_has ls 7 [(0, .ref (ad 0 0)), (1, .int x1), (2, .int x2), (3, .ref (ad 2 x3)), (5, .int x5), (6, .ref (ad 18 x6))] → (x3 < 4) → (x6 < 6) → W p l e rm_X7_carryOut s m args below meth c H locs 0 0 Q (F0 m 84 ls []) := by
  intro H locs hw ls hl hb_x3 hb_x6
  obtain ⟨hx, hb, hml, hown, hts, hr, hlo, hK, hA, hX⟩ := id K
  unfold m_X7_carryOut_J84 at hm
  refine lv_iconst (v := 0) hx hb dX7_carryOut_84 (by decide) ?_
  refine lv_istore (lv' := [(4, .int 0), (0, .ref (ad 0 0)), (1, .int x1), (2, .int x2), (3, .ref (ad 2 x3)), (5, .int x5), (6, .ref (ad 18 x6))]) hx hb dX7_carryOut_85 hl (by decide) rfl (fun ls hl => ?_)
  refine lv_aload_n hx hb dX7_carryOut_87 rfl (lv_at hl 1 rfl) ?_
  refine lv_aload hx hb dX7_carryOut_88 (lv_at hl 6 rfl) ?_
  obtain ⟨z64, hc63, hm⟩ := bindS hm
  refine g_callv (GG := GC cy ad) K hw (va_runV (As := [.ref (ad 18 x6)]) (rest := []) (g_fix K) (c_X7_barTakeBackOfPart l D cy ad H.size n S x6 hb_x6 hc63) (cwV 1 (g_hts K) gX7_carryOut_X7_barTakeBackOfPart rfl rfl rfl (by decide +kernel) ⟨Nat.le_of_ble_eq_true rfl, Nat.le_of_ble_eq_true rfl⟩) ⟨g_blind rides_none, g_recv K hw 0 rfl (by decide : 0 < 1) rfl rfl, g_pre (X2 := fun _ _ => True) K hw (fun _ _ _ => trivial)⟩ rfl rfl hl.1 rfl (lv_room (Nat.le_of_ble_eq_true rfl)) dX7_carryOut_90 ⟨Nat.le_of_ble_eq_true rfl, Nat.le_of_ble_eq_true rfl⟩) (fun u H locs hp hw => ?_)
  obtain rfl := hp
  exact t_X7_carryOut_J93 K n z64 x1 x2 x3 0 x5 x6 hm hg hE0 H locs hw ls (lv_sub hl [1, 2, 3, 4, 0, 5, 6] rfl) hb_x3 hb_x6
set_option maxRecDepth 100000 in
set_option maxHeartbeats 4000000 in
theorem t_X7_carryOut_L43 (K : Cx p s m args meth c D A (tysC cy) RX7 cX7_carryOut 7 none wsX7_carryOut EV) (n : Nat) (x1 : Int32) (x2 : Int32) (x3 : Nat) (hb_x3 : x3 < 4) (z : (CSt × Int32)) (hE0 : ∀ w : (CSt × Int32), z = w → ∀ (H : Heap) (locs : List Loc), Wd D A s.heap (GC cy ad w.1) H locs → ∀ ls : Array Slot, lv_has ls 7 [(0, .ref (ad 0 0)), (3, .ref (ad 2 x3)), (4, .int w.2)] → W p l e rm_X7_carryOut s m args below meth c H locs 0 0 Q (F0 m 112 ls [])) : ∀ (x : (CSt × Int32 × Int32)), lpO (b_X7_carryOut_43 n x1 x2 x3) n x = some z → (fun (x : (CSt × Int32 × Int32)) => ∀ (H : Heap) (locs : List Loc), Wd D A s.heap (GC cy ad x.1) H locs → ∀ ls : Array Slot, lv_has ls 7 [(0, .ref (ad 0 0)), (1, .int x1), (2, .int x2), (3, .ref (ad 2 x3)), (4, .int x.2.1), (5, .int x.2.2)] → W p l e rm_X7_carryOut s m args below meth c H locs 0 0 Q (F0 m 43 ls [])) x := by
  intro x hx0
  refine lpO_ind2 (P := fun (x : (CSt × Int32 × Int32)) => ∀ (H : Heap) (locs : List Loc), Wd D A s.heap (GC cy ad x.1) H locs → ∀ ls : Array Slot, lv_has ls 7 [(0, .ref (ad 0 0)), (1, .int x1), (2, .int x2), (3, .ref (ad 2 x3)), (4, .int x.2.1), (5, .int x.2.2)] → W p l e rm_X7_carryOut s m args below meth c H locs 0 0 Q (F0 m 43 ls [])) (z := z) ?_ n x hx0
  clear hx0 x
  intro x out hm hg H locs hw ls hl 
  obtain ⟨hx, hb, hml, hown, hts, hr, hlo, hK, hA, hX⟩ := id K
  unfold b_X7_carryOut_43 at hm
  refine lv_iload hx hb dX7_carryOut_43 (lv_at hl 5 rfl) ?_
  refine lv_iload_n hx hb dX7_carryOut_45 rfl (lv_at hl 2 rfl) ?_
  refine lv_icmp_ge (tgt := 112) hx hb dX7_carryOut_46 (by decide) (fun c65 => ?_) (fun c65 => ?_)
  · replace hm := (if_pos c65).symm.trans hm
    obtain rfl := Option.some.inj hm
    exact hE0 _ hg.symm H locs hw ls (lv_sub hl [0, 3, 4] rfl)
  · replace hm := (if_neg c65).symm.trans hm
    refine lv_iload hx hb dX7_carryOut_49 (lv_at hl 5 rfl) ?_
    refine lv_bipush (v := 6) hx hb dX7_carryOut_51 (by decide) ?_
    refine lv_icmp_ge (tgt := 112) hx hb dX7_carryOut_53 (by decide) (fun c66 => ?_) (fun c66 => ?_)
    · replace hm := (if_pos c66).symm.trans hm
      obtain rfl := Option.some.inj hm
      exact hE0 _ hg.symm H locs hw ls (lv_sub hl [0, 3, 4] rfl)
    · replace hm := (if_neg c66).symm.trans hm
      refine lv_aload_n hx hb dX7_carryOut_56 rfl (lv_at hl 0 rfl) ?_
      refine g_get (ref := "MigrantHeap") (C := RX7) (T := TX7) (N := 11) (ci := 7) K in_X7_carryOut_X7 hw 0 rfl (by decide : 0 < 1) rfl rfl 5 (by decide) (List.mem_of_getElem? (i := 6) rfl) rfl rfl dX7_carryOut_57 ?_
      refine lv_iload hx hb dX7_carryOut_60 (lv_at hl 5 rfl) ?_
      obtain ⟨h67, hm⟩ := chkS hm
      refine g_aald K hw 17 5 rfl (by decide) rfl rfl h67 dX7_carryOut_62 ?_
      refine lv_astore (lv' := [(6, .ref (ad 18 x.2.2.toNatClampNeg)), (0, .ref (ad 0 0)), (1, .int x1), (2, .int x2), (3, .ref (ad 2 x3)), (4, .int x.2.1), (5, .int x.2.2)]) hx hb dX7_carryOut_63 hl (by decide) rfl (fun ls hl => ?_)
      refine lv_aload hx hb dX7_carryOut_65 (lv_at hl 0 rfl) ?_
      refine g_get (ref := "MigrantHeap$Step") (C := RX5) (T := TX5) (N := 6) (ci := 5) K in_X7_carryOut_X5 hw 18 rfl (inB_lt h67) rfl rfl 0 (by decide) (List.mem_of_getElem? (i := 7) rfl) rfl rfl dX7_carryOut_67 ?_
      refine lv_iconst (v := 5) hx hb dX7_carryOut_70 (by decide) ?_
      refine lv_icmp_eq (tgt := 84) hx hb dX7_carryOut_71 (by decide) (fun c68 => ?_) (fun c68 => ?_)
      · replace hm := (if_pos c68).symm.trans hm
        exact t_X7_carryOut_J84 K n x.1 x1 x2 x3 x.2.2 x.2.2.toNatClampNeg hm hg hE0 H locs hw ls (lv_sub hl [1, 2, 3, 4, 6, 0] rfl) hb_x3 (inB_lt h67)
      · replace hm := (if_neg c68).symm.trans hm
        refine lv_aload hx hb dX7_carryOut_74 (lv_at hl 0 rfl) ?_
        refine g_get (ref := "MigrantHeap$Step") (C := RX5) (T := TX5) (N := 6) (ci := 5) K in_X7_carryOut_X5 hw 18 rfl (inB_lt h67) rfl rfl 0 (by decide) (List.mem_of_getElem? (i := 7) rfl) rfl rfl dX7_carryOut_76 ?_
        refine lv_bipush (v := 6) hx hb dX7_carryOut_79 (by decide) ?_
        refine lv_icmp_ne (tgt := 93) hx hb dX7_carryOut_81 (by decide) (fun c69 => ?_) (fun c69 => ?_)
        · replace hm := (if_pos c69).symm.trans hm
          exact t_X7_carryOut_J93 K n x.1 x1 x2 x3 x.2.1 x.2.2 x.2.2.toNatClampNeg hm hg hE0 H locs hw ls (lv_sub hl [1, 2, 3, 4, 5, 6, 0] rfl) hb_x3 (inB_lt h67)
        · replace hm := (if_neg (fun h => h c69)).symm.trans hm
          exact t_X7_carryOut_J84 K n x.1 x1 x2 x3 x.2.2 x.2.2.toNatClampNeg hm hg hE0 H locs hw ls (lv_sub hl [1, 2, 3, 4, 6, 0] rfl) hb_x3 (inB_lt h67)
set_option maxRecDepth 100000 in
set_option maxHeartbeats 4000000 in
theorem t_X7_carryOut_0 (K : Cx p s m args meth c D A (tysC cy) RX7 cX7_carryOut 7 none wsX7_carryOut EV) (n : Nat) (S : CSt) (x1 : Int32) (x2 : Int32)  {out : CSt} (hm : m_X7_carryOut n S x1 x2 = some out) : ∀ (H : Heap) (locs : List Loc), Wd D A s.heap (GC cy ad S) H locs → ∀ ls : Array Slot, lv_has ls 7 [(0, .ref (ad 0 0)), (1, .int x1), (2, .int x2)] → W p l e rm_X7_carryOut s m args below meth c H locs 0 0 (MQ below (va_Qv (fun (u : CSt) => out = u) (fun u => Pst D (tysC cy) A (GC cy ad u)) A) args s 0 0 A) (F0 m 0 ls []) := by
  intro H locs hw ls hl
  obtain ⟨hx, hb, hml, hown, hts, hr, hlo, hK, hA, hX⟩ := id K
  unfold m_X7_carryOut at hm
  refine lv_aload_n hx hb dX7_carryOut_0 rfl (lv_at hl 0 rfl) ?_
  refine g_get (ref := "MigrantHeap") (C := RX7) (T := TX7) (N := 11) (ci := 7) K in_X7_carryOut_X7 hw 0 rfl (by decide : 0 < 1) rfl rfl 0 (by decide) (List.mem_of_getElem? (i := 1) rfl) rfl rfl dX7_carryOut_1 ?_
  refine lv_iload_n hx hb dX7_carryOut_4 rfl (lv_at hl 1 rfl) ?_
  obtain ⟨h70, hm⟩ := chkS hm
  refine g_aald K hw 1 4 rfl (by decide) rfl rfl h70 dX7_carryOut_5 ?_
  refine lv_astore_n (lv' := [(3, .ref (ad 2 x1.toNatClampNeg)), (0, .ref (ad 0 0)), (1, .int x1), (2, .int x2)]) hx hb dX7_carryOut_6 rfl hl (by decide) rfl (fun ls hl => ?_)
  refine lv_aload_n hx hb dX7_carryOut_7 rfl (lv_at hl 0 rfl) ?_
  refine g_get (ref := "MigrantHeap$Kind") (C := RX2) (T := TX2) (N := 4) (ci := 2) K in_X7_carryOut_X2 hw 2 rfl (inB_lt h70) rfl rfl 3 (by decide) (List.mem_of_getElem? (i := 2) rfl) rfl rfl dX7_carryOut_8 ?_
  refine lv_aload_n hx hb dX7_carryOut_11 rfl (lv_at hl 0 rfl) ?_
  refine g_get (ref := "MigrantHeap$Kind") (C := RX2) (T := TX2) (N := 4) (ci := 2) K in_X7_carryOut_X2 hw 2 rfl (inB_lt h70) rfl rfl 2 (by decide) (List.mem_of_getElem? (i := 3) rfl) rfl rfl dX7_carryOut_12 ?_
  obtain ⟨z72, hc71, hm⟩ := bindS hm
  refine g_callv (GG := GC cy ad) K hw (va_runV (As := [.ref (ad 3 (2 * x1.toNatClampNeg))]) (rest := []) (g_fix K) (c_X4_copyFrom l D cy ad H.size n S (2 * x1.toNatClampNeg + 1) (2 * x1.toNatClampNeg) (by have := (inB_lt h70); omega : (2 * x1.toNatClampNeg + 1) < 9) (by have := (inB_lt h70); omega : (2 * x1.toNatClampNeg) < 9) hc71) (cwV 1 (g_hts K) gX7_carryOut_X4_copyFrom rfl rfl rfl (by decide +kernel) ⟨Nat.le_of_ble_eq_true rfl, Nat.le_of_ble_eq_true rfl⟩) ⟨g_blind rides_none, g_recv K hw 3 rfl (by have := (inB_lt h70); omega : (2 * x1.toNatClampNeg + 1) < 9) rfl rfl, g_pre (X2 := fun _ _ => True) K hw (fun _ _ _ => trivial)⟩ rfl rfl hl.1 rfl (lv_room (Nat.le_of_ble_eq_true rfl)) dX7_carryOut_15 ⟨Nat.le_of_ble_eq_true rfl, Nat.le_of_ble_eq_true rfl⟩) (fun u H locs hp hw => ?_)
  obtain rfl := hp
  refine lv_aload_n hx hb dX7_carryOut_18 rfl (lv_at hl 1 rfl) ?_
  refine g_get (ref := "MigrantHeap") (C := RX7) (T := TX7) (N := 11) (ci := 7) K in_X7_carryOut_X7 hw 0 rfl (by decide : 0 < 1) rfl rfl 2 (by decide) (List.mem_of_getElem? (i := 4) rfl) rfl rfl dX7_carryOut_19 ?_
  refine lv_iload_n hx hb dX7_carryOut_22 rfl (lv_at hl 2 rfl) ?_
  obtain ⟨z74, hc73, hm⟩ := bindS hm
  refine g_callv (GG := GC cy ad) K hw (va_runV (As := [.int x1]) (rest := []) (g_fix K) (c_X6_rememberAll l D cy ad H.size n z72 x1  hc73) (cwV 1 (g_hts K) gX7_carryOut_X6_rememberAll rfl rfl rfl (by decide +kernel) ⟨Nat.le_of_ble_eq_true rfl, Nat.le_of_ble_eq_true rfl⟩) ⟨g_blind rides_none, g_recv K hw 9 rfl (by decide : 0 < 1) rfl rfl, g_pre (X2 := fun _ _ => True) K hw (fun _ _ _ => trivial)⟩ rfl rfl hl.1 rfl (lv_room (Nat.le_of_ble_eq_true rfl)) dX7_carryOut_23 ⟨Nat.le_of_ble_eq_true rfl, Nat.le_of_ble_eq_true rfl⟩) (fun u H locs hp hw => ?_)
  obtain rfl := hp
  refine lv_aload_n hx hb dX7_carryOut_26 rfl (lv_at hl 1 rfl) ?_
  refine g_get (ref := "MigrantHeap") (C := RX7) (T := TX7) (N := 11) (ci := 7) K in_X7_carryOut_X7 hw 0 rfl (by decide : 0 < 1) rfl rfl 8 (by decide) (List.mem_of_getElem? (i := 5) rfl) rfl rfl dX7_carryOut_27 ?_
  refine lv_aload_n hx hb dX7_carryOut_30 rfl (lv_at hl 0 rfl) ?_
  refine g_get (ref := "MigrantHeap$Kind") (C := RX2) (T := TX2) (N := 4) (ci := 2) K in_X7_carryOut_X2 hw 2 rfl (inB_lt h70) rfl rfl 2 (by decide) (List.mem_of_getElem? (i := 3) rfl) rfl rfl dX7_carryOut_31 ?_
  obtain ⟨z76, hc75, hm⟩ := bindS hm
  refine g_callv (GG := GC cy ad) K hw (va_runV (As := [.ref (ad 3 (2 * x1.toNatClampNeg))]) (rest := []) (g_fix K) (c_X4_startFrom l D cy ad H.size n z74 8 (2 * x1.toNatClampNeg) (by decide : 8 < 9) (by have := (inB_lt h70); omega : (2 * x1.toNatClampNeg) < 9) hc75) (cwV 1 (g_hts K) gX7_carryOut_X4_startFrom rfl rfl rfl (by decide +kernel) ⟨Nat.le_of_ble_eq_true rfl, Nat.le_of_ble_eq_true rfl⟩) ⟨g_blind rides_none, g_recv K hw 3 rfl (by decide : 8 < 9) rfl rfl, g_pre (X2 := fun _ _ => True) K hw (fun _ _ _ => trivial)⟩ rfl rfl hl.1 rfl (lv_room (Nat.le_of_ble_eq_true rfl)) dX7_carryOut_34 ⟨Nat.le_of_ble_eq_true rfl, Nat.le_of_ble_eq_true rfl⟩) (fun u H locs hp hw => ?_)
  obtain rfl := hp
  refine lv_iconst (v := 1) hx hb dX7_carryOut_37 (by decide) ?_
  refine lv_istore (lv' := [(4, .int 1), (3, .ref (ad 2 x1.toNatClampNeg)), (0, .ref (ad 0 0)), (1, .int x1), (2, .int x2)]) hx hb dX7_carryOut_38 hl (by decide) rfl (fun ls hl => ?_)
  refine lv_iconst (v := 0) hx hb dX7_carryOut_40 (by decide) ?_
  refine lv_istore (lv' := [(5, .int 0), (4, .int 1), (3, .ref (ad 2 x1.toNatClampNeg)), (0, .ref (ad 0 0)), (1, .int x1), (2, .int x2)]) hx hb dX7_carryOut_41 hl (by decide) rfl (fun ls hl => ?_)
  obtain ⟨z77, hz78, hm⟩ := bindS hm
  refine t_X7_carryOut_L43 K n x1 x2 x1.toNatClampNeg (inB_lt h70) z77 (fun w79 hww79 => ?_) ((z76, 1, 0)) hz78 H locs hw ls (lv_sub hl [3, 4, 5, 2, 1, 0] rfl)
  · intro H locs hw ls hl 
    try rw [hww79] at hm
    refine lv_aload_n hx hb dX7_carryOut_112 rfl (lv_at hl 1 rfl) ?_
    refine g_get (ref := "MigrantHeap$Kind") (C := RX2) (T := TX2) (N := 4) (ci := 2) K in_X7_carryOut_X2 hw 2 rfl (inB_lt h70) rfl rfl 2 (by decide) (List.mem_of_getElem? (i := 3) rfl) rfl rfl dX7_carryOut_113 ?_
    refine lv_aload_n hx hb dX7_carryOut_116 rfl (lv_at hl 0 rfl) ?_
    refine g_get (ref := "MigrantHeap") (C := RX7) (T := TX7) (N := 11) (ci := 7) K in_X7_carryOut_X7 hw 0 rfl (by decide : 0 < 1) rfl rfl 8 (by decide) (List.mem_of_getElem? (i := 5) rfl) rfl rfl dX7_carryOut_117 ?_
    obtain ⟨z81, hc80, hm⟩ := bindS hm
    refine g_callv (GG := GC cy ad) K hw (va_runV (As := [.ref (ad 3 8)]) (rest := []) (g_fix K) (c_X4_copyFrom l D cy ad H.size n w79.1 (2 * x1.toNatClampNeg) 8 (by have := (inB_lt h70); omega : (2 * x1.toNatClampNeg) < 9) (by decide : 8 < 9) hc80) (cwV 1 (g_hts K) gX7_carryOut_X4_copyFrom rfl rfl rfl (by decide +kernel) ⟨Nat.le_of_ble_eq_true rfl, Nat.le_of_ble_eq_true rfl⟩) ⟨g_blind rides_none, g_recv K hw 3 rfl (by have := (inB_lt h70); omega : (2 * x1.toNatClampNeg) < 9) rfl rfl, g_pre (X2 := fun _ _ => True) K hw (fun _ _ _ => trivial)⟩ rfl rfl hl.1 rfl (lv_room (Nat.le_of_ble_eq_true rfl)) dX7_carryOut_120 ⟨Nat.le_of_ble_eq_true rfl, Nat.le_of_ble_eq_true rfl⟩) (fun u H locs hp hw => ?_)
    obtain rfl := hp
    refine lv_aload_n hx hb dX7_carryOut_123 rfl (lv_at hl 1 rfl) ?_
    refine lv_dup hx hb dX7_carryOut_124 rfl ?_
    refine g_get (ref := "MigrantHeap$Kind") (C := RX2) (T := TX2) (N := 4) (ci := 2) K in_X7_carryOut_X2 hw 2 rfl (inB_lt h70) rfl rfl 0 (by decide) (List.mem_of_getElem? (i := 8) rfl) rfl rfl dX7_carryOut_125 ?_
    refine lv_iconst (v := 1) hx hb dX7_carryOut_128 (by decide) ?_
    refine lv_iadd hx hb dX7_carryOut_129 ?_
    refine g_put (v := .int ((z81.1 3 x1.toNatClampNeg 0) + 1)) (ty := .int) (ref := "MigrantHeap$Kind") (C := RX2) (T := TX2) (N := 4) (ci := 2) K in_X7_carryOut_X2 tyX2 tyX2_ok nmX2 hw 2 rfl (inB_lt h70) rfl rfl 0 (by decide) (List.mem_of_getElem? (i := 8) rfl) rfl rfl (by decide +kernel) rfl rfl (Nat.le_of_ble_eq_true rfl) dX7_carryOut_130 (eC_3 cy ad z81 x1.toNatClampNeg ((z81.1 3 x1.toNatClampNeg 0) + 1)) (fun H locs hw => ?_)
    obtain ⟨S82, hS82, hm⟩ := nm_ex hm
    rw [← hS82] at hw
    refine lv_aload_n hx hb dX7_carryOut_133 rfl (lv_at hl 1 rfl) ?_
    refine lv_iload hx hb dX7_carryOut_134 (lv_at hl 2 rfl) ?_
    obtain ⟨h83, hm⟩ := chkS hm
    refine g_put (v := .int w79.2) (ty := .boolean) (ref := "MigrantHeap$Kind") (C := RX2) (T := TX2) (N := 4) (ci := 2) K in_X7_carryOut_X2 tyX2 tyX2_ok nmX2 hw 2 rfl (inB_lt h70) rfl rfl 1 (by decide) (List.mem_of_getElem? (i := 9) rfl) rfl rfl (by decide +kernel) (isZ_n h83).1 (isZ_n h83).2 (Nat.le_of_ble_eq_true rfl) dX7_carryOut_136 (eC_4 cy ad S82 x1.toNatClampNeg w79.2) (fun H locs hw => ?_)
    obtain ⟨S84, hS84, hm⟩ := nm_ex hm
    rw [← hS84] at hw
    exact g_vret (GG := GC cy ad) K hw (Option.some.inj hm).symm dX7_carryOut_139
set_option maxRecDepth 100000 in
set_option maxHeartbeats 4000000 in
theorem c_X7_carryOut (l : Launch) (D : va_G) (cy : Nat → ClassId) (ad : Nat → Nat → Nat) (sz n : Nat) (S : CSt) (x1 : Int32) (x2 : Int32)  {out : CSt} (hm : m_X7_carryOut n S x1 x2 = some out) : Met l yX7_carryOut wsX7_carryOut rm_X7_carryOut (va_Pc [.ref (ad 0 0), .int x1, .int x2] (Pre D (tysC cy) (GC cy ad S) EV sz)) (va_Qv (fun (u : CSt) => out = u) (fun u => Pst D (tysC cy) (AA (adrs (GC cy ad S)) sz) (GC cy ad u)) (AA (adrs (GC cy ad S)) sz)) 0 0 (AA (adrs (GC cy ad S)) sz) := by
  refine g_met (by decide) rfl (Nat.le_of_ble_eq_true rfl) ?_
  intro p e s m args below meth c K hw ls hl
  exact t_X7_carryOut_0 (cy := cy) K n S x1 x2  hm _ _ hw ls hl
end W_X7_carryOut
section W_X7_change
variable {p : Program} {l : Launch} {e : Env} {s : State} {m : MethodId} {args : Array Value} {below : List Frame} {meth : Method} {c : Code} {D : va_G} {A : Nat → Prop} {cy : Nat → ClassId} {ad : Nat → Nat → Nat} {Q : State → Prop}
abbrev rm_X7_change : Room := { frames := 7, cells := 2, slots := 12, locals := 181 }
theorem in_X7_change_X2 : ∀ w ∈ u_ws RX2 TX2 4, w ∈ wsX7_change := by decide +kernel
theorem in_X7_change_X7 : ∀ w ∈ u_ws RX7 TX7 11, w ∈ wsX7_change := by decide +kernel
set_option maxRecDepth 100000 in
set_option maxHeartbeats 4000000 in
theorem t_X7_change_0 (K : Cx p s m args meth c D A (tysC cy) RX7 cX7_change 4 (some .int) wsX7_change EV) (hno : ∀ x ∈ c.exceptionTable.toList, False) (hl9 : l.stackTraces = false) (n : Nat) (S : CSt) (x1 : Int32)  {out : (Int32 × CSt) ⊕ (Nat × CSt)} (hm : m_X7_change n S x1 = some out) : ∀ (H : Heap) (locs : List Loc), Wd D A s.heap (GC cy ad S) H locs → ∀ ls : Array Slot, lv_has ls 4 [(0, .ref (ad 0 0)), (1, .int x1)] → W p l e rm_X7_change s m args below meth c H locs 0 0 (vx_MQ below (va_Qi (fun r (u : CSt) => out = .inl (r, u)) (fun u => Pst D (tysC cy) A (GC cy ad u)) A) (XCx D (tysC cy) A (GC cy ad) out) args s 2 12 A) (F0 m 0 ls []) := by
  intro H locs hw ls hl
  obtain ⟨hx, hb, hml, hown, hts, hr, hlo, hK, hA, hX⟩ := id K
  unfold m_X7_change at hm
  refine lv_aload_n hx hb dX7_change_0 rfl (lv_at hl 0 rfl) ?_
  refine lv_iload_n hx hb dX7_change_1 rfl (lv_at hl 1 rfl) ?_
  obtain ⟨z26, hc25, hm⟩ := bindS hm
  refine g_xcallv (GG := GC cy ad) K hno hw (vx_runV (As := [.int x1]) (rest := []) (g_fix K) (c_X7_needClass l hl9 D cy ad H.size n S x1  hc25) (cwV 1 (g_hts K) gX7_change_X7_needClass rfl rfl rfl (by decide +kernel) ⟨Nat.le_of_ble_eq_true rfl, Nat.le_of_ble_eq_true rfl⟩) ⟨g_blind rides_EV, g_recv K hw 0 rfl (by decide : 0 < 1) rfl rfl, g_pre K hw (g_ride rides_EV K hw)⟩ rfl rfl hl.1 rfl (lv_room (Nat.le_of_ble_eq_true rfl)) dX7_change_2 ⟨Nat.le_of_ble_eq_true rfl, Nat.le_of_ble_eq_true rfl⟩) (fun u hu => by subst hu; exact sumX hm) (Nat.le_of_ble_eq_true rfl) (Nat.le_of_ble_eq_true rfl) (fun u H locs hp hw => ?_)
  obtain ⟨hp, hu⟩ := hp
  rw [hu] at hw
  obtain ⟨w27, hw27⟩ : ∃ q : Unit, q = () := ⟨_, rfl⟩
  subst hp
  replace hm := (sumL _ _ _).symm.trans hm
  refine lv_aload_n hx hb dX7_change_5 rfl (lv_at hl 0 rfl) ?_
  refine g_get (ref := "MigrantHeap") (C := RX7) (T := TX7) (N := 11) (ci := 7) K in_X7_change_X7 hw 0 rfl (by decide : 0 < 1) rfl rfl 6 (by decide) (List.mem_of_getElem? (i := 5) rfl) rfl rfl dX7_change_6 ?_
  refine lv_if_ne (tgt := 22) hx hb dX7_change_9 (by decide) (fun c28 => ?_) (fun c28 => ?_)
  · replace hm := (if_pos c28).symm.trans hm
    refine lv_aload_n hx hb dX7_change_22 rfl (lv_at hl 0 rfl) ?_
    refine g_get (ref := "MigrantHeap") (C := RX7) (T := TX7) (N := 11) (ci := 7) K in_X7_change_X7 hw 0 rfl (by decide : 0 < 1) rfl rfl 6 (by decide) (List.mem_of_getElem? (i := 5) rfl) rfl rfl dX7_change_23 ?_
    obtain ⟨x29, hx29, hm⟩ := nm_ex hm
    refine W.eq (g2 := F0 m 26 ls (.int x29 :: [])) (by rw [hx29]) ?_
    refine lv_istore_n (lv' := [(2, .int x29), (0, .ref (ad 0 0)), (1, .int x1)]) hx hb dX7_change_26 rfl hl (by decide) rfl (fun ls hl => ?_)
    refine lv_aload_n hx hb dX7_change_27 rfl (lv_at hl 1 rfl) ?_
    refine g_get (ref := "MigrantHeap") (C := RX7) (T := TX7) (N := 11) (ci := 7) K in_X7_change_X7 hw 0 rfl (by decide : 0 < 1) rfl rfl 0 (by decide) (List.mem_of_getElem? (i := 6) rfl) rfl rfl dX7_change_28 ?_
    refine lv_iload_n hx hb dX7_change_31 rfl (lv_at hl 2 rfl) ?_
    obtain ⟨h30, hm⟩ := chkS hm
    refine g_aald K hw 1 4 rfl (by decide) rfl rfl h30 dX7_change_32 ?_
    refine lv_astore_n (lv' := [(3, .ref (ad 2 x1.toNatClampNeg)), (2, .int x29), (0, .ref (ad 0 0)), (1, .int x1)]) hx hb dX7_change_33 rfl hl (by decide) rfl (fun ls hl => ?_)
    refine lv_aload_n hx hb dX7_change_34 rfl (lv_at hl 2 rfl) ?_
    refine lv_iconst (v := 0) hx hb dX7_change_35 (by decide) ?_
    refine g_put (v := .int 0) (ty := .int) (ref := "MigrantHeap") (C := RX7) (T := TX7) (N := 11) (ci := 7) K in_X7_change_X7 tyX7 tyX7_ok nmX7 hw 0 rfl (by decide : 0 < 1) rfl rfl 6 (by decide) (List.mem_of_getElem? (i := 5) rfl) rfl rfl (by decide +kernel) rfl rfl (Nat.le_of_ble_eq_true rfl) dX7_change_36 (eC_1 cy ad S 0 0) (fun H locs hw => ?_)
    obtain ⟨S31, hS31, hm⟩ := nm_ex hm
    rw [← hS31] at hw
    refine lv_aload_n hx hb dX7_change_39 rfl (lv_at hl 2 rfl) ?_
    refine lv_iconst (v := (-1)) hx hb dX7_change_40 (by decide) ?_
    refine g_put (v := .int (-1)) (ty := .int) (ref := "MigrantHeap") (C := RX7) (T := TX7) (N := 11) (ci := 7) K in_X7_change_X7 tyX7 tyX7_ok nmX7 hw 0 rfl (by decide : 0 < 1) rfl rfl 7 (by decide) (List.mem_of_getElem? (i := 7) rfl) rfl rfl (by decide +kernel) rfl rfl (Nat.le_of_ble_eq_true rfl) dX7_change_41 (eC_2 cy ad S31 0 (-1)) (fun H locs hw => ?_)
    obtain ⟨S32, hS32, hm⟩ := nm_ex hm
    rw [← hS32] at hw
    refine lv_aload_n hx hb dX7_change_44 rfl (lv_at hl 0 rfl) ?_
    refine g_get (ref := "MigrantHeap$Kind") (C := RX2) (T := TX2) (N := 4) (ci := 2) K in_X7_change_X2 hw 2 rfl (inB_lt h30) rfl rfl 0 (by decide) (List.mem_of_getElem? (i := 8) rfl) rfl rfl dX7_change_45 ?_
    refine lv_iconst (v := 1) hx hb dX7_change_48 (by decide) ?_
    refine lv_iadd hx hb dX7_change_49 ?_
    refine lv_bipush (v := 10) hx hb dX7_change_50 (by decide) ?_
    refine lv_icmp_lt (tgt := 65) hx hb dX7_change_52 (by decide) (fun c33 => ?_) (fun c33 => ?_)
    · replace hm := (if_pos c33).symm.trans hm
      refine lv_aload_n hx hb dX7_change_65 rfl (lv_at hl 2 rfl) ?_
      refine lv_aload_n hx hb dX7_change_66 rfl (lv_at hl 2 rfl) ?_
      refine lv_iload_n hx hb dX7_change_67 rfl (lv_at hl 3 rfl) ?_
      refine lv_iload_n hx hb dX7_change_68 rfl (lv_at hl 1 rfl) ?_
      obtain ⟨z35, hc34, hm⟩ := bindS hm
      refine g_calli (GG := GC cy ad) K hw (va_runV (As := [.int x1, .int x29]) (rest := [.ref (ad 0 0)]) (g_fix K) (c_X7_firstRefused l D cy ad H.size n S32 x1 x29  hc34) (cwV 2 (g_hts K) gX7_change_X7_firstRefused rfl rfl rfl (by decide +kernel) ⟨Nat.le_of_ble_eq_true rfl, Nat.le_of_ble_eq_true rfl⟩) ⟨g_blind rides_EV, g_recv K hw 0 rfl (by decide : 0 < 1) rfl rfl, g_pre K hw (g_ride rides_EV K hw)⟩ rfl rfl hl.1 rfl (lv_room (Nat.le_of_ble_eq_true rfl)) dX7_change_69 ⟨Nat.le_of_ble_eq_true rfl, Nat.le_of_ble_eq_true rfl⟩) (fun r u H locs hp hw => ?_)
      obtain ⟨rfl, rfl⟩ : r = z35.1 ∧ u = z35.2 := by rw [hp]; exact ⟨rfl, rfl⟩
      refine g_put (v := .int z35.1) (ty := .int) (ref := "MigrantHeap") (C := RX7) (T := TX7) (N := 11) (ci := 7) K in_X7_change_X7 tyX7 tyX7_ok nmX7 hw 0 rfl (by decide : 0 < 1) rfl rfl 7 (by decide) (List.mem_of_getElem? (i := 7) rfl) rfl rfl (by decide +kernel) rfl rfl (Nat.le_of_ble_eq_true rfl) dX7_change_72 (eC_2 cy ad z35.2 0 z35.1) (fun H locs hw => ?_)
      obtain ⟨S36, hS36, hm⟩ := nm_ex hm
      rw [← hS36] at hw
      refine lv_aload_n hx hb dX7_change_75 rfl (lv_at hl 2 rfl) ?_
      refine g_get (ref := "MigrantHeap") (C := RX7) (T := TX7) (N := 11) (ci := 7) K in_X7_change_X7 hw 0 rfl (by decide : 0 < 1) rfl rfl 7 (by decide) (List.mem_of_getElem? (i := 7) rfl) rfl rfl dX7_change_76 ?_
      refine lv_iconst (v := (-1)) hx hb dX7_change_79 (by decide) ?_
      refine lv_icmp_eq (tgt := 93) hx hb dX7_change_80 (by decide) (fun c37 => ?_) (fun c37 => ?_)
      · replace hm := (if_pos c37).symm.trans hm
        refine lv_aload_n hx hb dX7_change_93 rfl (lv_at hl 2 rfl) ?_
        refine lv_iload_n hx hb dX7_change_94 rfl (lv_at hl 3 rfl) ?_
        refine lv_iload_n hx hb dX7_change_95 rfl (lv_at hl 1 rfl) ?_
        obtain ⟨z39, hc38, hm⟩ := bindS hm
        refine g_callv (GG := GC cy ad) K hw (va_runV (As := [.int x1, .int x29]) (rest := []) (g_fix K) (c_X7_carryOut l D cy ad H.size n S36 x1 x29  hc38) (cwV 2 (g_hts K) gX7_change_X7_carryOut rfl rfl rfl (by decide +kernel) ⟨Nat.le_of_ble_eq_true rfl, Nat.le_of_ble_eq_true rfl⟩) ⟨g_blind rides_EV, g_recv K hw 0 rfl (by decide : 0 < 1) rfl rfl, g_pre K hw (g_ride rides_EV K hw)⟩ rfl rfl hl.1 rfl (lv_room (Nat.le_of_ble_eq_true rfl)) dX7_change_96 ⟨Nat.le_of_ble_eq_true rfl, Nat.le_of_ble_eq_true rfl⟩) (fun u H locs hp hw => ?_)
        obtain rfl := hp
        refine lv_aload_n hx hb dX7_change_99 rfl (lv_at hl 0 rfl) ?_
        refine g_get (ref := "MigrantHeap$Kind") (C := RX2) (T := TX2) (N := 4) (ci := 2) K in_X7_change_X2 hw 2 rfl (inB_lt h30) rfl rfl 0 (by decide) (List.mem_of_getElem? (i := 8) rfl) rfl rfl dX7_change_100 ?_
        refine vx_ret (W.widen (k := 2) (n := 12) (Nat.le_of_ble_eq_true rfl) (Nat.le_of_ble_eq_true rfl) ?_)
        exact g_iret (GG := GC cy ad) K hw (Option.some.inj hm).symm dX7_change_103
      · replace hm := (if_neg c37).symm.trans hm
        obtain ⟨sa40, hs41⟩ := hX.2.1 (191, _) (List.mem_of_getElem? (i := 10) rfl)
        exact vx_throwS (own := RX7) (cls := "java/lang/IllegalStateException") (names := rteL) (sa := sa40) hx hb hl9 hown (by decide +kernel) (by decide +kernel) (hts _ (List.mem_of_getElem? (i := 3) rfl)) (hts _ (List.mem_of_getElem? (i := 4) rfl)) hs41 (ev_hat hX (by decide) hts (by decide +kernel) (by decide +kernel)) (by decide +kernel) hX.2.2.2.2.1 hX.2.2.2.2.2 hw.2.2 (hl.1.trans hml.symm) dX7_change_83 dX7_change_86 dX7_change_87 dX7_change_89 dX7_change_92 (fun x h => (hno x h).elim) (Nat.le_of_ble_eq_true rfl) (Nat.le_of_ble_eq_true rfl) (Nat.le_of_ble_eq_true rfl) (Nat.le_of_ble_eq_true rfl) hlo (g_xc (GG := GC cy ad) K hw (Option.some.inj hm).symm rfl) hw.2.2.2.2 (Nat.le_of_ble_eq_true rfl) (Nat.le_of_ble_eq_true rfl)
    · replace hm := (if_neg c33).symm.trans hm
      obtain ⟨sa42, hs43⟩ := hX.2.1 (186, _) (List.mem_of_getElem? (i := 9) rfl)
      exact vx_throwS (own := RX7) (cls := "java/lang/IllegalStateException") (names := rteL) (sa := sa42) hx hb hl9 hown (by decide +kernel) (by decide +kernel) (hts _ (List.mem_of_getElem? (i := 3) rfl)) (hts _ (List.mem_of_getElem? (i := 4) rfl)) hs43 (ev_hat hX (by decide) hts (by decide +kernel) (by decide +kernel)) (by decide +kernel) hX.2.2.2.2.1 hX.2.2.2.2.2 hw.2.2 (hl.1.trans hml.symm) dX7_change_55 dX7_change_58 dX7_change_59 dX7_change_61 dX7_change_64 (fun x h => (hno x h).elim) (Nat.le_of_ble_eq_true rfl) (Nat.le_of_ble_eq_true rfl) (Nat.le_of_ble_eq_true rfl) (Nat.le_of_ble_eq_true rfl) hlo (g_xc (GG := GC cy ad) K hw (Option.some.inj hm).symm rfl) hw.2.2.2.2 (Nat.le_of_ble_eq_true rfl) (Nat.le_of_ble_eq_true rfl)
  · replace hm := (if_neg (fun h => h c28)).symm.trans hm
    obtain ⟨sa44, hs45⟩ := hX.2.1 (181, _) (List.mem_of_getElem? (i := 8) rfl)
    exact vx_throwS (own := RX7) (cls := "java/lang/IllegalArgumentException") (names := rteL) (sa := sa44) hx hb hl9 hown (by decide +kernel) (by decide +kernel) (hts _ (List.mem_of_getElem? (i := 1) rfl)) (hts _ (List.mem_of_getElem? (i := 2) rfl)) hs45 (ev_hat hX (by decide) hts (by decide +kernel) (by decide +kernel)) (by decide +kernel) hX.2.2.2.2.1 hX.2.2.2.2.2 hw.2.2 (hl.1.trans hml.symm) dX7_change_12 dX7_change_15 dX7_change_16 dX7_change_18 dX7_change_21 (fun x h => (hno x h).elim) (Nat.le_of_ble_eq_true rfl) (Nat.le_of_ble_eq_true rfl) (Nat.le_of_ble_eq_true rfl) (Nat.le_of_ble_eq_true rfl) hlo (g_xc (GG := GC cy ad) K hw (Option.some.inj hm).symm rfl) hw.2.2.2.2 (Nat.le_of_ble_eq_true rfl) (Nat.le_of_ble_eq_true rfl)
set_option maxRecDepth 100000 in
set_option maxHeartbeats 4000000 in
theorem c_X7_change (l : Launch) (hl9 : l.stackTraces = false) (D : va_G) (cy : Nat → ClassId) (ad : Nat → Nat → Nat) (sz n : Nat) (S : CSt) (x1 : Int32)  {out : (Int32 × CSt) ⊕ (Nat × CSt)} (hm : m_X7_change n S x1 = some out) : vx_Met l yX7_change wsX7_change rm_X7_change (va_Pc [.ref (ad 0 0), .int x1] (Pre D (tysC cy) (GC cy ad S) EV sz)) (va_Qi (fun r (u : CSt) => out = .inl (r, u)) (fun u => Pst D (tysC cy) (AA (adrs (GC cy ad S)) sz) (GC cy ad u)) (AA (adrs (GC cy ad S)) sz)) (XCx D (tysC cy) (AA (adrs (GC cy ad S)) sz) (GC cy ad) out) 2 12 (AA (adrs (GC cy ad S)) sz) := by
  refine g_xmet (by decide) rfl (Nat.le_of_ble_eq_true rfl) ?_
  intro p e s m args below meth c K hno hw ls hl
  exact t_X7_change_0 (cy := cy) K hno hl9 n S x1  hm _ _ hw ls hl
end W_X7_change
section W_X7_restore
variable {p : Program} {l : Launch} {e : Env} {s : State} {m : MethodId} {args : Array Value} {below : List Frame} {meth : Method} {c : Code} {D : va_G} {A : Nat → Prop} {cy : Nat → ClassId} {ad : Nat → Nat → Nat} {Q : State → Prop}
abbrev rm_X7_restore : Room := { frames := 2, cells := 0, slots := 0, locals := 43 }
theorem in_X7_restore_X0 : ∀ w ∈ u_ws RX0 TX0 6, w ∈ wsX7_restore := by decide +kernel
theorem in_X7_restore_X4 : ∀ w ∈ u_ws RX4 TX4 6, w ∈ wsX7_restore := by decide +kernel
theorem in_X7_restore_X7 : ∀ w ∈ u_ws RX7 TX7 11, w ∈ wsX7_restore := by decide +kernel
set_option maxRecDepth 100000 in
set_option maxHeartbeats 4000000 in
theorem t_X7_restore_J61 (K : Cx p s m args meth c D A (tysC cy) RX7 cX7_restore 6 none wsX7_restore (fun _ _ => True)) (n : Nat) (S : CSt) (x1 : Nat) (x2 : Nat) (x3 : Int32) (y0 : Nat) (y1 : Int32) (y2 : Int32) {out : (CSt × Int32) ⊕ CSt} {z : CSt} (hm : m_X7_restore_J61 n S x1 x2 x3 y0 y1 y2 = some out) (hg : Gd (fun (x : (CSt × Int32)) => ∀ (H : Heap) (locs : List Loc), Wd D A s.heap (GC cy ad x.1) H locs → ∀ ls : Array Slot, lv_has ls 6 [(0, .ref (ad 0 0)), (1, .ref (ad 11 x1)), (2, .ref (ad 3 x2)), (3, .int x.2)] → W p l e rm_X7_restore s m args below meth c H locs 0 0 Q (F0 m 2 ls [])) z out) (hE0 : ∀ w : CSt, z = w → ∀ (H : Heap) (locs : List Loc), Wd D A s.heap (GC cy ad w) H locs → ∀ ls : Array Slot, lv_has ls 6 [] → W p l e rm_X7_restore s m args below meth c H locs 0 0 Q (F0 m 68 ls [])) : ∀ (H : Heap) (locs : List Loc), Wd D A s.heap (GC cy ad S) H locs → ∀ ls : Array Slot, lv_has ls 6 [(0, .ref (ad 0 0)), (1, .ref (ad 11 x1)), (2, .ref (ad 3 x2)), (3, .int x3)] → (x1 < 24) → (x2 < 9) → (y0 < 24) → W p l e rm_X7_restore s m args below meth c H locs 0 0 Q (F0 m 61 ls [.int y2, .int y1, .ref (ad 12 y0)]) := by
  intro H locs hw ls hl hb_x1 hb_x2 hb_y0
  obtain ⟨hx, hb, hml, hown, hts, hr, hlo, hK, hA, hX⟩ := id K
  unfold m_X7_restore_J61 at hm
  obtain ⟨h31, hm⟩ := chkS hm
  refine g_iast K hw 12 0 rfl hb_y0 rfl rfl h31 dX7_restore_61 (eC_17 cy ad S y0 y1.toNatClampNeg y2) (fun H locs hw => ?_)
  obtain ⟨S32, hS32, hm⟩ := nm_ex hm
  rw [← hS32] at hw
  obtain ⟨x33, hx33, hm⟩ := nm_ex hm
  refine lv_iinc (v := x33) (lv' := [(3, .int x33), (0, .ref (ad 0 0)), (1, .ref (ad 11 x1)), (2, .ref (ad 3 x2))]) hx hb dX7_restore_62 hl (k := 3) rfl (by rw [hx33]; rfl) (by decide) rfl (fun ls hl => ?_)
  refine lv_goto (tgt := 2) hx hb dX7_restore_65 (by decide) ?_
  obtain rfl := Option.some.inj hm
  exact hg H locs hw ls (lv_sub hl [1, 2, 3, 0] rfl)
set_option maxRecDepth 100000 in
set_option maxHeartbeats 4000000 in
theorem t_X7_restore_J43 (K : Cx p s m args meth c D A (tysC cy) RX7 cX7_restore 6 none wsX7_restore (fun _ _ => True)) (n : Nat) (S : CSt) (x1 : Nat) (x2 : Nat) (x3 : Int32) (x4 : Int32) (y0 : Int32) {out : (CSt × Int32) ⊕ CSt} {z : CSt} (hm : m_X7_restore_J43 n S x1 x2 x3 x4 y0 = some out) (hg : Gd (fun (x : (CSt × Int32)) => ∀ (H : Heap) (locs : List Loc), Wd D A s.heap (GC cy ad x.1) H locs → ∀ ls : Array Slot, lv_has ls 6 [(0, .ref (ad 0 0)), (1, .ref (ad 11 x1)), (2, .ref (ad 3 x2)), (3, .int x.2)] → W p l e rm_X7_restore s m args below meth c H locs 0 0 Q (F0 m 2 ls [])) z out) (hE0 : ∀ w : CSt, z = w → ∀ (H : Heap) (locs : List Loc), Wd D A s.heap (GC cy ad w) H locs → ∀ ls : Array Slot, lv_has ls 6 [] → W p l e rm_X7_restore s m args below meth c H locs 0 0 Q (F0 m 68 ls [])) : ∀ (H : Heap) (locs : List Loc), Wd D A s.heap (GC cy ad S) H locs → ∀ ls : Array Slot, lv_has ls 6 [(0, .ref (ad 0 0)), (1, .ref (ad 11 x1)), (2, .ref (ad 3 x2)), (3, .int x3), (4, .int x4)] → (x1 < 24) → (x2 < 9) → W p l e rm_X7_restore s m args below meth c H locs 0 0 Q (F0 m 43 ls [.int y0]) := by
  intro H locs hw ls hl hb_x1 hb_x2
  obtain ⟨hx, hb, hml, hown, hts, hr, hlo, hK, hA, hX⟩ := id K
  unfold m_X7_restore_J43 at hm
  refine lv_istore (lv' := [(5, .int y0), (0, .ref (ad 0 0)), (1, .ref (ad 11 x1)), (2, .ref (ad 3 x2)), (3, .int x3), (4, .int x4)]) hx hb dX7_restore_43 hl (by decide) rfl (fun ls hl => ?_)
  refine lv_aload_n hx hb dX7_restore_45 rfl (lv_at hl 2 rfl) ?_
  refine g_get (ref := "MigrantHeap$Entry") (C := RX0) (T := TX0) (N := 6) (ci := 0) K in_X7_restore_X0 hw 11 rfl hb_x1 rfl rfl 4 (by decide) (List.mem_of_getElem? (i := 4) rfl) rfl rfl dX7_restore_46 ?_
  refine lv_iload_n hx hb dX7_restore_49 rfl (lv_at hl 4 rfl) ?_
  refine lv_iload hx hb dX7_restore_50 (lv_at hl 0 rfl) ?_
  refine lv_if_eq (tgt := 59) hx hb dX7_restore_52 (by decide) (fun c34 => ?_) (fun c34 => ?_)
  · replace hm := (if_pos c34).symm.trans hm
    refine lv_iload hx hb dX7_restore_59 (lv_at hl 5 rfl) ?_
    exact t_X7_restore_J61 K n S x1 x2 x3 x1 x3 x4 hm hg hE0 H locs hw ls (lv_sub hl [1, 2, 3, 4] rfl) hb_x1 hb_x2 hb_x1
  · replace hm := (if_neg c34).symm.trans hm
    refine lv_iconst (v := 0) hx hb dX7_restore_55 (by decide) ?_
    refine lv_goto (tgt := 61) hx hb dX7_restore_56 (by decide) ?_
    exact t_X7_restore_J61 K n S x1 x2 x3 x1 x3 0 hm hg hE0 H locs hw ls (lv_sub hl [1, 2, 3, 4] rfl) hb_x1 hb_x2 hb_x1
set_option maxRecDepth 100000 in
set_option maxHeartbeats 4000000 in
theorem t_X7_restore_J42 (K : Cx p s m args meth c D A (tysC cy) RX7 cX7_restore 6 none wsX7_restore (fun _ _ => True)) (n : Nat) (S : CSt) (x1 : Nat) (x2 : Nat) (x3 : Int32) (x4 : Int32) {out : (CSt × Int32) ⊕ CSt} {z : CSt} (hm : m_X7_restore_J42 n S x1 x2 x3 x4 = some out) (hg : Gd (fun (x : (CSt × Int32)) => ∀ (H : Heap) (locs : List Loc), Wd D A s.heap (GC cy ad x.1) H locs → ∀ ls : Array Slot, lv_has ls 6 [(0, .ref (ad 0 0)), (1, .ref (ad 11 x1)), (2, .ref (ad 3 x2)), (3, .int x.2)] → W p l e rm_X7_restore s m args below meth c H locs 0 0 Q (F0 m 2 ls [])) z out) (hE0 : ∀ w : CSt, z = w → ∀ (H : Heap) (locs : List Loc), Wd D A s.heap (GC cy ad w) H locs → ∀ ls : Array Slot, lv_has ls 6 [] → W p l e rm_X7_restore s m args below meth c H locs 0 0 Q (F0 m 68 ls [])) : ∀ (H : Heap) (locs : List Loc), Wd D A s.heap (GC cy ad S) H locs → ∀ ls : Array Slot, lv_has ls 6 [(0, .ref (ad 0 0)), (1, .ref (ad 11 x1)), (2, .ref (ad 3 x2)), (3, .int x3), (4, .int x4)] → (x1 < 24) → (x2 < 9) → W p l e rm_X7_restore s m args below meth c H locs 0 0 Q (F0 m 42 ls []) := by
  intro H locs hw ls hl hb_x1 hb_x2
  obtain ⟨hx, hb, hml, hown, hts, hr, hlo, hK, hA, hX⟩ := id K
  unfold m_X7_restore_J42 at hm
  refine lv_iconst (v := 0) hx hb dX7_restore_42 (by decide) ?_
  exact t_X7_restore_J43 K n S x1 x2 x3 x4 0 hm hg hE0 H locs hw ls (lv_sub hl [0, 1, 2, 3, 4] rfl) hb_x1 hb_x2
set_option maxRecDepth 100000 in
set_option maxHeartbeats 4000000 in
theorem t_X7_restore_L2 (K : Cx p s m args meth c D A (tysC cy) RX7 cX7_restore 6 none wsX7_restore (fun _ _ => True)) (n : Nat) (x1 : Nat) (x2 : Nat) (hb_x1 : x1 < 24) (hb_x2 : x2 < 9) (z : CSt) (hE0 : ∀ w : CSt, z = w → ∀ (H : Heap) (locs : List Loc), Wd D A s.heap (GC cy ad w) H locs → ∀ ls : Array Slot, lv_has ls 6 [] → W p l e rm_X7_restore s m args below meth c H locs 0 0 Q (F0 m 68 ls [])) : ∀ (x : (CSt × Int32)), lpO (b_X7_restore_2 n x1 x2) n x = some z → (fun (x : (CSt × Int32)) => ∀ (H : Heap) (locs : List Loc), Wd D A s.heap (GC cy ad x.1) H locs → ∀ ls : Array Slot, lv_has ls 6 [(0, .ref (ad 0 0)), (1, .ref (ad 11 x1)), (2, .ref (ad 3 x2)), (3, .int x.2)] → W p l e rm_X7_restore s m args below meth c H locs 0 0 Q (F0 m 2 ls [])) x := by
  intro x hx0
  refine lpO_ind2 (P := fun (x : (CSt × Int32)) => ∀ (H : Heap) (locs : List Loc), Wd D A s.heap (GC cy ad x.1) H locs → ∀ ls : Array Slot, lv_has ls 6 [(0, .ref (ad 0 0)), (1, .ref (ad 11 x1)), (2, .ref (ad 3 x2)), (3, .int x.2)] → W p l e rm_X7_restore s m args below meth c H locs 0 0 Q (F0 m 2 ls [])) (z := z) ?_ n x hx0
  clear hx0 x
  intro x out hm hg H locs hw ls hl 
  obtain ⟨hx, hb, hml, hown, hts, hr, hlo, hK, hA, hX⟩ := id K
  unfold b_X7_restore_2 at hm
  refine lv_iload_n hx hb dX7_restore_2 rfl (lv_at hl 3 rfl) ?_
  refine lv_aload_n hx hb dX7_restore_3 rfl (lv_at hl 2 rfl) ?_
  refine g_get (ref := "MigrantHeap$Shape") (C := RX4) (T := TX4) (N := 6) (ci := 4) K in_X7_restore_X4 hw 3 rfl hb_x2 rfl rfl 0 (by decide) (List.mem_of_getElem? (i := 1) rfl) rfl rfl dX7_restore_4 ?_
  refine lv_icmp_ge (tgt := 68) hx hb dX7_restore_7 (by decide) (fun c35 => ?_) (fun c35 => ?_)
  · replace hm := (if_pos c35).symm.trans hm
    obtain rfl := Option.some.inj hm
    exact hE0 _ hg.symm H locs hw ls (lv_sub hl [] rfl)
  · replace hm := (if_neg c35).symm.trans hm
    refine lv_aload_n hx hb dX7_restore_10 rfl (lv_at hl 1 rfl) ?_
    refine g_get (ref := "MigrantHeap$Entry") (C := RX0) (T := TX0) (N := 6) (ci := 0) K in_X7_restore_X0 hw 11 rfl hb_x1 rfl rfl 5 (by decide) (List.mem_of_getElem? (i := 2) rfl) rfl rfl dX7_restore_11 ?_
    refine lv_iload_n hx hb dX7_restore_14 rfl (lv_at hl 3 rfl) ?_
    obtain ⟨h36, hm⟩ := chkS hm
    refine g_iald K hw 13 0 rfl hb_x1 rfl rfl h36 dX7_restore_15 ?_
    obtain ⟨x37, hx37, hm⟩ := nm_ex hm
    refine W.eq (g2 := F0 m 16 ls (.int x37 :: [])) (by rw [hx37]) ?_
    refine lv_istore (lv' := [(4, .int x37), (0, .ref (ad 0 0)), (1, .ref (ad 11 x1)), (2, .ref (ad 3 x2)), (3, .int x.2)]) hx hb dX7_restore_16 hl (by decide) rfl (fun ls hl => ?_)
    refine lv_aload_n hx hb dX7_restore_18 rfl (lv_at hl 3 rfl) ?_
    refine lv_iload_n hx hb dX7_restore_19 rfl (lv_at hl 4 rfl) ?_
    obtain ⟨z39, hc38, hm⟩ := bindS hm
    refine g_calli (GG := GC cy ad) K hw (va_runV (As := [.int x.2]) (rest := []) (g_fix K) (c_X4_isReference l D cy ad H.size n x.1 x2 x.2 hb_x2 hc38) (cwV 1 (g_hts K) gX7_restore_X4_isReference rfl rfl rfl (by decide +kernel) ⟨Nat.le_of_ble_eq_true rfl, Nat.le_of_ble_eq_true rfl⟩) ⟨g_blind rides_none, g_recv K hw 3 rfl hb_x2 rfl rfl, g_pre (X2 := fun _ _ => True) K hw (fun _ _ _ => trivial)⟩ rfl rfl hl.1 rfl (lv_room (Nat.le_of_ble_eq_true rfl)) dX7_restore_20 ⟨Nat.le_of_ble_eq_true rfl, Nat.le_of_ble_eq_true rfl⟩) (fun r u H locs hp hw => ?_)
    obtain ⟨rfl, hu⟩ := hp
    rw [hu] at hw
    refine lv_if_eq (tgt := 42) hx hb dX7_restore_23 (by decide) (fun c40 => ?_) (fun c40 => ?_)
    · replace hm := (if_pos c40).symm.trans hm
      exact t_X7_restore_J42 K n x.1 x1 x2 x.2 x37 hm hg hE0 H locs hw ls (lv_sub hl [1, 2, 3, 4, 0] rfl) hb_x1 hb_x2
    · replace hm := (if_neg c40).symm.trans hm
      refine lv_aload_n hx hb dX7_restore_26 rfl (lv_at hl 1 rfl) ?_
      refine g_get (ref := "MigrantHeap") (C := RX7) (T := TX7) (N := 11) (ci := 7) K in_X7_restore_X7 hw 0 rfl (by decide : 0 < 1) rfl rfl 2 (by decide) (List.mem_of_getElem? (i := 3) rfl) rfl rfl dX7_restore_27 ?_
      refine lv_iload hx hb dX7_restore_30 (lv_at hl 0 rfl) ?_
      obtain ⟨z42, hc41, hm⟩ := bindS hm
      refine g_callq (GG := GC cy ad) K hw (va_runV (As := [.int x37]) (rest := []) (g_fix K) (c_X6_find l D cy ad H.size n x.1 x37  hc41) (cwV 1 (g_hts K) gX7_restore_X6_find rfl rfl rfl (by decide +kernel) ⟨Nat.le_of_ble_eq_true rfl, Nat.le_of_ble_eq_true rfl⟩) ⟨g_blind rides_none, g_recv K hw 9 rfl (by decide : 0 < 1) rfl rfl, g_pre (X2 := fun _ _ => True) K hw (fun _ _ _ => trivial)⟩ rfl rfl hl.1 rfl (lv_room (Nat.le_of_ble_eq_true rfl)) dX7_restore_32 ⟨Nat.le_of_ble_eq_true rfl, Nat.le_of_ble_eq_true rfl⟩) (fun r u H locs hp hw => ?_)
      obtain ⟨rfl, hu⟩ := hp
      rw [hu] at hw
      rcases hq45 : z42 with _ | i43
      · rw [hq45] at hm
        replace hm := (optN _ _).symm.trans hm
        refine W.eq (g2 := F0 m 35 ls (.null :: [])) (by first | rfl | (rw [hq45]; rfl)) ?_
        refine lv_ifnonnullN hx hb dX7_restore_35 ?_
        refine lv_iconst (v := 1) hx hb dX7_restore_38 (by decide) ?_
        refine lv_goto (tgt := 43) hx hb dX7_restore_39 (by decide) ?_
        exact t_X7_restore_J43 K n x.1 x1 x2 x.2 x37 1 hm hg hE0 H locs hw ls (lv_sub hl [1, 2, 3, 4, 0] rfl) hb_x1 hb_x2
      · rw [hq45] at hm
        replace hm := (optS _ _ _).symm.trans hm
        obtain ⟨h44, hm⟩ := chkS hm
        replace h44 := of_decide_eq_true h44
        refine W.eq (g2 := F0 m 35 ls (.ref (ad 11 i43) :: [])) (by first | rfl | (rw [hq45]; rfl)) ?_
        refine lv_ifnonnull (tgt := 42) hx hb dX7_restore_35 (by decide) ?_
        exact t_X7_restore_J42 K n x.1 x1 x2 x.2 x37 hm hg hE0 H locs hw ls (lv_sub hl [1, 2, 3, 4, 0] rfl) hb_x1 hb_x2
set_option maxRecDepth 100000 in
set_option maxHeartbeats 4000000 in
theorem t_X7_restore_0 (K : Cx p s m args meth c D A (tysC cy) RX7 cX7_restore 6 none wsX7_restore (fun _ _ => True)) (n : Nat) (S : CSt) (x1 : Nat) (x2 : Nat) (hb_x1 : x1 < 24) (hb_x2 : x2 < 9) {out : CSt} (hm : m_X7_restore n S x1 x2 = some out) : ∀ (H : Heap) (locs : List Loc), Wd D A s.heap (GC cy ad S) H locs → ∀ ls : Array Slot, lv_has ls 6 [(0, .ref (ad 0 0)), (1, .ref (ad 11 x1)), (2, .ref (ad 3 x2))] → W p l e rm_X7_restore s m args below meth c H locs 0 0 (MQ below (va_Qv (fun (u : CSt) => out = u) (fun u => Pst D (tysC cy) A (GC cy ad u)) A) args s 0 0 A) (F0 m 0 ls []) := by
  intro H locs hw ls hl
  obtain ⟨hx, hb, hml, hown, hts, hr, hlo, hK, hA, hX⟩ := id K
  unfold m_X7_restore at hm
  refine lv_iconst (v := 0) hx hb dX7_restore_0 (by decide) ?_
  refine lv_istore_n (lv' := [(3, .int 0), (0, .ref (ad 0 0)), (1, .ref (ad 11 x1)), (2, .ref (ad 3 x2))]) hx hb dX7_restore_1 rfl hl (by decide) rfl (fun ls hl => ?_)
  obtain ⟨z46, hz47, hm⟩ := bindS hm
  refine t_X7_restore_L2 K n x1 x2 hb_x1 hb_x2 z46 (fun w48 hww48 => ?_) ((S, 0)) hz47 H locs hw ls (lv_sub hl [1, 2, 3, 0] rfl)
  · intro H locs hw ls hl 
    try rw [hww48] at hm
    exact g_vret (GG := GC cy ad) K hw (Option.some.inj hm).symm dX7_restore_68
set_option maxRecDepth 100000 in
set_option maxHeartbeats 4000000 in
theorem c_X7_restore (l : Launch) (D : va_G) (cy : Nat → ClassId) (ad : Nat → Nat → Nat) (sz n : Nat) (S : CSt) (x1 : Nat) (x2 : Nat) (hb_x1 : x1 < 24) (hb_x2 : x2 < 9) {out : CSt} (hm : m_X7_restore n S x1 x2 = some out) : Met l yX7_restore wsX7_restore rm_X7_restore (va_Pc [.ref (ad 0 0), .ref (ad 11 x1), .ref (ad 3 x2)] (Pre D (tysC cy) (GC cy ad S) (fun _ _ => True) sz)) (va_Qv (fun (u : CSt) => out = u) (fun u => Pst D (tysC cy) (AA (adrs (GC cy ad S)) sz) (GC cy ad u)) (AA (adrs (GC cy ad S)) sz)) 0 0 (AA (adrs (GC cy ad S)) sz) := by
  refine g_met (by decide) rfl (Nat.le_of_ble_eq_true rfl) ?_
  intro p e s m args below meth c K hw ls hl
  exact t_X7_restore_0 (cy := cy) K n S x1 x2 hb_x1 hb_x2 hm _ _ hw ls hl
end W_X7_restore
section W_X7_takeBack
variable {p : Program} {l : Launch} {e : Env} {s : State} {m : MethodId} {args : Array Value} {below : List Frame} {meth : Method} {c : Code} {D : va_G} {A : Nat → Prop} {cy : Nat → ClassId} {ad : Nat → Nat → Nat} {Q : State → Prop}
abbrev rm_X7_takeBack : Room := { frames := 7, cells := 2, slots := 12, locals := 121 }
theorem in_X7_takeBack_X0 : ∀ w ∈ u_ws RX0 TX0 6, w ∈ wsX7_takeBack := by decide +kernel
theorem in_X7_takeBack_X2 : ∀ w ∈ u_ws RX2 TX2 4, w ∈ wsX7_takeBack := by decide +kernel
theorem in_X7_takeBack_X6 : ∀ w ∈ u_ws RX6 TX6 3, w ∈ wsX7_takeBack := by decide +kernel
theorem in_X7_takeBack_X7 : ∀ w ∈ u_ws RX7 TX7 11, w ∈ wsX7_takeBack := by decide +kernel
set_option maxRecDepth 100000 in
set_option maxHeartbeats 4000000 in
theorem t_X7_takeBack_L34 (K : Cx p s m args meth c D A (tysC cy) RX7 cX7_takeBack 6 (some .int) wsX7_takeBack EV) (hno : ∀ x ∈ c.exceptionTable.toList, False) (hl9 : l.stackTraces = false) (n : Nat) (x1 : Int32) (x2 : Nat) (hb_x2 : x2 < 4) (z : (CSt × Int32)) (hE0 : ∀ w : (CSt × Int32), z = w → ∀ (H : Heap) (locs : List Loc), Wd D A s.heap (GC cy ad w.1) H locs → ∀ ls : Array Slot, lv_has ls 6 [(2, .ref (ad 2 x2)), (3, .int w.2)] → W p l e rm_X7_takeBack s m args below meth c H locs 1 6 Q (F0 m 104 ls [])) : ∀ (x : (CSt × Int32 × Int32)), lpO (b_X7_takeBack_34 n x1 x2) n x = some z → (fun (x : (CSt × Int32 × Int32)) => ∀ (H : Heap) (locs : List Loc), Wd D A s.heap (GC cy ad x.1) H locs → ∀ ls : Array Slot, lv_has ls 6 [(0, .ref (ad 0 0)), (1, .int x1), (2, .ref (ad 2 x2)), (3, .int x.2.1), (4, .int x.2.2)] → W p l e rm_X7_takeBack s m args below meth c H locs 1 6 Q (F0 m 34 ls [])) x := by
  intro x hx0
  refine lpO_ind2 (P := fun (x : (CSt × Int32 × Int32)) => ∀ (H : Heap) (locs : List Loc), Wd D A s.heap (GC cy ad x.1) H locs → ∀ ls : Array Slot, lv_has ls 6 [(0, .ref (ad 0 0)), (1, .int x1), (2, .ref (ad 2 x2)), (3, .int x.2.1), (4, .int x.2.2)] → W p l e rm_X7_takeBack s m args below meth c H locs 1 6 Q (F0 m 34 ls [])) (z := z) ?_ n x hx0
  clear hx0 x
  intro x out hm hg H locs hw ls hl 
  obtain ⟨hx, hb, hml, hown, hts, hr, hlo, hK, hA, hX⟩ := id K
  unfold b_X7_takeBack_34 at hm
  refine lv_iload hx hb dX7_takeBack_34 (lv_at hl 4 rfl) ?_
  refine lv_bipush (v := 24) hx hb dX7_takeBack_36 (by decide) ?_
  refine lv_icmp_ge (tgt := 104) hx hb dX7_takeBack_38 (by decide) (fun c53 => ?_) (fun c53 => ?_)
  · replace hm := (if_pos c53).symm.trans hm
    obtain rfl := Option.some.inj hm
    exact hE0 _ hg.symm H locs hw ls (lv_sub hl [2, 3] rfl)
  · replace hm := (if_neg c53).symm.trans hm
    refine lv_aload_n hx hb dX7_takeBack_41 rfl (lv_at hl 0 rfl) ?_
    refine g_get (ref := "MigrantHeap") (C := RX7) (T := TX7) (N := 11) (ci := 7) K in_X7_takeBack_X7 hw 0 rfl (by decide : 0 < 1) rfl rfl 2 (by decide) (List.mem_of_getElem? (i := 5) rfl) rfl rfl dX7_takeBack_42 ?_
    refine g_get (ref := "MigrantHeap$Store") (C := RX6) (T := TX6) (N := 3) (ci := 6) K in_X7_takeBack_X6 hw 9 rfl (by decide : 0 < 1) rfl rfl 0 (by decide) (List.mem_of_getElem? (i := 6) rfl) rfl rfl dX7_takeBack_45 ?_
    refine lv_iload hx hb dX7_takeBack_48 (lv_at hl 4 rfl) ?_
    obtain ⟨h54, hm⟩ := chkS hm
    refine g_aald K hw 10 3 rfl (by decide) rfl rfl h54 dX7_takeBack_50 ?_
    refine lv_astore (lv' := [(5, .ref (ad 11 x.2.2.toNatClampNeg)), (0, .ref (ad 0 0)), (1, .int x1), (2, .ref (ad 2 x2)), (3, .int x.2.1), (4, .int x.2.2)]) hx hb dX7_takeBack_51 hl (by decide) rfl (fun ls hl => ?_)
    refine lv_aload hx hb dX7_takeBack_53 (lv_at hl 0 rfl) ?_
    refine lv_iload_n hx hb dX7_takeBack_55 rfl (lv_at hl 2 rfl) ?_
    obtain ⟨z56, hc55, hm⟩ := bindS hm
    refine g_calli (GG := GC cy ad) K hw (va_runV (As := [.int x1]) (rest := []) (g_fix K) (c_X0_isOf l D cy ad H.size n x.1 x.2.2.toNatClampNeg x1 (inB_lt h54) hc55) (cwV 1 (g_hts K) gX7_takeBack_X0_isOf rfl rfl rfl (by decide +kernel) ⟨Nat.le_of_ble_eq_true rfl, Nat.le_of_ble_eq_true rfl⟩) ⟨g_blind rides_none, g_recv K hw 11 rfl (inB_lt h54) rfl rfl, g_pre (X2 := fun _ _ => True) K hw (fun _ _ _ => trivial)⟩ rfl rfl hl.1 rfl (lv_room (Nat.le_of_ble_eq_true rfl)) dX7_takeBack_56 ⟨Nat.le_of_ble_eq_true rfl, Nat.le_of_ble_eq_true rfl⟩) (fun r u H locs hp hw => ?_)
    obtain ⟨rfl, hu⟩ := hp
    rw [hu] at hw
    refine lv_if_eq (tgt := 98) hx hb dX7_takeBack_59 (by decide) (fun c57 => ?_) (fun c57 => ?_)
    · replace hm := (if_pos c57).symm.trans hm
      obtain ⟨x58, hx58, hm⟩ := nm_ex hm
      refine lv_iinc (v := x58) (lv' := [(4, .int x58), (5, .ref (ad 11 x.2.2.toNatClampNeg)), (0, .ref (ad 0 0)), (1, .int x1), (2, .ref (ad 2 x2)), (3, .int x.2.1)]) hx hb dX7_takeBack_98 hl (k := 5) rfl (by rw [hx58]; rfl) (by decide) rfl (fun ls hl => ?_)
      refine lv_goto (tgt := 34) hx hb dX7_takeBack_101 (by decide) ?_
      obtain rfl := Option.some.inj hm
      exact hg H locs hw ls (lv_sub hl [2, 3, 4, 5, 0] rfl)
    · replace hm := (if_neg c57).symm.trans hm
      refine lv_aload_n hx hb dX7_takeBack_62 rfl (lv_at hl 1 rfl) ?_
      refine lv_aload hx hb dX7_takeBack_63 (lv_at hl 0 rfl) ?_
      refine lv_aload_n hx hb dX7_takeBack_65 rfl (lv_at hl 3 rfl) ?_
      refine g_get (ref := "MigrantHeap$Kind") (C := RX2) (T := TX2) (N := 4) (ci := 2) K in_X7_takeBack_X2 hw 2 rfl hb_x2 rfl rfl 3 (by decide) (List.mem_of_getElem? (i := 7) rfl) rfl rfl dX7_takeBack_66 ?_
      obtain ⟨z60, hc59, hm⟩ := bindS hm
      refine g_callv (GG := GC cy ad) K hw (va_runV (As := [.ref (ad 11 x.2.2.toNatClampNeg), .ref (ad 3 (2 * x2 + 1))]) (rest := []) (g_fix K) (c_X7_restore l D cy ad H.size n x.1 x.2.2.toNatClampNeg (2 * x2 + 1) (inB_lt h54) (by have := hb_x2; omega : (2 * x2 + 1) < 9) hc59) (cwV 2 (g_hts K) gX7_takeBack_X7_restore rfl rfl rfl (by decide +kernel) ⟨Nat.le_of_ble_eq_true rfl, Nat.le_of_ble_eq_true rfl⟩) ⟨g_blind rides_none, g_recv K hw 0 rfl (by decide : 0 < 1) rfl rfl, g_pre (X2 := fun _ _ => True) K hw (fun _ _ _ => trivial)⟩ rfl rfl hl.1 rfl (lv_room (Nat.le_of_ble_eq_true rfl)) dX7_takeBack_69 ⟨Nat.le_of_ble_eq_true rfl, Nat.le_of_ble_eq_true rfl⟩) (fun u H locs hp hw => ?_)
      obtain rfl := hp
      refine lv_aload hx hb dX7_takeBack_72 (lv_at hl 0 rfl) ?_
      refine g_get (ref := "MigrantHeap$Entry") (C := RX0) (T := TX0) (N := 6) (ci := 0) K in_X7_takeBack_X0 hw 11 rfl (inB_lt h54) rfl rfl 2 (by decide) (List.mem_of_getElem? (i := 8) rfl) rfl rfl dX7_takeBack_74 ?_
      refine lv_aload_n hx hb dX7_takeBack_77 rfl (lv_at hl 3 rfl) ?_
      refine g_get (ref := "MigrantHeap$Kind") (C := RX2) (T := TX2) (N := 4) (ci := 2) K in_X7_takeBack_X2 hw 2 rfl hb_x2 rfl rfl 0 (by decide) (List.mem_of_getElem? (i := 9) rfl) rfl rfl dX7_takeBack_78 ?_
      refine lv_icmp_ne (tgt := 98) hx hb dX7_takeBack_81 (by decide) (fun c61 => ?_) (fun c61 => ?_)
      · replace hm := (if_pos c61).symm.trans hm
        obtain ⟨x62, hx62, hm⟩ := nm_ex hm
        refine lv_iinc (v := x62) (lv' := [(4, .int x62), (5, .ref (ad 11 x.2.2.toNatClampNeg)), (0, .ref (ad 0 0)), (1, .int x1), (2, .ref (ad 2 x2)), (3, .int x.2.1)]) hx hb dX7_takeBack_98 hl (k := 5) rfl (by rw [hx62]; rfl) (by decide) rfl (fun ls hl => ?_)
        refine lv_goto (tgt := 34) hx hb dX7_takeBack_101 (by decide) ?_
        obtain rfl := Option.some.inj hm
        exact hg H locs hw ls (lv_sub hl [2, 3, 4, 5, 0] rfl)
      · replace hm := (if_neg (fun h => h c61)).symm.trans hm
        refine lv_aload hx hb dX7_takeBack_84 (lv_at hl 0 rfl) ?_
        refine lv_dup hx hb dX7_takeBack_86 rfl ?_
        refine g_get (ref := "MigrantHeap$Entry") (C := RX0) (T := TX0) (N := 6) (ci := 0) K in_X7_takeBack_X0 hw 11 rfl (inB_lt h54) rfl rfl 2 (by decide) (List.mem_of_getElem? (i := 8) rfl) rfl rfl dX7_takeBack_87 ?_
        refine lv_iconst (v := 1) hx hb dX7_takeBack_90 (by decide) ?_
        refine lv_isub hx hb dX7_takeBack_91 ?_
        refine g_put (v := .int ((z60.1 15 x.2.2.toNatClampNeg 0) - 1)) (ty := .int) (ref := "MigrantHeap$Entry") (C := RX0) (T := TX0) (N := 6) (ci := 0) K in_X7_takeBack_X0 tyX0 tyX0_ok nmX0 hw 11 rfl (inB_lt h54) rfl rfl 2 (by decide) (List.mem_of_getElem? (i := 8) rfl) rfl rfl (by decide +kernel) rfl rfl (Nat.le_of_ble_eq_true rfl) dX7_takeBack_92 (eC_15 cy ad z60 x.2.2.toNatClampNeg ((z60.1 15 x.2.2.toNatClampNeg 0) - 1)) (fun H locs hw => ?_)
        obtain ⟨S63, hS63, hm⟩ := nm_ex hm
        rw [← hS63] at hw
        obtain ⟨x64, hx64, hm⟩ := nm_ex hm
        refine lv_iinc (v := x64) (lv' := [(3, .int x64), (5, .ref (ad 11 x.2.2.toNatClampNeg)), (0, .ref (ad 0 0)), (1, .int x1), (2, .ref (ad 2 x2)), (4, .int x.2.2)]) hx hb dX7_takeBack_95 hl (k := 4) rfl (by rw [hx64]; rfl) (by decide) rfl (fun ls hl => ?_)
        obtain ⟨x65, hx65, hm⟩ := nm_ex hm
        refine lv_iinc (v := x65) (lv' := [(4, .int x65), (3, .int x64), (5, .ref (ad 11 x.2.2.toNatClampNeg)), (0, .ref (ad 0 0)), (1, .int x1), (2, .ref (ad 2 x2))]) hx hb dX7_takeBack_98 hl (k := 5) rfl (by rw [hx65]; rfl) (by decide) rfl (fun ls hl => ?_)
        refine lv_goto (tgt := 34) hx hb dX7_takeBack_101 (by decide) ?_
        obtain rfl := Option.some.inj hm
        exact hg H locs hw ls (lv_sub hl [3, 4, 5, 1, 0] rfl)
set_option maxRecDepth 100000 in
set_option maxHeartbeats 4000000 in
theorem t_X7_takeBack_0 (K : Cx p s m args meth c D A (tysC cy) RX7 cX7_takeBack 6 (some .int) wsX7_takeBack EV) (hno : ∀ x ∈ c.exceptionTable.toList, False) (hl9 : l.stackTraces = false) (n : Nat) (S : CSt) (x1 : Int32)  {out : (Int32 × CSt) ⊕ (Nat × CSt)} (hm : m_X7_takeBack n S x1 = some out) : ∀ (H : Heap) (locs : List Loc), Wd D A s.heap (GC cy ad S) H locs → ∀ ls : Array Slot, lv_has ls 6 [(0, .ref (ad 0 0)), (1, .int x1)] → W p l e rm_X7_takeBack s m args below meth c H locs 0 0 (vx_MQ below (va_Qi (fun r (u : CSt) => out = .inl (r, u)) (fun u => Pst D (tysC cy) A (GC cy ad u)) A) (XCx D (tysC cy) A (GC cy ad) out) args s 2 12 A) (F0 m 0 ls []) := by
  intro H locs hw ls hl
  obtain ⟨hx, hb, hml, hown, hts, hr, hlo, hK, hA, hX⟩ := id K
  unfold m_X7_takeBack at hm
  refine lv_aload_n hx hb dX7_takeBack_0 rfl (lv_at hl 0 rfl) ?_
  refine lv_iload_n hx hb dX7_takeBack_1 rfl (lv_at hl 1 rfl) ?_
  obtain ⟨z67, hc66, hm⟩ := bindS hm
  refine g_xcallv (GG := GC cy ad) K hno hw (vx_runV (As := [.int x1]) (rest := []) (g_fix K) (c_X7_needClass l hl9 D cy ad H.size n S x1  hc66) (cwV 1 (g_hts K) gX7_takeBack_X7_needClass rfl rfl rfl (by decide +kernel) ⟨Nat.le_of_ble_eq_true rfl, Nat.le_of_ble_eq_true rfl⟩) ⟨g_blind rides_EV, g_recv K hw 0 rfl (by decide : 0 < 1) rfl rfl, g_pre K hw (g_ride rides_EV K hw)⟩ rfl rfl hl.1 rfl (lv_room (Nat.le_of_ble_eq_true rfl)) dX7_takeBack_2 ⟨Nat.le_of_ble_eq_true rfl, Nat.le_of_ble_eq_true rfl⟩) (fun u hu => by subst hu; exact sumX hm) (Nat.le_of_ble_eq_true rfl) (Nat.le_of_ble_eq_true rfl) (fun u H locs hp hw => ?_)
  obtain ⟨hp, hu⟩ := hp
  rw [hu] at hw
  obtain ⟨w68, hw68⟩ : ∃ q : Unit, q = () := ⟨_, rfl⟩
  subst hp
  replace hm := (sumL _ _ _).symm.trans hm
  refine lv_aload_n hx hb dX7_takeBack_5 rfl (lv_at hl 0 rfl) ?_
  refine g_get (ref := "MigrantHeap") (C := RX7) (T := TX7) (N := 11) (ci := 7) K in_X7_takeBack_X7 hw 0 rfl (by decide : 0 < 1) rfl rfl 0 (by decide) (List.mem_of_getElem? (i := 3) rfl) rfl rfl dX7_takeBack_6 ?_
  refine lv_iload_n hx hb dX7_takeBack_9 rfl (lv_at hl 1 rfl) ?_
  obtain ⟨h69, hm⟩ := chkS hm
  refine g_aald K hw 1 4 rfl (by decide) rfl rfl h69 dX7_takeBack_10 ?_
  refine lv_astore_n (lv' := [(2, .ref (ad 2 x1.toNatClampNeg)), (0, .ref (ad 0 0)), (1, .int x1)]) hx hb dX7_takeBack_11 rfl hl (by decide) rfl (fun ls hl => ?_)
  refine lv_aload_n hx hb dX7_takeBack_12 rfl (lv_at hl 0 rfl) ?_
  refine g_get (ref := "MigrantHeap$Kind") (C := RX2) (T := TX2) (N := 4) (ci := 2) K in_X7_takeBack_X2 hw 2 rfl (inB_lt h69) rfl rfl 1 (by decide) (List.mem_of_getElem? (i := 4) rfl) rfl rfl dX7_takeBack_13 ?_
  refine lv_if_ne (tgt := 29) hx hb dX7_takeBack_16 (by decide) (fun c70 => ?_) (fun c70 => ?_)
  · replace hm := (if_pos c70).symm.trans hm
    refine lv_iconst (v := 0) hx hb dX7_takeBack_29 (by decide) ?_
    refine lv_istore_n (lv' := [(3, .int 0), (2, .ref (ad 2 x1.toNatClampNeg)), (0, .ref (ad 0 0)), (1, .int x1)]) hx hb dX7_takeBack_30 rfl hl (by decide) rfl (fun ls hl => ?_)
    refine lv_iconst (v := 0) hx hb dX7_takeBack_31 (by decide) ?_
    refine lv_istore (lv' := [(4, .int 0), (3, .int 0), (2, .ref (ad 2 x1.toNatClampNeg)), (0, .ref (ad 0 0)), (1, .int x1)]) hx hb dX7_takeBack_32 hl (by decide) rfl (fun ls hl => ?_)
    obtain ⟨z71, hz72, hm⟩ := bindS hm
    refine t_X7_takeBack_L34 K hno hl9 n x1 x1.toNatClampNeg (inB_lt h69) z71 (fun w73 hww73 => ?_) ((S, 0, 0)) hz72 H locs hw ls (lv_sub hl [3, 4, 2, 1, 0] rfl)
    · intro H locs hw ls hl 
      try rw [hww73] at hm
      refine lv_aload_n hx hb dX7_takeBack_104 rfl (lv_at hl 0 rfl) ?_
      refine g_get (ref := "MigrantHeap$Kind") (C := RX2) (T := TX2) (N := 4) (ci := 2) K in_X7_takeBack_X2 hw 2 rfl (inB_lt h69) rfl rfl 2 (by decide) (List.mem_of_getElem? (i := 10) rfl) rfl rfl dX7_takeBack_105 ?_
      refine lv_aload_n hx hb dX7_takeBack_108 rfl (lv_at hl 0 rfl) ?_
      refine g_get (ref := "MigrantHeap$Kind") (C := RX2) (T := TX2) (N := 4) (ci := 2) K in_X7_takeBack_X2 hw 2 rfl (inB_lt h69) rfl rfl 3 (by decide) (List.mem_of_getElem? (i := 7) rfl) rfl rfl dX7_takeBack_109 ?_
      obtain ⟨z75, hc74, hm⟩ := bindS hm
      refine g_callv (GG := GC cy ad) K hw (va_runV (As := [.ref (ad 3 (2 * x1.toNatClampNeg + 1))]) (rest := []) (g_fix K) (c_X4_copyFrom l D cy ad H.size n w73.1 (2 * x1.toNatClampNeg) (2 * x1.toNatClampNeg + 1) (by have := (inB_lt h69); omega : (2 * x1.toNatClampNeg) < 9) (by have := (inB_lt h69); omega : (2 * x1.toNatClampNeg + 1) < 9) hc74) (cwV 1 (g_hts K) gX7_takeBack_X4_copyFrom rfl rfl rfl (by decide +kernel) ⟨Nat.le_of_ble_eq_true rfl, Nat.le_of_ble_eq_true rfl⟩) ⟨g_blind rides_none, g_recv K hw 3 rfl (by have := (inB_lt h69); omega : (2 * x1.toNatClampNeg) < 9) rfl rfl, g_pre (X2 := fun _ _ => True) K hw (fun _ _ _ => trivial)⟩ rfl rfl hl.1 rfl (lv_room (Nat.le_of_ble_eq_true rfl)) dX7_takeBack_112 ⟨Nat.le_of_ble_eq_true rfl, Nat.le_of_ble_eq_true rfl⟩) (fun u H locs hp hw => ?_)
      obtain rfl := hp
      refine lv_aload_n hx hb dX7_takeBack_115 rfl (lv_at hl 0 rfl) ?_
      refine lv_dup hx hb dX7_takeBack_116 rfl ?_
      refine g_get (ref := "MigrantHeap$Kind") (C := RX2) (T := TX2) (N := 4) (ci := 2) K in_X7_takeBack_X2 hw 2 rfl (inB_lt h69) rfl rfl 0 (by decide) (List.mem_of_getElem? (i := 9) rfl) rfl rfl dX7_takeBack_117 ?_
      refine lv_iconst (v := 1) hx hb dX7_takeBack_120 (by decide) ?_
      refine lv_isub hx hb dX7_takeBack_121 ?_
      refine g_put (v := .int ((z75.1 3 x1.toNatClampNeg 0) - 1)) (ty := .int) (ref := "MigrantHeap$Kind") (C := RX2) (T := TX2) (N := 4) (ci := 2) K in_X7_takeBack_X2 tyX2 tyX2_ok nmX2 hw 2 rfl (inB_lt h69) rfl rfl 0 (by decide) (List.mem_of_getElem? (i := 9) rfl) rfl rfl (by decide +kernel) rfl rfl (Nat.le_of_ble_eq_true rfl) dX7_takeBack_122 (eC_3 cy ad z75 x1.toNatClampNeg ((z75.1 3 x1.toNatClampNeg 0) - 1)) (fun H locs hw => ?_)
      obtain ⟨S76, hS76, hm⟩ := nm_ex hm
      rw [← hS76] at hw
      refine lv_aload_n hx hb dX7_takeBack_125 rfl (lv_at hl 0 rfl) ?_
      refine lv_iconst (v := 0) hx hb dX7_takeBack_126 (by decide) ?_
      refine g_put (v := .int 0) (ty := .boolean) (ref := "MigrantHeap$Kind") (C := RX2) (T := TX2) (N := 4) (ci := 2) K in_X7_takeBack_X2 tyX2 tyX2_ok nmX2 hw 2 rfl (inB_lt h69) rfl rfl 1 (by decide) (List.mem_of_getElem? (i := 4) rfl) rfl rfl (by decide +kernel) rfl rfl (Nat.le_of_ble_eq_true rfl) dX7_takeBack_127 (eC_4 cy ad S76 x1.toNatClampNeg 0) (fun H locs hw => ?_)
      obtain ⟨S77, hS77, hm⟩ := nm_ex hm
      rw [← hS77] at hw
      refine lv_iload_n hx hb dX7_takeBack_130 rfl (lv_at hl 1 rfl) ?_
      refine vx_ret (W.widen (k := 2) (n := 12) (Nat.le_of_ble_eq_true rfl) (Nat.le_of_ble_eq_true rfl) ?_)
      exact g_iret (GG := GC cy ad) K hw (Option.some.inj hm).symm dX7_takeBack_131
  · replace hm := (if_neg (fun h => h c70)).symm.trans hm
    obtain ⟨sa78, hs79⟩ := hX.2.1 (197, _) (List.mem_of_getElem? (i := 11) rfl)
    exact vx_throwS (own := RX7) (cls := "java/lang/IllegalStateException") (names := rteL) (sa := sa78) hx hb hl9 hown (by decide +kernel) (by decide +kernel) (hts _ (List.mem_of_getElem? (i := 1) rfl)) (hts _ (List.mem_of_getElem? (i := 2) rfl)) hs79 (ev_hat hX (by decide) hts (by decide +kernel) (by decide +kernel)) (by decide +kernel) hX.2.2.2.2.1 hX.2.2.2.2.2 hw.2.2 (hl.1.trans hml.symm) dX7_takeBack_19 dX7_takeBack_22 dX7_takeBack_23 dX7_takeBack_25 dX7_takeBack_28 (fun x h => (hno x h).elim) (Nat.le_of_ble_eq_true rfl) (Nat.le_of_ble_eq_true rfl) (Nat.le_of_ble_eq_true rfl) (Nat.le_of_ble_eq_true rfl) hlo (g_xc (GG := GC cy ad) K hw (Option.some.inj hm).symm rfl) hw.2.2.2.2 (Nat.le_of_ble_eq_true rfl) (Nat.le_of_ble_eq_true rfl)
set_option maxRecDepth 100000 in
set_option maxHeartbeats 4000000 in
theorem c_X7_takeBack (l : Launch) (hl9 : l.stackTraces = false) (D : va_G) (cy : Nat → ClassId) (ad : Nat → Nat → Nat) (sz n : Nat) (S : CSt) (x1 : Int32)  {out : (Int32 × CSt) ⊕ (Nat × CSt)} (hm : m_X7_takeBack n S x1 = some out) : vx_Met l yX7_takeBack wsX7_takeBack rm_X7_takeBack (va_Pc [.ref (ad 0 0), .int x1] (Pre D (tysC cy) (GC cy ad S) EV sz)) (va_Qi (fun r (u : CSt) => out = .inl (r, u)) (fun u => Pst D (tysC cy) (AA (adrs (GC cy ad S)) sz) (GC cy ad u)) (AA (adrs (GC cy ad S)) sz)) (XCx D (tysC cy) (AA (adrs (GC cy ad S)) sz) (GC cy ad) out) 2 12 (AA (adrs (GC cy ad S)) sz) := by
  refine g_xmet (by decide) rfl (Nat.le_of_ble_eq_true rfl) ?_
  intro p e s m args below meth c K hno hw ls hl
  exact t_X7_takeBack_0 (cy := cy) K hno hl9 n S x1  hm _ _ hw ls hl
end W_X7_takeBack
section W_X7_versionOf
variable {p : Program} {l : Launch} {e : Env} {s : State} {m : MethodId} {args : Array Value} {below : List Frame} {meth : Method} {c : Code} {D : va_G} {A : Nat → Prop} {cy : Nat → ClassId} {ad : Nat → Nat → Nat} {Q : State → Prop}
abbrev rm_X7_versionOf : Room := { frames := 7, cells := 2, slots := 12, locals := 122 }
theorem in_X7_versionOf_X0 : ∀ w ∈ u_ws RX0 TX0 6, w ∈ wsX7_versionOf := by decide +kernel
set_option maxRecDepth 100000 in
set_option maxHeartbeats 4000000 in
theorem t_X7_versionOf_0 (K : Cx p s m args meth c D A (tysC cy) RX7 cX7_versionOf 2 (some .int) wsX7_versionOf EV) (hno : ∀ x ∈ c.exceptionTable.toList, False) (hl9 : l.stackTraces = false) (n : Nat) (S : CSt) (x1 : Int32)  {out : (Int32) ⊕ (Nat × CSt)} (hm : m_X7_versionOf n S x1 = some out) : ∀ (H : Heap) (locs : List Loc), Wd D A s.heap (GC cy ad S) H locs → ∀ ls : Array Slot, lv_has ls 2 [(0, .ref (ad 0 0)), (1, .int x1)] → W p l e rm_X7_versionOf s m args below meth c H locs 0 0 (vx_MQ below (va_Qi (fun r (u : CSt) => out = .inl r ∧ u = S) (fun u => Pst D (tysC cy) A (GC cy ad u)) A) (XCx D (tysC cy) A (GC cy ad) out) args s 2 12 A) (F0 m 0 ls []) := by
  intro H locs hw ls hl
  obtain ⟨hx, hb, hml, hown, hts, hr, hlo, hK, hA, hX⟩ := id K
  unfold m_X7_versionOf at hm
  refine lv_iload_n hx hb dX7_versionOf_0 rfl (lv_at hl 1 rfl) ?_
  obtain ⟨z14, hc13, hm⟩ := bindS hm
  refine g_xcallv (GG := GC cy ad) K hno hw (vx_runS (As := [.int x1]) (rest := []) (g_fix K) (c_X7_needRoot l hl9 D cy ad H.size n S x1  hc13) (va_cwS 1 (g_hts K) gX7_versionOf_X7_needRoot rfl rfl rfl (by decide +kernel) ⟨Nat.le_of_ble_eq_true rfl, Nat.le_of_ble_eq_true rfl⟩) ⟨g_blind rides_EV, g_pre K hw (g_ride rides_EV K hw)⟩ rfl rfl hl.1 rfl (lv_room (Nat.le_of_ble_eq_true rfl)) dX7_versionOf_1 ⟨Nat.le_of_ble_eq_true rfl, Nat.le_of_ble_eq_true rfl⟩) (fun u hu => by subst hu; exact sumX hm) (Nat.le_of_ble_eq_true rfl) (Nat.le_of_ble_eq_true rfl) (fun u H locs hp hw => ?_)
  obtain ⟨hp, hu⟩ := hp
  rw [hu] at hw
  obtain ⟨w15, hw15⟩ : ∃ q : Unit, q = () := ⟨_, rfl⟩
  subst hp
  replace hm := (sumL _ _ _).symm.trans hm
  refine lv_aload_n hx hb dX7_versionOf_4 rfl (lv_at hl 0 rfl) ?_
  refine lv_iload_n hx hb dX7_versionOf_5 rfl (lv_at hl 1 rfl) ?_
  obtain ⟨z17, hc16, hm⟩ := bindS hm
  refine g_xcallq (GG := GC cy ad) K hno hw (vx_runV (As := [.int x1]) (rest := []) (g_fix K) (c_X7_heldBy l hl9 D cy ad H.size n S x1  hc16) (cwV 1 (g_hts K) gX7_versionOf_X7_heldBy rfl rfl rfl (by decide +kernel) ⟨Nat.le_of_ble_eq_true rfl, Nat.le_of_ble_eq_true rfl⟩) ⟨g_blind rides_EV, g_recv K hw 0 rfl (by decide : 0 < 1) rfl rfl, g_pre K hw (g_ride rides_EV K hw)⟩ rfl rfl hl.1 rfl (lv_room (Nat.le_of_ble_eq_true rfl)) dX7_versionOf_6 ⟨Nat.le_of_ble_eq_true rfl, Nat.le_of_ble_eq_true rfl⟩) (fun u hu => by subst hu; exact sumX hm) (Nat.le_of_ble_eq_true rfl) (Nat.le_of_ble_eq_true rfl) (fun r u H locs hp hw => ?_)
  obtain ⟨⟨w18, hp, rfl⟩, hu⟩ := hp
  rw [hu] at hw
  subst hp
  replace hm := (sumL _ _ _).symm.trans hm
  obtain ⟨hw18_b, hm⟩ := chkS hm
  replace hw18_b := of_decide_eq_true hw18_b
  refine g_get (ref := "MigrantHeap$Entry") (C := RX0) (T := TX0) (N := 6) (ci := 0) K in_X7_versionOf_X0 hw 11 rfl hw18_b rfl rfl 2 (by decide) (List.mem_of_getElem? (i := 1) rfl) rfl rfl dX7_versionOf_9 ?_
  refine vx_ret (W.widen (k := 2) (n := 12) (Nat.le_of_ble_eq_true rfl) (Nat.le_of_ble_eq_true rfl) ?_)
  exact g_iret (GG := GC cy ad) K hw ⟨(Option.some.inj hm).symm, rfl⟩ dX7_versionOf_12
set_option maxRecDepth 100000 in
set_option maxHeartbeats 4000000 in
theorem c_X7_versionOf (l : Launch) (hl9 : l.stackTraces = false) (D : va_G) (cy : Nat → ClassId) (ad : Nat → Nat → Nat) (sz n : Nat) (S : CSt) (x1 : Int32)  {out : (Int32) ⊕ (Nat × CSt)} (hm : m_X7_versionOf n S x1 = some out) : vx_Met l yX7_versionOf wsX7_versionOf rm_X7_versionOf (va_Pc [.ref (ad 0 0), .int x1] (Pre D (tysC cy) (GC cy ad S) EV sz)) (va_Qi (fun r (u : CSt) => out = .inl r ∧ u = S) (fun u => Pst D (tysC cy) (AA (adrs (GC cy ad S)) sz) (GC cy ad u)) (AA (adrs (GC cy ad S)) sz)) (XCx D (tysC cy) (AA (adrs (GC cy ad S)) sz) (GC cy ad) out) 2 12 (AA (adrs (GC cy ad S)) sz) := by
  refine g_xmet (by decide) rfl (Nat.le_of_ble_eq_true rfl) ?_
  intro p e s m args below meth c K hno hw ls hl
  exact t_X7_versionOf_0 (cy := cy) K hno hl9 n S x1  hm _ _ hw ls hl
end W_X7_versionOf
section W_X7_touch
variable {p : Program} {l : Launch} {e : Env} {s : State} {m : MethodId} {args : Array Value} {below : List Frame} {meth : Method} {c : Code} {D : va_G} {A : Nat → Prop} {cy : Nat → ClassId} {ad : Nat → Nat → Nat} {Q : State → Prop}
abbrev rm_X7_touch : Room := { frames := 7, cells := 2, slots := 12, locals := 122 }
set_option maxRecDepth 100000 in
set_option maxHeartbeats 4000000 in
theorem t_X7_touch_0 (K : Cx p s m args meth c D A (tysC cy) RX7 cX7_touch 2 (some .int) wsX7_touch EV) (hno : ∀ x ∈ c.exceptionTable.toList, False) (hl9 : l.stackTraces = false) (n : Nat) (S : CSt) (x1 : Int32)  {out : (Int32 × CSt) ⊕ (Nat × CSt)} (hm : m_X7_touch n S x1 = some out) : ∀ (H : Heap) (locs : List Loc), Wd D A s.heap (GC cy ad S) H locs → ∀ ls : Array Slot, lv_has ls 2 [(0, .ref (ad 0 0)), (1, .int x1)] → W p l e rm_X7_touch s m args below meth c H locs 0 0 (vx_MQ below (va_Qi (fun r (u : CSt) => out = .inl (r, u)) (fun u => Pst D (tysC cy) A (GC cy ad u)) A) (XCx D (tysC cy) A (GC cy ad) out) args s 2 12 A) (F0 m 0 ls []) := by
  intro H locs hw ls hl
  obtain ⟨hx, hb, hml, hown, hts, hr, hlo, hK, hA, hX⟩ := id K
  unfold m_X7_touch at hm
  refine lv_iload_n hx hb dX7_touch_0 rfl (lv_at hl 1 rfl) ?_
  obtain ⟨z18, hc17, hm⟩ := bindS hm
  refine g_xcallv (GG := GC cy ad) K hno hw (vx_runS (As := [.int x1]) (rest := []) (g_fix K) (c_X7_needRoot l hl9 D cy ad H.size n S x1  hc17) (va_cwS 1 (g_hts K) gX7_touch_X7_needRoot rfl rfl rfl (by decide +kernel) ⟨Nat.le_of_ble_eq_true rfl, Nat.le_of_ble_eq_true rfl⟩) ⟨g_blind rides_EV, g_pre K hw (g_ride rides_EV K hw)⟩ rfl rfl hl.1 rfl (lv_room (Nat.le_of_ble_eq_true rfl)) dX7_touch_1 ⟨Nat.le_of_ble_eq_true rfl, Nat.le_of_ble_eq_true rfl⟩) (fun u hu => by subst hu; exact sumX hm) (Nat.le_of_ble_eq_true rfl) (Nat.le_of_ble_eq_true rfl) (fun u H locs hp hw => ?_)
  obtain ⟨hp, hu⟩ := hp
  rw [hu] at hw
  obtain ⟨w19, hw19⟩ : ∃ q : Unit, q = () := ⟨_, rfl⟩
  subst hp
  replace hm := (sumL _ _ _).symm.trans hm
  refine lv_aload_n hx hb dX7_touch_4 rfl (lv_at hl 0 rfl) ?_
  refine lv_aload_n hx hb dX7_touch_5 rfl (lv_at hl 0 rfl) ?_
  refine lv_iload_n hx hb dX7_touch_6 rfl (lv_at hl 1 rfl) ?_
  obtain ⟨z21, hc20, hm⟩ := bindS hm
  refine g_xcallq (GG := GC cy ad) K hno hw (vx_runV (As := [.int x1]) (rest := [.ref (ad 0 0)]) (g_fix K) (c_X7_heldBy l hl9 D cy ad H.size n S x1  hc20) (cwV 1 (g_hts K) gX7_touch_X7_heldBy rfl rfl rfl (by decide +kernel) ⟨Nat.le_of_ble_eq_true rfl, Nat.le_of_ble_eq_true rfl⟩) ⟨g_blind rides_EV, g_recv K hw 0 rfl (by decide : 0 < 1) rfl rfl, g_pre K hw (g_ride rides_EV K hw)⟩ rfl rfl hl.1 rfl (lv_room (Nat.le_of_ble_eq_true rfl)) dX7_touch_7 ⟨Nat.le_of_ble_eq_true rfl, Nat.le_of_ble_eq_true rfl⟩) (fun u hu => by subst hu; exact sumX hm) (Nat.le_of_ble_eq_true rfl) (Nat.le_of_ble_eq_true rfl) (fun r u H locs hp hw => ?_)
  obtain ⟨⟨w22, hp, rfl⟩, hu⟩ := hp
  rw [hu] at hw
  subst hp
  replace hm := (sumL _ _ _).symm.trans hm
  obtain ⟨hw22_b, hm⟩ := chkS hm
  replace hw22_b := of_decide_eq_true hw22_b
  obtain ⟨z24, hc23, hm⟩ := bindS hm
  refine g_calli (GG := GC cy ad) K hw (va_runV (As := [.ref (ad 11 w22)]) (rest := []) (g_fix K) (c_X7_bringForward l D cy ad H.size n S w22 hw22_b hc23) (cwV 1 (g_hts K) gX7_touch_X7_bringForward rfl rfl rfl (by decide +kernel) ⟨Nat.le_of_ble_eq_true rfl, Nat.le_of_ble_eq_true rfl⟩) ⟨g_blind rides_none, g_recv K hw 0 rfl (by decide : 0 < 1) rfl rfl, g_pre (X2 := fun _ _ => True) K hw (fun _ _ _ => trivial)⟩ rfl rfl hl.1 rfl (lv_room (Nat.le_of_ble_eq_true rfl)) dX7_touch_10 ⟨Nat.le_of_ble_eq_true rfl, Nat.le_of_ble_eq_true rfl⟩) (fun r u H locs hp hw => ?_)
  obtain ⟨rfl, rfl⟩ : r = z24.1 ∧ u = z24.2 := by rw [hp]; exact ⟨rfl, rfl⟩
  refine vx_ret (W.widen (k := 2) (n := 12) (Nat.le_of_ble_eq_true rfl) (Nat.le_of_ble_eq_true rfl) ?_)
  exact g_iret (GG := GC cy ad) K hw (Option.some.inj hm).symm dX7_touch_13
set_option maxRecDepth 100000 in
set_option maxHeartbeats 4000000 in
theorem c_X7_touch (l : Launch) (hl9 : l.stackTraces = false) (D : va_G) (cy : Nat → ClassId) (ad : Nat → Nat → Nat) (sz n : Nat) (S : CSt) (x1 : Int32)  {out : (Int32 × CSt) ⊕ (Nat × CSt)} (hm : m_X7_touch n S x1 = some out) : vx_Met l yX7_touch wsX7_touch rm_X7_touch (va_Pc [.ref (ad 0 0), .int x1] (Pre D (tysC cy) (GC cy ad S) EV sz)) (va_Qi (fun r (u : CSt) => out = .inl (r, u)) (fun u => Pst D (tysC cy) (AA (adrs (GC cy ad S)) sz) (GC cy ad u)) (AA (adrs (GC cy ad S)) sz)) (XCx D (tysC cy) (AA (adrs (GC cy ad S)) sz) (GC cy ad) out) 2 12 (AA (adrs (GC cy ad S)) sz) := by
  refine g_xmet (by decide) rfl (Nat.le_of_ble_eq_true rfl) ?_
  intro p e s m args below meth c K hno hw ls hl
  exact t_X7_touch_0 (cy := cy) K hno hl9 n S x1  hm _ _ hw ls hl
end W_X7_touch
