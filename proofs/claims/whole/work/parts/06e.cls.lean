section W_X7_newFamily_d1
variable {p : Program} {l : Launch} {e : Env} {s : State} {m : MethodId} {args : Array Value} {below : List Frame} {meth : Method} {c : Code} {D : va_G} {A : Nat → Prop} {cy : Nat → ClassId} {ad : Nat → Nat → Nat} {Q : State → Prop}
abbrev rm_X7_newFamily_d1 : Room := { frames := 6, cells := 0, slots := 0, locals := 142 }
set_option maxRecDepth 100000 in
set_option maxHeartbeats 4000000 in
theorem t_X7_newFamily_d1_L33 (K : Cx p s m args meth c D A (tysC cy) RX7 cX7_newFamily 6 (some .int) wsX7_newFamily (fun _ _ => True)) (n : Nat) (x2 : Int32) (x3 : Nat) (x4 : Nat) (hb_x3 : x3 < 24) (hb_x4 : x4 < 9) (z : CSt) (hE0 : ∀ w : CSt, z = w → ∀ (H : Heap) (locs : List Loc), Wd D A s.heap (GC cy ad w) H locs → ∀ ls : Array Slot, lv_has ls 6 [(3, .ref (ad 11 x3))] → W p l e rm_X7_newFamily_d1 s m args below meth c H locs 0 0 Q (F0 m 132 ls [])) : ∀ (x : (CSt × Int32)), lpO (b_X7_newFamily_d1_33 n x2 x3 x4) n x = some z → (fun (x : (CSt × Int32)) => ∀ (H : Heap) (locs : List Loc), Wd D A s.heap (GC cy ad x.1) H locs → ∀ ls : Array Slot, lv_has ls 6 [(0, .ref (ad 0 0)), (2, .int x2), (3, .ref (ad 11 x3)), (4, .ref (ad 3 x4)), (5, .int x.2)] → W p l e rm_X7_newFamily_d1 s m args below meth c H locs 0 0 Q (F0 m 33 ls [])) x := by
  intro x hx0
  refine lpO_ind2 (P := fun (x : (CSt × Int32)) => ∀ (H : Heap) (locs : List Loc), Wd D A s.heap (GC cy ad x.1) H locs → ∀ ls : Array Slot, lv_has ls 6 [(0, .ref (ad 0 0)), (2, .int x2), (3, .ref (ad 11 x3)), (4, .ref (ad 3 x4)), (5, .int x.2)] → W p l e rm_X7_newFamily_d1 s m args below meth c H locs 0 0 Q (F0 m 33 ls [])) (z := z) ?_ n x hx0
  clear hx0 x
  intro x out hm hg H locs hw ls hl 
  obtain ⟨hx, hb, hml, hown, hts, hr, hlo, hK, hA, hX⟩ := id K
  unfold b_X7_newFamily_d1_33 at hm
  refine lv_iload hx hb dX7_newFamily_33 (lv_at hl 4 rfl) ?_
  refine lv_aload hx hb dX7_newFamily_35 (lv_at hl 3 rfl) ?_
  refine g_get (ref := "MigrantHeap$Shape") (C := RX4) (T := TX4) (N := 6) (ci := 4) K in_X7_newFamily_X4 hw 3 rfl hb_x4 rfl rfl 0 (by decide) (List.mem_of_getElem? (i := 3) rfl) rfl rfl dX7_newFamily_37 ?_
  refine lv_icmp_ge (tgt := 132) hx hb dX7_newFamily_40 (by decide) (fun c71 => ?_) (fun c71 => ?_)
  · replace hm := (if_pos c71).symm.trans hm
    obtain rfl := Option.some.inj hm
    exact hE0 _ hg.symm H locs hw ls (lv_sub hl [2] rfl)
  · replace hm := (if_neg c71).symm.trans hm
    refine lv_aload hx hb dX7_newFamily_43 (lv_at hl 3 rfl) ?_
    refine lv_iload hx hb dX7_newFamily_45 (lv_at hl 4 rfl) ?_
    obtain ⟨z73, hc72, hm⟩ := bindS hm
    refine g_calli (GG := GC cy ad) K hw (va_runV (As := [.int x.2]) (rest := []) (g_fix K) (c_X4_isNumber l D cy ad H.size n x.1 x4 x.2 hb_x4 hc72) (cwV 1 (g_hts K) gX7_newFamily_X4_isNumber rfl rfl rfl (by decide +kernel) ⟨Nat.le_of_ble_eq_true rfl, Nat.le_of_ble_eq_true rfl⟩) ⟨g_blind rides_none, g_recv K hw 3 rfl hb_x4 rfl rfl, g_pre (X2 := fun _ _ => True) K hw (fun _ _ _ => trivial)⟩ rfl rfl hl.1 rfl (lv_room (Nat.le_of_ble_eq_true rfl)) dX7_newFamily_47 ⟨Nat.le_of_ble_eq_true rfl, Nat.le_of_ble_eq_true rfl⟩) (fun r u H locs hp hw => ?_)
    obtain ⟨rfl, hu⟩ := hp
    rw [hu] at hw
    refine lv_if_eq (tgt := 83) hx hb dX7_newFamily_50 (by decide) (fun c74 => ?_) (fun c74 => ?_)
    · replace hm := (if_pos c74).symm.trans hm
      refine lv_aload hx hb dX7_newFamily_83 (lv_at hl 3 rfl) ?_
      refine lv_iload hx hb dX7_newFamily_85 (lv_at hl 4 rfl) ?_
      obtain ⟨z76, hc75, hm⟩ := bindS hm
      refine g_calli (GG := GC cy ad) K hw (va_runV (As := [.int x.2]) (rest := []) (g_fix K) (c_X4_isOwning l D cy ad H.size n x.1 x4 x.2 hb_x4 hc75) (cwV 1 (g_hts K) gX7_newFamily_X4_isOwning rfl rfl rfl (by decide +kernel) ⟨Nat.le_of_ble_eq_true rfl, Nat.le_of_ble_eq_true rfl⟩) ⟨g_blind rides_none, g_recv K hw 3 rfl hb_x4 rfl rfl, g_pre (X2 := fun _ _ => True) K hw (fun _ _ _ => trivial)⟩ rfl rfl hl.1 rfl (lv_room (Nat.le_of_ble_eq_true rfl)) dX7_newFamily_87 ⟨Nat.le_of_ble_eq_true rfl, Nat.le_of_ble_eq_true rfl⟩) (fun r u H locs hp hw => ?_)
      obtain ⟨rfl, hu⟩ := hp
      rw [hu] at hw
      refine lv_if_eq (tgt := 118) hx hb dX7_newFamily_90 (by decide) (fun c77 => ?_) (fun c77 => ?_)
      · replace hm := (if_pos c77).symm.trans hm
        refine lv_aload_n hx hb dX7_newFamily_118 rfl (lv_at hl 2 rfl) ?_
        refine g_get (ref := "MigrantHeap$Entry") (C := RX0) (T := TX0) (N := 6) (ci := 0) K in_X7_newFamily_X0 hw 11 rfl hb_x3 rfl rfl 4 (by decide) (List.mem_of_getElem? (i := 4) rfl) rfl rfl dX7_newFamily_119 ?_
        refine lv_iload hx hb dX7_newFamily_122 (lv_at hl 4 rfl) ?_
        refine lv_iconst (v := 0) hx hb dX7_newFamily_124 (by decide) ?_
        obtain ⟨h78, hm⟩ := chkS hm
        refine g_iast K hw 12 0 rfl hb_x3 rfl rfl h78 dX7_newFamily_125 (eC_17 cy ad x.1 x3 x.2.toNatClampNeg 0) (fun H locs hw => ?_)
        obtain ⟨S79, hS79, hm⟩ := nm_ex hm
        rw [← hS79] at hw
        obtain ⟨x80, hx80, hm⟩ := nm_ex hm
        refine lv_iinc (v := x80) (lv' := [(5, .int x80), (0, .ref (ad 0 0)), (2, .int x2), (3, .ref (ad 11 x3)), (4, .ref (ad 3 x4))]) hx hb dX7_newFamily_126 hl (k := 4) rfl (by rw [hx80]; rfl) (by decide) rfl (fun ls hl => ?_)
        refine lv_goto (tgt := 33) hx hb dX7_newFamily_129 (by decide) ?_
        obtain rfl := Option.some.inj hm
        exact hg H locs hw ls (lv_sub hl [1, 2, 3, 4, 0] rfl)
      · replace hm := (if_neg c77).symm.trans hm
        refine lv_aload_n hx hb dX7_newFamily_93 rfl (lv_at hl 2 rfl) ?_
        refine g_get (ref := "MigrantHeap$Entry") (C := RX0) (T := TX0) (N := 6) (ci := 0) K in_X7_newFamily_X0 hw 11 rfl hb_x3 rfl rfl 4 (by decide) (List.mem_of_getElem? (i := 4) rfl) rfl rfl dX7_newFamily_94 ?_
        refine lv_iload hx hb dX7_newFamily_97 (lv_at hl 4 rfl) ?_
        refine lv_aload_n hx hb dX7_newFamily_99 rfl (lv_at hl 0 rfl) ?_
        refine lv_aload hx hb dX7_newFamily_100 (lv_at hl 3 rfl) ?_
        refine g_get (ref := "MigrantHeap$Shape") (C := RX4) (T := TX4) (N := 6) (ci := 4) K in_X7_newFamily_X4 hw 3 rfl hb_x4 rfl rfl 3 (by decide) (List.mem_of_getElem? (i := 5) rfl) rfl rfl dX7_newFamily_102 ?_
        refine lv_iload hx hb dX7_newFamily_105 (lv_at hl 4 rfl) ?_
        obtain ⟨h81, hm⟩ := chkS hm
        refine g_iald K hw 6 0 rfl hb_x4 rfl rfl h81 dX7_newFamily_107 ?_
        refine lv_iload_n hx hb dX7_newFamily_108 rfl (lv_at hl 1 rfl) ?_
        refine lv_iconst (v := 1) hx hb dX7_newFamily_109 (by decide) ?_
        refine lv_iadd hx hb dX7_newFamily_110 ?_
        obtain ⟨z83, hc82, hm⟩ := bindS hm
        refine g_calli (GG := GC cy ad) K hw (va_runV (As := [.int (x.1.1 8 x4 x.2.toNatClampNeg), .int (x2 + 1)]) (rest := [.int x.2, .ref (ad 12 x3)]) (g_fix K) (c_X7_newFamily_d2 l D cy ad H.size n x.1 (x.1.1 8 x4 x.2.toNatClampNeg) (x2 + 1)  hc82) (cwV 2 (g_hts K) gX7_newFamily_X7_newFamily rfl rfl rfl (by decide +kernel) ⟨Nat.le_of_ble_eq_true rfl, Nat.le_of_ble_eq_true rfl⟩) ⟨g_blind rides_none, g_recv K hw 0 rfl (by decide : 0 < 1) rfl rfl, g_pre (X2 := fun _ _ => True) K hw (fun _ _ _ => trivial)⟩ rfl rfl hl.1 rfl (lv_room (Nat.le_of_ble_eq_true rfl)) dX7_newFamily_111 ⟨Nat.le_of_ble_eq_true rfl, Nat.le_of_ble_eq_true rfl⟩) (fun r u H locs hp hw => ?_)
        obtain ⟨rfl, rfl⟩ : r = z83.1 ∧ u = z83.2 := by rw [hp]; exact ⟨rfl, rfl⟩
        obtain ⟨h84, hm⟩ := chkS hm
        refine g_iast K hw 12 0 rfl hb_x3 rfl rfl h84 dX7_newFamily_114 (eC_17 cy ad z83.2 x3 x.2.toNatClampNeg z83.1) (fun H locs hw => ?_)
        obtain ⟨S85, hS85, hm⟩ := nm_ex hm
        rw [← hS85] at hw
        refine lv_goto (tgt := 126) hx hb dX7_newFamily_115 (by decide) ?_
        obtain ⟨x86, hx86, hm⟩ := nm_ex hm
        refine lv_iinc (v := x86) (lv' := [(5, .int x86), (0, .ref (ad 0 0)), (2, .int x2), (3, .ref (ad 11 x3)), (4, .ref (ad 3 x4))]) hx hb dX7_newFamily_126 hl (k := 4) rfl (by rw [hx86]; rfl) (by decide) rfl (fun ls hl => ?_)
        refine lv_goto (tgt := 33) hx hb dX7_newFamily_129 (by decide) ?_
        obtain rfl := Option.some.inj hm
        exact hg H locs hw ls (lv_sub hl [1, 2, 3, 4, 0] rfl)
    · replace hm := (if_neg c74).symm.trans hm
      refine lv_aload_n hx hb dX7_newFamily_53 rfl (lv_at hl 2 rfl) ?_
      refine g_get (ref := "MigrantHeap$Entry") (C := RX0) (T := TX0) (N := 6) (ci := 0) K in_X7_newFamily_X0 hw 11 rfl hb_x3 rfl rfl 4 (by decide) (List.mem_of_getElem? (i := 4) rfl) rfl rfl dX7_newFamily_54 ?_
      refine lv_iload hx hb dX7_newFamily_57 (lv_at hl 4 rfl) ?_
      refine lv_iconst (v := 0) hx hb dX7_newFamily_59 (by decide) ?_
      refine lv_aload hx hb dX7_newFamily_60 (lv_at hl 3 rfl) ?_
      refine g_get (ref := "MigrantHeap$Shape") (C := RX4) (T := TX4) (N := 6) (ci := 4) K in_X7_newFamily_X4 hw 3 rfl hb_x4 rfl rfl 3 (by decide) (List.mem_of_getElem? (i := 5) rfl) rfl rfl dX7_newFamily_62 ?_
      refine lv_iload hx hb dX7_newFamily_65 (lv_at hl 4 rfl) ?_
      obtain ⟨h87, hm⟩ := chkS hm
      refine g_iald K hw 6 0 rfl hb_x4 rfl rfl h87 dX7_newFamily_67 ?_
      refine lv_aload hx hb dX7_newFamily_68 (lv_at hl 3 rfl) ?_
      refine g_get (ref := "MigrantHeap$Shape") (C := RX4) (T := TX4) (N := 6) (ci := 4) K in_X7_newFamily_X4 hw 3 rfl hb_x4 rfl rfl 4 (by decide) (List.mem_of_getElem? (i := 6) rfl) rfl rfl dX7_newFamily_70 ?_
      refine lv_iload hx hb dX7_newFamily_73 (lv_at hl 4 rfl) ?_
      obtain ⟨h88, hm⟩ := chkS hm
      refine g_iald K hw 7 0 rfl hb_x4 rfl rfl h88 dX7_newFamily_75 ?_
      obtain ⟨z90, hc89, hm⟩ := bindS hm
      refine g_calli (GG := GC cy ad) K hw (va_runS (As := [.int 0, .int (x.1.1 8 x4 x.2.toNatClampNeg), .int (x.1.1 9 x4 x.2.toNatClampNeg)]) (rest := [.int x.2, .ref (ad 12 x3)]) (g_fix K) (c_X7_nearest l D cy ad H.size n x.1 0 (x.1.1 8 x4 x.2.toNatClampNeg) (x.1.1 9 x4 x.2.toNatClampNeg)  hc89) (va_cwS 3 (g_hts K) gX7_newFamily_X7_nearest rfl rfl rfl (by decide +kernel) ⟨Nat.le_of_ble_eq_true rfl, Nat.le_of_ble_eq_true rfl⟩) ⟨g_blind rides_none, g_pre (X2 := fun _ _ => True) K hw (fun _ _ _ => trivial)⟩ rfl rfl hl.1 rfl (lv_room (Nat.le_of_ble_eq_true rfl)) dX7_newFamily_76 ⟨Nat.le_of_ble_eq_true rfl, Nat.le_of_ble_eq_true rfl⟩) (fun r u H locs hp hw => ?_)
      obtain ⟨rfl, hu⟩ := hp
      rw [hu] at hw
      obtain ⟨h91, hm⟩ := chkS hm
      refine g_iast K hw 12 0 rfl hb_x3 rfl rfl h91 dX7_newFamily_79 (eC_17 cy ad x.1 x3 x.2.toNatClampNeg z90) (fun H locs hw => ?_)
      obtain ⟨S92, hS92, hm⟩ := nm_ex hm
      rw [← hS92] at hw
      refine lv_goto (tgt := 126) hx hb dX7_newFamily_80 (by decide) ?_
      obtain ⟨x93, hx93, hm⟩ := nm_ex hm
      refine lv_iinc (v := x93) (lv' := [(5, .int x93), (0, .ref (ad 0 0)), (2, .int x2), (3, .ref (ad 11 x3)), (4, .ref (ad 3 x4))]) hx hb dX7_newFamily_126 hl (k := 4) rfl (by rw [hx93]; rfl) (by decide) rfl (fun ls hl => ?_)
      refine lv_goto (tgt := 33) hx hb dX7_newFamily_129 (by decide) ?_
      obtain rfl := Option.some.inj hm
      exact hg H locs hw ls (lv_sub hl [1, 2, 3, 4, 0] rfl)
set_option maxRecDepth 100000 in
set_option maxHeartbeats 4000000 in
theorem t_X7_newFamily_d1_0 (K : Cx p s m args meth c D A (tysC cy) RX7 cX7_newFamily 6 (some .int) wsX7_newFamily (fun _ _ => True)) (n : Nat) (S : CSt) (x1 : Int32) (x2 : Int32)  {out : Int32 × CSt} (hm : m_X7_newFamily_d1 n S x1 x2 = some out) : ∀ (H : Heap) (locs : List Loc), Wd D A s.heap (GC cy ad S) H locs → ∀ ls : Array Slot, lv_has ls 6 [(0, .ref (ad 0 0)), (1, .int x1), (2, .int x2)] → W p l e rm_X7_newFamily_d1 s m args below meth c H locs 0 0 (MQ below (va_Qi (fun r (u : CSt) => out = (r, u)) (fun u => Pst D (tysC cy) A (GC cy ad u)) A) args s 0 0 A) (F0 m 0 ls []) := by
  intro H locs hw ls hl
  obtain ⟨hx, hb, hml, hown, hts, hr, hlo, hK, hA, hX⟩ := id K
  unfold m_X7_newFamily_d1 at hm
  refine lv_iload_n hx hb dX7_newFamily_0 rfl (lv_at hl 2 rfl) ?_
  refine lv_iconst (v := 4) hx hb dX7_newFamily_1 (by decide) ?_
  refine lv_icmp_lt (tgt := 7) hx hb dX7_newFamily_2 (by decide) (fun c94 => ?_) (fun c94 => ?_)
  · replace hm := (if_pos c94).symm.trans hm
    refine lv_aload_n hx hb dX7_newFamily_7 rfl (lv_at hl 0 rfl) ?_
    refine lv_iload_n hx hb dX7_newFamily_8 rfl (lv_at hl 1 rfl) ?_
    obtain ⟨z96, hc95, hm⟩ := bindS hm
    refine g_callq (GG := GC cy ad) K hw (va_runV (As := [.int x1]) (rest := []) (g_fix K) (c_X7_newRecord l D cy ad H.size n S x1  hc95) (cwV 1 (g_hts K) gX7_newFamily_X7_newRecord rfl rfl rfl (by decide +kernel) ⟨Nat.le_of_ble_eq_true rfl, Nat.le_of_ble_eq_true rfl⟩) ⟨g_blind rides_none, g_recv K hw 0 rfl (by decide : 0 < 1) rfl rfl, g_pre (X2 := fun _ _ => True) K hw (fun _ _ _ => trivial)⟩ rfl rfl hl.1 rfl (lv_room (Nat.le_of_ble_eq_true rfl)) dX7_newFamily_9 ⟨Nat.le_of_ble_eq_true rfl, Nat.le_of_ble_eq_true rfl⟩) (fun r u H locs hp hw => ?_)
    obtain ⟨rfl, rfl⟩ := hp
    rcases hq99 : z96.1 with _ | i97
    · rw [hq99] at hm
      replace hm := (optN _ _).symm.trans hm
      refine W.eq (g2 := F0 m 12 ls (.null :: [])) (by first | rfl | (rw [hq99]; rfl)) ?_
      refine lv_astore_nN (lv' := [(3, .null), (0, .ref (ad 0 0)), (1, .int x1), (2, .int x2)]) hx hb dX7_newFamily_12 rfl hl (by decide) rfl (fun ls hl => ?_)
      refine lv_aload_nN hx hb dX7_newFamily_13 rfl (lv_at hl 0 rfl) ?_
      refine lv_ifnonnullN hx hb dX7_newFamily_14 ?_
      refine lv_iconst (v := 0) hx hb dX7_newFamily_17 (by decide) ?_
      exact g_iret (GG := GC cy ad) K hw (Option.some.inj hm).symm dX7_newFamily_18
    · rw [hq99] at hm
      replace hm := (optS _ _ _).symm.trans hm
      obtain ⟨h98, hm⟩ := chkS hm
      replace h98 := of_decide_eq_true h98
      refine W.eq (g2 := F0 m 12 ls (.ref (ad 11 i97) :: [])) (by first | rfl | (rw [hq99]; rfl)) ?_
      refine lv_astore_n (lv' := [(3, .ref (ad 11 i97)), (0, .ref (ad 0 0)), (1, .int x1), (2, .int x2)]) hx hb dX7_newFamily_12 rfl hl (by decide) rfl (fun ls hl => ?_)
      refine lv_aload_n hx hb dX7_newFamily_13 rfl (lv_at hl 0 rfl) ?_
      refine lv_ifnonnull (tgt := 19) hx hb dX7_newFamily_14 (by decide) ?_
      refine lv_aload_n hx hb dX7_newFamily_19 rfl (lv_at hl 1 rfl) ?_
      refine g_get (ref := "MigrantHeap") (C := RX7) (T := TX7) (N := 11) (ci := 7) K in_X7_newFamily_X7 hw 0 rfl (by decide : 0 < 1) rfl rfl 0 (by decide) (List.mem_of_getElem? (i := 1) rfl) rfl rfl dX7_newFamily_20 ?_
      refine lv_iload_n hx hb dX7_newFamily_23 rfl (lv_at hl 2 rfl) ?_
      obtain ⟨h100, hm⟩ := chkS hm
      refine g_aald K hw 1 4 rfl (by decide) rfl rfl h100 dX7_newFamily_24 ?_
      refine g_get (ref := "MigrantHeap$Kind") (C := RX2) (T := TX2) (N := 4) (ci := 2) K in_X7_newFamily_X2 hw 2 rfl (inB_lt h100) rfl rfl 2 (by decide) (List.mem_of_getElem? (i := 2) rfl) rfl rfl dX7_newFamily_25 ?_
      refine lv_astore (lv' := [(4, .ref (ad 3 (2 * x1.toNatClampNeg))), (3, .ref (ad 11 i97)), (0, .ref (ad 0 0)), (1, .int x1), (2, .int x2)]) hx hb dX7_newFamily_28 hl (by decide) rfl (fun ls hl => ?_)
      refine lv_iconst (v := 0) hx hb dX7_newFamily_30 (by decide) ?_
      refine lv_istore (lv' := [(5, .int 0), (4, .ref (ad 3 (2 * x1.toNatClampNeg))), (3, .ref (ad 11 i97)), (0, .ref (ad 0 0)), (1, .int x1), (2, .int x2)]) hx hb dX7_newFamily_31 hl (by decide) rfl (fun ls hl => ?_)
      obtain ⟨z101, hz102, hm⟩ := bindS hm
      refine t_X7_newFamily_d1_L33 K n x2 i97 (2 * x1.toNatClampNeg) h98 (by have := (inB_lt h100); omega : (2 * x1.toNatClampNeg) < 9) z101 (fun w103 hww103 => ?_) ((z96.2, 0)) hz102 H locs hw ls (lv_sub hl [3, 5, 2, 1, 0] rfl)
      · intro H locs hw ls hl 
        try rw [hww103] at hm
        refine lv_aload_n hx hb dX7_newFamily_132 rfl (lv_at hl 0 rfl) ?_
        refine g_get (ref := "MigrantHeap$Entry") (C := RX0) (T := TX0) (N := 6) (ci := 0) K in_X7_newFamily_X0 hw 11 rfl h98 rfl rfl 0 (by decide) (List.mem_of_getElem? (i := 7) rfl) rfl rfl dX7_newFamily_133 ?_
        exact g_iret (GG := GC cy ad) K hw (Option.some.inj hm).symm dX7_newFamily_136
  · replace hm := (if_neg c94).symm.trans hm
    refine lv_iconst (v := 0) hx hb dX7_newFamily_5 (by decide) ?_
    exact g_iret (GG := GC cy ad) K hw (Option.some.inj hm).symm dX7_newFamily_6
set_option maxRecDepth 100000 in
set_option maxHeartbeats 4000000 in
theorem c_X7_newFamily_d1 (l : Launch) (D : va_G) (cy : Nat → ClassId) (ad : Nat → Nat → Nat) (sz n : Nat) (S : CSt) (x1 : Int32) (x2 : Int32)  {out : Int32 × CSt} (hm : m_X7_newFamily_d1 n S x1 x2 = some out) : Met l yX7_newFamily wsX7_newFamily rm_X7_newFamily_d1 (va_Pc [.ref (ad 0 0), .int x1, .int x2] (Pre D (tysC cy) (GC cy ad S) (fun _ _ => True) sz)) (va_Qi (fun r (u : CSt) => out = (r, u)) (fun u => Pst D (tysC cy) (AA (adrs (GC cy ad S)) sz) (GC cy ad u)) (AA (adrs (GC cy ad S)) sz)) 0 0 (AA (adrs (GC cy ad S)) sz) := by
  refine g_met (by decide) rfl (Nat.le_of_ble_eq_true rfl) ?_
  intro p e s m args below meth c K hw ls hl
  exact t_X7_newFamily_d1_0 (cy := cy) K n S x1 x2  hm _ _ hw ls hl
end W_X7_newFamily_d1
section W_X7_newFamily_d0
variable {p : Program} {l : Launch} {e : Env} {s : State} {m : MethodId} {args : Array Value} {below : List Frame} {meth : Method} {c : Code} {D : va_G} {A : Nat → Prop} {cy : Nat → ClassId} {ad : Nat → Nat → Nat} {Q : State → Prop}
abbrev rm_X7_newFamily_d0 : Room := { frames := 7, cells := 0, slots := 0, locals := 167 }
set_option maxRecDepth 100000 in
set_option maxHeartbeats 4000000 in
theorem t_X7_newFamily_d0_L33 (K : Cx p s m args meth c D A (tysC cy) RX7 cX7_newFamily 6 (some .int) wsX7_newFamily (fun _ _ => True)) (n : Nat) (x2 : Int32) (x3 : Nat) (x4 : Nat) (hb_x3 : x3 < 24) (hb_x4 : x4 < 9) (z : CSt) (hE0 : ∀ w : CSt, z = w → ∀ (H : Heap) (locs : List Loc), Wd D A s.heap (GC cy ad w) H locs → ∀ ls : Array Slot, lv_has ls 6 [(3, .ref (ad 11 x3))] → W p l e rm_X7_newFamily_d0 s m args below meth c H locs 0 0 Q (F0 m 132 ls [])) : ∀ (x : (CSt × Int32)), lpO (b_X7_newFamily_d0_33 n x2 x3 x4) n x = some z → (fun (x : (CSt × Int32)) => ∀ (H : Heap) (locs : List Loc), Wd D A s.heap (GC cy ad x.1) H locs → ∀ ls : Array Slot, lv_has ls 6 [(0, .ref (ad 0 0)), (2, .int x2), (3, .ref (ad 11 x3)), (4, .ref (ad 3 x4)), (5, .int x.2)] → W p l e rm_X7_newFamily_d0 s m args below meth c H locs 0 0 Q (F0 m 33 ls [])) x := by
  intro x hx0
  refine lpO_ind2 (P := fun (x : (CSt × Int32)) => ∀ (H : Heap) (locs : List Loc), Wd D A s.heap (GC cy ad x.1) H locs → ∀ ls : Array Slot, lv_has ls 6 [(0, .ref (ad 0 0)), (2, .int x2), (3, .ref (ad 11 x3)), (4, .ref (ad 3 x4)), (5, .int x.2)] → W p l e rm_X7_newFamily_d0 s m args below meth c H locs 0 0 Q (F0 m 33 ls [])) (z := z) ?_ n x hx0
  clear hx0 x
  intro x out hm hg H locs hw ls hl 
  obtain ⟨hx, hb, hml, hown, hts, hr, hlo, hK, hA, hX⟩ := id K
  unfold b_X7_newFamily_d0_33 at hm
  refine lv_iload hx hb dX7_newFamily_33 (lv_at hl 4 rfl) ?_
  refine lv_aload hx hb dX7_newFamily_35 (lv_at hl 3 rfl) ?_
  refine g_get (ref := "MigrantHeap$Shape") (C := RX4) (T := TX4) (N := 6) (ci := 4) K in_X7_newFamily_X4 hw 3 rfl hb_x4 rfl rfl 0 (by decide) (List.mem_of_getElem? (i := 3) rfl) rfl rfl dX7_newFamily_37 ?_
  refine lv_icmp_ge (tgt := 132) hx hb dX7_newFamily_40 (by decide) (fun c71 => ?_) (fun c71 => ?_)
  · replace hm := (if_pos c71).symm.trans hm
    obtain rfl := Option.some.inj hm
    exact hE0 _ hg.symm H locs hw ls (lv_sub hl [2] rfl)
  · replace hm := (if_neg c71).symm.trans hm
    refine lv_aload hx hb dX7_newFamily_43 (lv_at hl 3 rfl) ?_
    refine lv_iload hx hb dX7_newFamily_45 (lv_at hl 4 rfl) ?_
    obtain ⟨z73, hc72, hm⟩ := bindS hm
    refine g_calli (GG := GC cy ad) K hw (va_runV (As := [.int x.2]) (rest := []) (g_fix K) (c_X4_isNumber l D cy ad H.size n x.1 x4 x.2 hb_x4 hc72) (cwV 1 (g_hts K) gX7_newFamily_X4_isNumber rfl rfl rfl (by decide +kernel) ⟨Nat.le_of_ble_eq_true rfl, Nat.le_of_ble_eq_true rfl⟩) ⟨g_blind rides_none, g_recv K hw 3 rfl hb_x4 rfl rfl, g_pre (X2 := fun _ _ => True) K hw (fun _ _ _ => trivial)⟩ rfl rfl hl.1 rfl (lv_room (Nat.le_of_ble_eq_true rfl)) dX7_newFamily_47 ⟨Nat.le_of_ble_eq_true rfl, Nat.le_of_ble_eq_true rfl⟩) (fun r u H locs hp hw => ?_)
    obtain ⟨rfl, hu⟩ := hp
    rw [hu] at hw
    refine lv_if_eq (tgt := 83) hx hb dX7_newFamily_50 (by decide) (fun c74 => ?_) (fun c74 => ?_)
    · replace hm := (if_pos c74).symm.trans hm
      refine lv_aload hx hb dX7_newFamily_83 (lv_at hl 3 rfl) ?_
      refine lv_iload hx hb dX7_newFamily_85 (lv_at hl 4 rfl) ?_
      obtain ⟨z76, hc75, hm⟩ := bindS hm
      refine g_calli (GG := GC cy ad) K hw (va_runV (As := [.int x.2]) (rest := []) (g_fix K) (c_X4_isOwning l D cy ad H.size n x.1 x4 x.2 hb_x4 hc75) (cwV 1 (g_hts K) gX7_newFamily_X4_isOwning rfl rfl rfl (by decide +kernel) ⟨Nat.le_of_ble_eq_true rfl, Nat.le_of_ble_eq_true rfl⟩) ⟨g_blind rides_none, g_recv K hw 3 rfl hb_x4 rfl rfl, g_pre (X2 := fun _ _ => True) K hw (fun _ _ _ => trivial)⟩ rfl rfl hl.1 rfl (lv_room (Nat.le_of_ble_eq_true rfl)) dX7_newFamily_87 ⟨Nat.le_of_ble_eq_true rfl, Nat.le_of_ble_eq_true rfl⟩) (fun r u H locs hp hw => ?_)
      obtain ⟨rfl, hu⟩ := hp
      rw [hu] at hw
      refine lv_if_eq (tgt := 118) hx hb dX7_newFamily_90 (by decide) (fun c77 => ?_) (fun c77 => ?_)
      · replace hm := (if_pos c77).symm.trans hm
        refine lv_aload_n hx hb dX7_newFamily_118 rfl (lv_at hl 2 rfl) ?_
        refine g_get (ref := "MigrantHeap$Entry") (C := RX0) (T := TX0) (N := 6) (ci := 0) K in_X7_newFamily_X0 hw 11 rfl hb_x3 rfl rfl 4 (by decide) (List.mem_of_getElem? (i := 4) rfl) rfl rfl dX7_newFamily_119 ?_
        refine lv_iload hx hb dX7_newFamily_122 (lv_at hl 4 rfl) ?_
        refine lv_iconst (v := 0) hx hb dX7_newFamily_124 (by decide) ?_
        obtain ⟨h78, hm⟩ := chkS hm
        refine g_iast K hw 12 0 rfl hb_x3 rfl rfl h78 dX7_newFamily_125 (eC_17 cy ad x.1 x3 x.2.toNatClampNeg 0) (fun H locs hw => ?_)
        obtain ⟨S79, hS79, hm⟩ := nm_ex hm
        rw [← hS79] at hw
        obtain ⟨x80, hx80, hm⟩ := nm_ex hm
        refine lv_iinc (v := x80) (lv' := [(5, .int x80), (0, .ref (ad 0 0)), (2, .int x2), (3, .ref (ad 11 x3)), (4, .ref (ad 3 x4))]) hx hb dX7_newFamily_126 hl (k := 4) rfl (by rw [hx80]; rfl) (by decide) rfl (fun ls hl => ?_)
        refine lv_goto (tgt := 33) hx hb dX7_newFamily_129 (by decide) ?_
        obtain rfl := Option.some.inj hm
        exact hg H locs hw ls (lv_sub hl [1, 2, 3, 4, 0] rfl)
      · replace hm := (if_neg c77).symm.trans hm
        refine lv_aload_n hx hb dX7_newFamily_93 rfl (lv_at hl 2 rfl) ?_
        refine g_get (ref := "MigrantHeap$Entry") (C := RX0) (T := TX0) (N := 6) (ci := 0) K in_X7_newFamily_X0 hw 11 rfl hb_x3 rfl rfl 4 (by decide) (List.mem_of_getElem? (i := 4) rfl) rfl rfl dX7_newFamily_94 ?_
        refine lv_iload hx hb dX7_newFamily_97 (lv_at hl 4 rfl) ?_
        refine lv_aload_n hx hb dX7_newFamily_99 rfl (lv_at hl 0 rfl) ?_
        refine lv_aload hx hb dX7_newFamily_100 (lv_at hl 3 rfl) ?_
        refine g_get (ref := "MigrantHeap$Shape") (C := RX4) (T := TX4) (N := 6) (ci := 4) K in_X7_newFamily_X4 hw 3 rfl hb_x4 rfl rfl 3 (by decide) (List.mem_of_getElem? (i := 5) rfl) rfl rfl dX7_newFamily_102 ?_
        refine lv_iload hx hb dX7_newFamily_105 (lv_at hl 4 rfl) ?_
        obtain ⟨h81, hm⟩ := chkS hm
        refine g_iald K hw 6 0 rfl hb_x4 rfl rfl h81 dX7_newFamily_107 ?_
        refine lv_iload_n hx hb dX7_newFamily_108 rfl (lv_at hl 1 rfl) ?_
        refine lv_iconst (v := 1) hx hb dX7_newFamily_109 (by decide) ?_
        refine lv_iadd hx hb dX7_newFamily_110 ?_
        obtain ⟨z83, hc82, hm⟩ := bindS hm
        refine g_calli (GG := GC cy ad) K hw (va_runV (As := [.int (x.1.1 8 x4 x.2.toNatClampNeg), .int (x2 + 1)]) (rest := [.int x.2, .ref (ad 12 x3)]) (g_fix K) (c_X7_newFamily_d1 l D cy ad H.size n x.1 (x.1.1 8 x4 x.2.toNatClampNeg) (x2 + 1)  hc82) (cwV 2 (g_hts K) gX7_newFamily_X7_newFamily rfl rfl rfl (by decide +kernel) ⟨Nat.le_of_ble_eq_true rfl, Nat.le_of_ble_eq_true rfl⟩) ⟨g_blind rides_none, g_recv K hw 0 rfl (by decide : 0 < 1) rfl rfl, g_pre (X2 := fun _ _ => True) K hw (fun _ _ _ => trivial)⟩ rfl rfl hl.1 rfl (lv_room (Nat.le_of_ble_eq_true rfl)) dX7_newFamily_111 ⟨Nat.le_of_ble_eq_true rfl, Nat.le_of_ble_eq_true rfl⟩) (fun r u H locs hp hw => ?_)
        obtain ⟨rfl, rfl⟩ : r = z83.1 ∧ u = z83.2 := by rw [hp]; exact ⟨rfl, rfl⟩
        obtain ⟨h84, hm⟩ := chkS hm
        refine g_iast K hw 12 0 rfl hb_x3 rfl rfl h84 dX7_newFamily_114 (eC_17 cy ad z83.2 x3 x.2.toNatClampNeg z83.1) (fun H locs hw => ?_)
        obtain ⟨S85, hS85, hm⟩ := nm_ex hm
        rw [← hS85] at hw
        refine lv_goto (tgt := 126) hx hb dX7_newFamily_115 (by decide) ?_
        obtain ⟨x86, hx86, hm⟩ := nm_ex hm
        refine lv_iinc (v := x86) (lv' := [(5, .int x86), (0, .ref (ad 0 0)), (2, .int x2), (3, .ref (ad 11 x3)), (4, .ref (ad 3 x4))]) hx hb dX7_newFamily_126 hl (k := 4) rfl (by rw [hx86]; rfl) (by decide) rfl (fun ls hl => ?_)
        refine lv_goto (tgt := 33) hx hb dX7_newFamily_129 (by decide) ?_
        obtain rfl := Option.some.inj hm
        exact hg H locs hw ls (lv_sub hl [1, 2, 3, 4, 0] rfl)
    · replace hm := (if_neg c74).symm.trans hm
      refine lv_aload_n hx hb dX7_newFamily_53 rfl (lv_at hl 2 rfl) ?_
      refine g_get (ref := "MigrantHeap$Entry") (C := RX0) (T := TX0) (N := 6) (ci := 0) K in_X7_newFamily_X0 hw 11 rfl hb_x3 rfl rfl 4 (by decide) (List.mem_of_getElem? (i := 4) rfl) rfl rfl dX7_newFamily_54 ?_
      refine lv_iload hx hb dX7_newFamily_57 (lv_at hl 4 rfl) ?_
      refine lv_iconst (v := 0) hx hb dX7_newFamily_59 (by decide) ?_
      refine lv_aload hx hb dX7_newFamily_60 (lv_at hl 3 rfl) ?_
      refine g_get (ref := "MigrantHeap$Shape") (C := RX4) (T := TX4) (N := 6) (ci := 4) K in_X7_newFamily_X4 hw 3 rfl hb_x4 rfl rfl 3 (by decide) (List.mem_of_getElem? (i := 5) rfl) rfl rfl dX7_newFamily_62 ?_
      refine lv_iload hx hb dX7_newFamily_65 (lv_at hl 4 rfl) ?_
      obtain ⟨h87, hm⟩ := chkS hm
      refine g_iald K hw 6 0 rfl hb_x4 rfl rfl h87 dX7_newFamily_67 ?_
      refine lv_aload hx hb dX7_newFamily_68 (lv_at hl 3 rfl) ?_
      refine g_get (ref := "MigrantHeap$Shape") (C := RX4) (T := TX4) (N := 6) (ci := 4) K in_X7_newFamily_X4 hw 3 rfl hb_x4 rfl rfl 4 (by decide) (List.mem_of_getElem? (i := 6) rfl) rfl rfl dX7_newFamily_70 ?_
      refine lv_iload hx hb dX7_newFamily_73 (lv_at hl 4 rfl) ?_
      obtain ⟨h88, hm⟩ := chkS hm
      refine g_iald K hw 7 0 rfl hb_x4 rfl rfl h88 dX7_newFamily_75 ?_
      obtain ⟨z90, hc89, hm⟩ := bindS hm
      refine g_calli (GG := GC cy ad) K hw (va_runS (As := [.int 0, .int (x.1.1 8 x4 x.2.toNatClampNeg), .int (x.1.1 9 x4 x.2.toNatClampNeg)]) (rest := [.int x.2, .ref (ad 12 x3)]) (g_fix K) (c_X7_nearest l D cy ad H.size n x.1 0 (x.1.1 8 x4 x.2.toNatClampNeg) (x.1.1 9 x4 x.2.toNatClampNeg)  hc89) (va_cwS 3 (g_hts K) gX7_newFamily_X7_nearest rfl rfl rfl (by decide +kernel) ⟨Nat.le_of_ble_eq_true rfl, Nat.le_of_ble_eq_true rfl⟩) ⟨g_blind rides_none, g_pre (X2 := fun _ _ => True) K hw (fun _ _ _ => trivial)⟩ rfl rfl hl.1 rfl (lv_room (Nat.le_of_ble_eq_true rfl)) dX7_newFamily_76 ⟨Nat.le_of_ble_eq_true rfl, Nat.le_of_ble_eq_true rfl⟩) (fun r u H locs hp hw => ?_)
      obtain ⟨rfl, hu⟩ := hp
      rw [hu] at hw
      obtain ⟨h91, hm⟩ := chkS hm
      refine g_iast K hw 12 0 rfl hb_x3 rfl rfl h91 dX7_newFamily_79 (eC_17 cy ad x.1 x3 x.2.toNatClampNeg z90) (fun H locs hw => ?_)
      obtain ⟨S92, hS92, hm⟩ := nm_ex hm
      rw [← hS92] at hw
      refine lv_goto (tgt := 126) hx hb dX7_newFamily_80 (by decide) ?_
      obtain ⟨x93, hx93, hm⟩ := nm_ex hm
      refine lv_iinc (v := x93) (lv' := [(5, .int x93), (0, .ref (ad 0 0)), (2, .int x2), (3, .ref (ad 11 x3)), (4, .ref (ad 3 x4))]) hx hb dX7_newFamily_126 hl (k := 4) rfl (by rw [hx93]; rfl) (by decide) rfl (fun ls hl => ?_)
      refine lv_goto (tgt := 33) hx hb dX7_newFamily_129 (by decide) ?_
      obtain rfl := Option.some.inj hm
      exact hg H locs hw ls (lv_sub hl [1, 2, 3, 4, 0] rfl)
set_option maxRecDepth 100000 in
set_option maxHeartbeats 4000000 in
theorem t_X7_newFamily_d0_0 (K : Cx p s m args meth c D A (tysC cy) RX7 cX7_newFamily 6 (some .int) wsX7_newFamily (fun _ _ => True)) (n : Nat) (S : CSt) (x1 : Int32) (x2 : Int32)  {out : Int32 × CSt} (hm : m_X7_newFamily_d0 n S x1 x2 = some out) : ∀ (H : Heap) (locs : List Loc), Wd D A s.heap (GC cy ad S) H locs → ∀ ls : Array Slot, lv_has ls 6 [(0, .ref (ad 0 0)), (1, .int x1), (2, .int x2)] → W p l e rm_X7_newFamily_d0 s m args below meth c H locs 0 0 (MQ below (va_Qi (fun r (u : CSt) => out = (r, u)) (fun u => Pst D (tysC cy) A (GC cy ad u)) A) args s 0 0 A) (F0 m 0 ls []) := by
  intro H locs hw ls hl
  obtain ⟨hx, hb, hml, hown, hts, hr, hlo, hK, hA, hX⟩ := id K
  unfold m_X7_newFamily_d0 at hm
  refine lv_iload_n hx hb dX7_newFamily_0 rfl (lv_at hl 2 rfl) ?_
  refine lv_iconst (v := 4) hx hb dX7_newFamily_1 (by decide) ?_
  refine lv_icmp_lt (tgt := 7) hx hb dX7_newFamily_2 (by decide) (fun c94 => ?_) (fun c94 => ?_)
  · replace hm := (if_pos c94).symm.trans hm
    refine lv_aload_n hx hb dX7_newFamily_7 rfl (lv_at hl 0 rfl) ?_
    refine lv_iload_n hx hb dX7_newFamily_8 rfl (lv_at hl 1 rfl) ?_
    obtain ⟨z96, hc95, hm⟩ := bindS hm
    refine g_callq (GG := GC cy ad) K hw (va_runV (As := [.int x1]) (rest := []) (g_fix K) (c_X7_newRecord l D cy ad H.size n S x1  hc95) (cwV 1 (g_hts K) gX7_newFamily_X7_newRecord rfl rfl rfl (by decide +kernel) ⟨Nat.le_of_ble_eq_true rfl, Nat.le_of_ble_eq_true rfl⟩) ⟨g_blind rides_none, g_recv K hw 0 rfl (by decide : 0 < 1) rfl rfl, g_pre (X2 := fun _ _ => True) K hw (fun _ _ _ => trivial)⟩ rfl rfl hl.1 rfl (lv_room (Nat.le_of_ble_eq_true rfl)) dX7_newFamily_9 ⟨Nat.le_of_ble_eq_true rfl, Nat.le_of_ble_eq_true rfl⟩) (fun r u H locs hp hw => ?_)
    obtain ⟨rfl, rfl⟩ := hp
    rcases hq99 : z96.1 with _ | i97
    · rw [hq99] at hm
      replace hm := (optN _ _).symm.trans hm
      refine W.eq (g2 := F0 m 12 ls (.null :: [])) (by first | rfl | (rw [hq99]; rfl)) ?_
      refine lv_astore_nN (lv' := [(3, .null), (0, .ref (ad 0 0)), (1, .int x1), (2, .int x2)]) hx hb dX7_newFamily_12 rfl hl (by decide) rfl (fun ls hl => ?_)
      refine lv_aload_nN hx hb dX7_newFamily_13 rfl (lv_at hl 0 rfl) ?_
      refine lv_ifnonnullN hx hb dX7_newFamily_14 ?_
      refine lv_iconst (v := 0) hx hb dX7_newFamily_17 (by decide) ?_
      exact g_iret (GG := GC cy ad) K hw (Option.some.inj hm).symm dX7_newFamily_18
    · rw [hq99] at hm
      replace hm := (optS _ _ _).symm.trans hm
      obtain ⟨h98, hm⟩ := chkS hm
      replace h98 := of_decide_eq_true h98
      refine W.eq (g2 := F0 m 12 ls (.ref (ad 11 i97) :: [])) (by first | rfl | (rw [hq99]; rfl)) ?_
      refine lv_astore_n (lv' := [(3, .ref (ad 11 i97)), (0, .ref (ad 0 0)), (1, .int x1), (2, .int x2)]) hx hb dX7_newFamily_12 rfl hl (by decide) rfl (fun ls hl => ?_)
      refine lv_aload_n hx hb dX7_newFamily_13 rfl (lv_at hl 0 rfl) ?_
      refine lv_ifnonnull (tgt := 19) hx hb dX7_newFamily_14 (by decide) ?_
      refine lv_aload_n hx hb dX7_newFamily_19 rfl (lv_at hl 1 rfl) ?_
      refine g_get (ref := "MigrantHeap") (C := RX7) (T := TX7) (N := 11) (ci := 7) K in_X7_newFamily_X7 hw 0 rfl (by decide : 0 < 1) rfl rfl 0 (by decide) (List.mem_of_getElem? (i := 1) rfl) rfl rfl dX7_newFamily_20 ?_
      refine lv_iload_n hx hb dX7_newFamily_23 rfl (lv_at hl 2 rfl) ?_
      obtain ⟨h100, hm⟩ := chkS hm
      refine g_aald K hw 1 4 rfl (by decide) rfl rfl h100 dX7_newFamily_24 ?_
      refine g_get (ref := "MigrantHeap$Kind") (C := RX2) (T := TX2) (N := 4) (ci := 2) K in_X7_newFamily_X2 hw 2 rfl (inB_lt h100) rfl rfl 2 (by decide) (List.mem_of_getElem? (i := 2) rfl) rfl rfl dX7_newFamily_25 ?_
      refine lv_astore (lv' := [(4, .ref (ad 3 (2 * x1.toNatClampNeg))), (3, .ref (ad 11 i97)), (0, .ref (ad 0 0)), (1, .int x1), (2, .int x2)]) hx hb dX7_newFamily_28 hl (by decide) rfl (fun ls hl => ?_)
      refine lv_iconst (v := 0) hx hb dX7_newFamily_30 (by decide) ?_
      refine lv_istore (lv' := [(5, .int 0), (4, .ref (ad 3 (2 * x1.toNatClampNeg))), (3, .ref (ad 11 i97)), (0, .ref (ad 0 0)), (1, .int x1), (2, .int x2)]) hx hb dX7_newFamily_31 hl (by decide) rfl (fun ls hl => ?_)
      obtain ⟨z101, hz102, hm⟩ := bindS hm
      refine t_X7_newFamily_d0_L33 K n x2 i97 (2 * x1.toNatClampNeg) h98 (by have := (inB_lt h100); omega : (2 * x1.toNatClampNeg) < 9) z101 (fun w103 hww103 => ?_) ((z96.2, 0)) hz102 H locs hw ls (lv_sub hl [3, 5, 2, 1, 0] rfl)
      · intro H locs hw ls hl 
        try rw [hww103] at hm
        refine lv_aload_n hx hb dX7_newFamily_132 rfl (lv_at hl 0 rfl) ?_
        refine g_get (ref := "MigrantHeap$Entry") (C := RX0) (T := TX0) (N := 6) (ci := 0) K in_X7_newFamily_X0 hw 11 rfl h98 rfl rfl 0 (by decide) (List.mem_of_getElem? (i := 7) rfl) rfl rfl dX7_newFamily_133 ?_
        exact g_iret (GG := GC cy ad) K hw (Option.some.inj hm).symm dX7_newFamily_136
  · replace hm := (if_neg c94).symm.trans hm
    refine lv_iconst (v := 0) hx hb dX7_newFamily_5 (by decide) ?_
    exact g_iret (GG := GC cy ad) K hw (Option.some.inj hm).symm dX7_newFamily_6
set_option maxRecDepth 100000 in
set_option maxHeartbeats 4000000 in
theorem c_X7_newFamily_d0 (l : Launch) (D : va_G) (cy : Nat → ClassId) (ad : Nat → Nat → Nat) (sz n : Nat) (S : CSt) (x1 : Int32) (x2 : Int32)  {out : Int32 × CSt} (hm : m_X7_newFamily_d0 n S x1 x2 = some out) : Met l yX7_newFamily wsX7_newFamily rm_X7_newFamily_d0 (va_Pc [.ref (ad 0 0), .int x1, .int x2] (Pre D (tysC cy) (GC cy ad S) (fun _ _ => True) sz)) (va_Qi (fun r (u : CSt) => out = (r, u)) (fun u => Pst D (tysC cy) (AA (adrs (GC cy ad S)) sz) (GC cy ad u)) (AA (adrs (GC cy ad S)) sz)) 0 0 (AA (adrs (GC cy ad S)) sz) := by
  refine g_met (by decide) rfl (Nat.le_of_ble_eq_true rfl) ?_
  intro p e s m args below meth c K hw ls hl
  exact t_X7_newFamily_d0_0 (cy := cy) K n S x1 x2  hm _ _ hw ls hl
end W_X7_newFamily_d0
section W_X7_make
variable {p : Program} {l : Launch} {e : Env} {s : State} {m : MethodId} {args : Array Value} {below : List Frame} {meth : Method} {c : Code} {D : va_G} {A : Nat → Prop} {cy : Nat → ClassId} {ad : Nat → Nat → Nat} {Q : State → Prop}
abbrev rm_X7_make : Room := { frames := 8, cells := 3, slots := 18, locals := 192 }
theorem in_X7_make_X6 : ∀ w ∈ u_ws RX6 TX6 3, w ∈ wsX7_make := by decide +kernel
theorem in_X7_make_X7 : ∀ w ∈ u_ws RX7 TX7 11, w ∈ wsX7_make := by decide +kernel
set_option maxRecDepth 100000 in
set_option maxHeartbeats 4000000 in
theorem t_X7_make_0 (K : Cx p s m args meth c D A (tysC cy) RX7 cX7_make 3 none wsX7_make EV) (hno : ∀ x ∈ c.exceptionTable.toList, False) (hl9 : l.stackTraces = false) (n : Nat) (S : CSt) (x1 : Int32) (x2 : Int32)  {out : (CSt) ⊕ (Nat × CSt)} (hm : m_X7_make n S x1 x2 = some out) : ∀ (H : Heap) (locs : List Loc), Wd D A s.heap (GC cy ad S) H locs → ∀ ls : Array Slot, lv_has ls 3 [(0, .ref (ad 0 0)), (1, .int x1), (2, .int x2)] → W p l e rm_X7_make s m args below meth c H locs 0 0 (vx_MQ below (va_Qv (fun (u : CSt) => out = .inl u) (fun u => Pst D (tysC cy) A (GC cy ad u)) A) (XCx D (tysC cy) A (GC cy ad) out) args s 3 18 A) (F0 m 0 ls []) := by
  intro H locs hw ls hl
  obtain ⟨hx, hb, hml, hown, hts, hr, hlo, hK, hA, hX⟩ := id K
  unfold m_X7_make at hm
  refine lv_aload_n hx hb dX7_make_0 rfl (lv_at hl 0 rfl) ?_
  refine lv_iload_n hx hb dX7_make_1 rfl (lv_at hl 1 rfl) ?_
  obtain ⟨z26, hc25, hm⟩ := bindS hm
  refine g_xcallv (GG := GC cy ad) K hno hw (vx_runV (As := [.int x1]) (rest := []) (g_fix K) (c_X7_needClass l hl9 D cy ad H.size n S x1  hc25) (cwV 1 (g_hts K) gX7_make_X7_needClass rfl rfl rfl (by decide +kernel) ⟨Nat.le_of_ble_eq_true rfl, Nat.le_of_ble_eq_true rfl⟩) ⟨g_blind rides_EV, g_recv K hw 0 rfl (by decide : 0 < 1) rfl rfl, g_pre K hw (g_ride rides_EV K hw)⟩ rfl rfl hl.1 rfl (lv_room (Nat.le_of_ble_eq_true rfl)) dX7_make_2 ⟨Nat.le_of_ble_eq_true rfl, Nat.le_of_ble_eq_true rfl⟩) (fun u hu => by subst hu; exact sumX hm) (Nat.le_of_ble_eq_true rfl) (Nat.le_of_ble_eq_true rfl) (fun u H locs hp hw => ?_)
  obtain ⟨hp, hu⟩ := hp
  rw [hu] at hw
  obtain ⟨w27, hw27⟩ : ∃ q : Unit, q = () := ⟨_, rfl⟩
  subst hp
  replace hm := (sumL _ _ _).symm.trans hm
  refine lv_iload_n hx hb dX7_make_5 rfl (lv_at hl 2 rfl) ?_
  obtain ⟨z29, hc28, hm⟩ := bindS hm
  refine g_xcallv (GG := GC cy ad) K hno hw (vx_runS (As := [.int x2]) (rest := []) (g_fix K) (c_X7_needRoot l hl9 D cy ad H.size n S x2  hc28) (va_cwS 1 (g_hts K) gX7_make_X7_needRoot rfl rfl rfl (by decide +kernel) ⟨Nat.le_of_ble_eq_true rfl, Nat.le_of_ble_eq_true rfl⟩) ⟨g_blind rides_EV, g_pre K hw (g_ride rides_EV K hw)⟩ rfl rfl hl.1 rfl (lv_room (Nat.le_of_ble_eq_true rfl)) dX7_make_6 ⟨Nat.le_of_ble_eq_true rfl, Nat.le_of_ble_eq_true rfl⟩) (fun u hu => by subst hu; exact sumX hm) (Nat.le_of_ble_eq_true rfl) (Nat.le_of_ble_eq_true rfl) (fun u H locs hp hw => ?_)
  obtain ⟨hp, hu⟩ := hp
  rw [hu] at hw
  obtain ⟨w30, hw30⟩ : ∃ q : Unit, q = () := ⟨_, rfl⟩
  subst hp
  replace hm := (sumL _ _ _).symm.trans hm
  refine lv_aload_n hx hb dX7_make_9 rfl (lv_at hl 0 rfl) ?_
  refine g_get (ref := "MigrantHeap") (C := RX7) (T := TX7) (N := 11) (ci := 7) K in_X7_make_X7 hw 0 rfl (by decide : 0 < 1) rfl rfl 2 (by decide) (List.mem_of_getElem? (i := 3) rfl) rfl rfl dX7_make_10 ?_
  refine g_get (ref := "MigrantHeap$Store") (C := RX6) (T := TX6) (N := 3) (ci := 6) K in_X7_make_X6 hw 9 rfl (by decide : 0 < 1) rfl rfl 1 (by decide) (List.mem_of_getElem? (i := 4) rfl) rfl rfl dX7_make_13 ?_
  refine lv_aload_n hx hb dX7_make_16 rfl (lv_at hl 0 rfl) ?_
  refine lv_iload_n hx hb dX7_make_17 rfl (lv_at hl 1 rfl) ?_
  refine lv_iconst (v := 0) hx hb dX7_make_18 (by decide) ?_
  obtain ⟨z32, hc31, hm⟩ := bindS hm
  refine g_calli (GG := GC cy ad) K hw (va_runV (As := [.int x1, .int 0]) (rest := [.int (S.1 11 0 0)]) (g_fix K) (c_X7_familySize_d0 l D cy ad H.size n S x1 0  hc31) (cwV 2 (g_hts K) gX7_make_X7_familySize rfl rfl rfl (by decide +kernel) ⟨Nat.le_of_ble_eq_true rfl, Nat.le_of_ble_eq_true rfl⟩) ⟨g_blind rides_none, g_recv K hw 0 rfl (by decide : 0 < 1) rfl rfl, g_pre (X2 := fun _ _ => True) K hw (fun _ _ _ => trivial)⟩ rfl rfl hl.1 rfl (lv_room (Nat.le_of_ble_eq_true rfl)) dX7_make_19 ⟨Nat.le_of_ble_eq_true rfl, Nat.le_of_ble_eq_true rfl⟩) (fun r u H locs hp hw => ?_)
  obtain ⟨rfl, hu⟩ := hp
  rw [hu] at hw
  refine lv_iadd hx hb dX7_make_22 ?_
  refine lv_bipush (v := 24) hx hb dX7_make_23 (by decide) ?_
  refine lv_icmp_le (tgt := 38) hx hb dX7_make_25 (by decide) (fun c33 => ?_) (fun c33 => ?_)
  · replace hm := (if_pos c33).symm.trans hm
    refine lv_aload_n hx hb dX7_make_38 rfl (lv_at hl 0 rfl) ?_
    refine g_get (ref := "MigrantHeap") (C := RX7) (T := TX7) (N := 11) (ci := 7) K in_X7_make_X7 hw 0 rfl (by decide : 0 < 1) rfl rfl 3 (by decide) (List.mem_of_getElem? (i := 5) rfl) rfl rfl dX7_make_39 ?_
    refine lv_iload_n hx hb dX7_make_42 rfl (lv_at hl 2 rfl) ?_
    refine lv_aload_n hx hb dX7_make_43 rfl (lv_at hl 0 rfl) ?_
    refine lv_iload_n hx hb dX7_make_44 rfl (lv_at hl 1 rfl) ?_
    refine lv_iconst (v := 0) hx hb dX7_make_45 (by decide) ?_
    obtain ⟨z35, hc34, hm⟩ := bindS hm
    refine g_calli (GG := GC cy ad) K hw (va_runV (As := [.int x1, .int 0]) (rest := [.int x2, .ref (ad 14 0)]) (g_fix K) (c_X7_newFamily_d0 l D cy ad H.size n S x1 0  hc34) (cwV 2 (g_hts K) gX7_make_X7_newFamily rfl rfl rfl (by decide +kernel) ⟨Nat.le_of_ble_eq_true rfl, Nat.le_of_ble_eq_true rfl⟩) ⟨g_blind rides_none, g_recv K hw 0 rfl (by decide : 0 < 1) rfl rfl, g_pre (X2 := fun _ _ => True) K hw (fun _ _ _ => trivial)⟩ rfl rfl hl.1 rfl (lv_room (Nat.le_of_ble_eq_true rfl)) dX7_make_46 ⟨Nat.le_of_ble_eq_true rfl, Nat.le_of_ble_eq_true rfl⟩) (fun r u H locs hp hw => ?_)
    obtain ⟨rfl, rfl⟩ : r = z35.1 ∧ u = z35.2 := by rw [hp]; exact ⟨rfl, rfl⟩
    obtain ⟨h36, hm⟩ := chkS hm
    refine g_iast K hw 14 0 rfl (by decide) rfl rfl h36 dX7_make_49 (eC_19 cy ad z35.2 0 x2.toNatClampNeg z35.1) (fun H locs hw => ?_)
    obtain ⟨S37, hS37, hm⟩ := nm_ex hm
    rw [← hS37] at hw
    refine vx_ret (W.widen (k := 3) (n := 18) (Nat.le_of_ble_eq_true rfl) (Nat.le_of_ble_eq_true rfl) ?_)
    exact g_vret (GG := GC cy ad) K hw (Option.some.inj hm).symm dX7_make_50
  · replace hm := (if_neg c33).symm.trans hm
    obtain ⟨sa38, hs39⟩ := hX.2.1 (89, _) (List.mem_of_getElem? (i := 1) rfl)
    exact vx_throwS (own := RX7) (cls := "java/lang/IllegalStateException") (names := rteL) (sa := sa38) hx hb hl9 hown (by decide +kernel) (by decide +kernel) (hts _ (List.mem_of_getElem? (i := 1) rfl)) (hts _ (List.mem_of_getElem? (i := 2) rfl)) hs39 (ev_hat hX (by decide) hts (by decide +kernel) (by decide +kernel)) (by decide +kernel) hX.2.2.2.2.1 hX.2.2.2.2.2 hw.2.2 (hl.1.trans hml.symm) dX7_make_28 dX7_make_31 dX7_make_32 dX7_make_34 dX7_make_37 (fun x h => (hno x h).elim) (Nat.le_of_ble_eq_true rfl) (Nat.le_of_ble_eq_true rfl) (Nat.le_of_ble_eq_true rfl) (Nat.le_of_ble_eq_true rfl) hlo (g_xc (GG := GC cy ad) K hw (Option.some.inj hm).symm rfl) hw.2.2.2.2 (Nat.le_of_ble_eq_true rfl) (Nat.le_of_ble_eq_true rfl)
set_option maxRecDepth 100000 in
set_option maxHeartbeats 4000000 in
theorem c_X7_make (l : Launch) (hl9 : l.stackTraces = false) (D : va_G) (cy : Nat → ClassId) (ad : Nat → Nat → Nat) (sz n : Nat) (S : CSt) (x1 : Int32) (x2 : Int32)  {out : (CSt) ⊕ (Nat × CSt)} (hm : m_X7_make n S x1 x2 = some out) : vx_Met l yX7_make wsX7_make rm_X7_make (va_Pc [.ref (ad 0 0), .int x1, .int x2] (Pre D (tysC cy) (GC cy ad S) EV sz)) (va_Qv (fun (u : CSt) => out = .inl u) (fun u => Pst D (tysC cy) (AA (adrs (GC cy ad S)) sz) (GC cy ad u)) (AA (adrs (GC cy ad S)) sz)) (XCx D (tysC cy) (AA (adrs (GC cy ad S)) sz) (GC cy ad) out) 3 18 (AA (adrs (GC cy ad S)) sz) := by
  refine g_xmet (by decide) rfl (Nat.le_of_ble_eq_true rfl) ?_
  intro p e s m args below meth c K hno hw ls hl
  exact t_X7_make_0 (cy := cy) K hno hl9 n S x1 x2  hm _ _ hw ls hl
end W_X7_make
section W_X7_isName
variable {p : Program} {l : Launch} {e : Env} {s : State} {m : MethodId} {args : Array Value} {below : List Frame} {meth : Method} {c : Code} {D : va_G} {A : Nat → Prop} {cy : Nat → ClassId} {ad : Nat → Nat → Nat} {Q : State → Prop}
abbrev rm_X7_isName : Room := { frames := 0, cells := 0, slots := 0, locals := 0 }
set_option maxRecDepth 100000 in
set_option maxHeartbeats 4000000 in
theorem t_X7_isName_0 (K : Cx p s m args meth c D A (tysC cy) RX7 cX7_isName 1 (some .boolean) wsX7_isName (fun _ _ => True)) (n : Nat) (S : CSt) (x0 : Int32)  {out : Int32} (hm : m_X7_isName n S x0 = some out) : ∀ (H : Heap) (locs : List Loc), Wd D A s.heap (GC cy ad S) H locs → ∀ ls : Array Slot, lv_has ls 1 [(0, .int x0)] → W p l e rm_X7_isName s m args below meth c H locs 0 0 (MQ below (va_Qi (fun r (u : CSt) => out = r ∧ u = S) (fun u => Pst D (tysC cy) A (GC cy ad u)) A) args s 0 0 A) (F0 m 0 ls []) := by
  intro H locs hw ls hl
  obtain ⟨hx, hb, hml, hown, hts, hr, hlo, hK, hA, hX⟩ := id K
  unfold m_X7_isName at hm
  refine lv_iload_n hx hb dX7_isName_0 rfl (lv_at hl 0 rfl) ?_
  refine lv_if_lt (tgt := 14) hx hb dX7_isName_1 (by decide) (fun c1 => ?_) (fun c1 => ?_)
  · replace hm := (if_pos c1).symm.trans hm
    refine lv_iconst (v := 0) hx hb dX7_isName_14 (by decide) ?_
    exact g_zret (GG := GC cy ad) K hw rfl ⟨(Option.some.inj hm).symm, rfl⟩ dX7_isName_15
  · replace hm := (if_neg c1).symm.trans hm
    refine lv_iload_n hx hb dX7_isName_4 rfl (lv_at hl 0 rfl) ?_
    refine lv_bipush (v := 10) hx hb dX7_isName_5 (by decide) ?_
    refine lv_icmp_ge (tgt := 14) hx hb dX7_isName_7 (by decide) (fun c2 => ?_) (fun c2 => ?_)
    · replace hm := (if_pos c2).symm.trans hm
      refine lv_iconst (v := 0) hx hb dX7_isName_14 (by decide) ?_
      exact g_zret (GG := GC cy ad) K hw rfl ⟨(Option.some.inj hm).symm, rfl⟩ dX7_isName_15
    · replace hm := (if_neg c2).symm.trans hm
      refine lv_iconst (v := 1) hx hb dX7_isName_10 (by decide) ?_
      refine lv_goto (tgt := 15) hx hb dX7_isName_11 (by decide) ?_
      exact g_zret (GG := GC cy ad) K hw rfl ⟨(Option.some.inj hm).symm, rfl⟩ dX7_isName_15
set_option maxRecDepth 100000 in
set_option maxHeartbeats 4000000 in
theorem c_X7_isName (l : Launch) (D : va_G) (cy : Nat → ClassId) (ad : Nat → Nat → Nat) (sz n : Nat) (S : CSt) (x0 : Int32)  {out : Int32} (hm : m_X7_isName n S x0 = some out) : Met l yX7_isName wsX7_isName rm_X7_isName (va_Pc [.int x0] (Pre D (tysC cy) (GC cy ad S) (fun _ _ => True) sz)) (va_Qi (fun r (u : CSt) => out = r ∧ u = S) (fun u => Pst D (tysC cy) (AA (adrs (GC cy ad S)) sz) (GC cy ad u)) (AA (adrs (GC cy ad S)) sz)) 0 0 (AA (adrs (GC cy ad S)) sz) := by
  refine g_met (by decide) rfl (Nat.le_of_ble_eq_true rfl) ?_
  intro p e s m args below meth c K hw ls hl
  exact t_X7_isName_0 (cy := cy) K n S x0  hm _ _ hw ls hl
end W_X7_isName
section W_X7_needName
variable {p : Program} {l : Launch} {e : Env} {s : State} {m : MethodId} {args : Array Value} {below : List Frame} {meth : Method} {c : Code} {D : va_G} {A : Nat → Prop} {cy : Nat → ClassId} {ad : Nat → Nat → Nat} {Q : State → Prop}
abbrev rm_X7_needName : Room := { frames := 6, cells := 1, slots := 6, locals := 100 }
set_option maxRecDepth 100000 in
set_option maxHeartbeats 4000000 in
theorem t_X7_needName_0 (K : Cx p s m args meth c D A (tysC cy) RX7 cX7_needName 1 none wsX7_needName EV) (hno : ∀ x ∈ c.exceptionTable.toList, False) (hl9 : l.stackTraces = false) (n : Nat) (S : CSt) (x0 : Int32)  {out : (Unit) ⊕ (Nat × CSt)} (hm : m_X7_needName n S x0 = some out) : ∀ (H : Heap) (locs : List Loc), Wd D A s.heap (GC cy ad S) H locs → ∀ ls : Array Slot, lv_has ls 1 [(0, .int x0)] → W p l e rm_X7_needName s m args below meth c H locs 0 0 (vx_MQ below (va_Qv (fun (u : CSt) => out = .inl () ∧ u = S) (fun u => Pst D (tysC cy) A (GC cy ad u)) A) (XCx D (tysC cy) A (GC cy ad) out) args s 1 6 A) (F0 m 0 ls []) := by
  intro H locs hw ls hl
  obtain ⟨hx, hb, hml, hown, hts, hr, hlo, hK, hA, hX⟩ := id K
  unfold m_X7_needName at hm
  refine lv_iload_n hx hb dX7_needName_0 rfl (lv_at hl 0 rfl) ?_
  obtain ⟨z6, hc5, hm⟩ := bindS hm
  refine g_calli (GG := GC cy ad) K hw (va_runS (As := [.int x0]) (rest := []) (g_fix K) (c_X7_isName l D cy ad H.size n S x0  hc5) (va_cwS 1 (g_hts K) gX7_needName_X7_isName rfl rfl rfl (by decide +kernel) ⟨Nat.le_of_ble_eq_true rfl, Nat.le_of_ble_eq_true rfl⟩) ⟨g_blind rides_none, g_pre (X2 := fun _ _ => True) K hw (fun _ _ _ => trivial)⟩ rfl rfl hl.1 rfl (lv_room (Nat.le_of_ble_eq_true rfl)) dX7_needName_1 ⟨Nat.le_of_ble_eq_true rfl, Nat.le_of_ble_eq_true rfl⟩) (fun r u H locs hp hw => ?_)
  obtain ⟨rfl, hu⟩ := hp
  rw [hu] at hw
  refine lv_if_ne (tgt := 18) hx hb dX7_needName_4 (by decide) (fun c7 => ?_) (fun c7 => ?_)
  · replace hm := (if_pos c7).symm.trans hm
    refine vx_ret (W.widen (k := 1) (n := 6) (Nat.le_of_ble_eq_true rfl) (Nat.le_of_ble_eq_true rfl) ?_)
    exact g_vret (GG := GC cy ad) K hw ⟨(Option.some.inj hm).symm, rfl⟩ dX7_needName_18
  · replace hm := (if_neg (fun h => h c7)).symm.trans hm
    obtain ⟨sa8, hs9⟩ := hX.2.1 (262, _) (List.mem_of_getElem? (i := 16) rfl)
    exact vx_throwSW (own := RX7) (cls := "java/lang/IllegalArgumentException") (names := rteL) (sa := sa8) hx hb hl9 hown (by decide +kernel) (by decide +kernel) (hts _ (List.mem_of_getElem? (i := 1) rfl)) (hts _ (List.mem_of_getElem? (i := 2) rfl)) hs9 (ev_hat hX (by decide) hts (by decide +kernel) (by decide +kernel)) (by decide +kernel) hX.2.2.2.2.1 hX.2.2.2.2.2 hw.2.2 (hl.1.trans hml.symm) dX7_needName_7 dX7_needName_10 dX7_needName_11 dX7_needName_14 dX7_needName_17 (fun x h => (hno x h).elim) (Nat.le_of_ble_eq_true rfl) (Nat.le_of_ble_eq_true rfl) (Nat.le_of_ble_eq_true rfl) (Nat.le_of_ble_eq_true rfl) hlo (g_xc (GG := GC cy ad) K hw (Option.some.inj hm).symm rfl) hw.2.2.2.2 (Nat.le_of_ble_eq_true rfl) (Nat.le_of_ble_eq_true rfl)
set_option maxRecDepth 100000 in
set_option maxHeartbeats 4000000 in
theorem c_X7_needName (l : Launch) (hl9 : l.stackTraces = false) (D : va_G) (cy : Nat → ClassId) (ad : Nat → Nat → Nat) (sz n : Nat) (S : CSt) (x0 : Int32)  {out : (Unit) ⊕ (Nat × CSt)} (hm : m_X7_needName n S x0 = some out) : vx_Met l yX7_needName wsX7_needName rm_X7_needName (va_Pc [.int x0] (Pre D (tysC cy) (GC cy ad S) EV sz)) (va_Qv (fun (u : CSt) => out = .inl () ∧ u = S) (fun u => Pst D (tysC cy) (AA (adrs (GC cy ad S)) sz) (GC cy ad u)) (AA (adrs (GC cy ad S)) sz)) (XCx D (tysC cy) (AA (adrs (GC cy ad S)) sz) (GC cy ad) out) 1 6 (AA (adrs (GC cy ad S)) sz) := by
  refine g_xmet (by decide) rfl (Nat.le_of_ble_eq_true rfl) ?_
  intro p e s m args below meth c K hno hw ls hl
  exact t_X7_needName_0 (cy := cy) K hno hl9 n S x0  hm _ _ hw ls hl
end W_X7_needName
section W_X7_heldBy
variable {p : Program} {l : Launch} {e : Env} {s : State} {m : MethodId} {args : Array Value} {below : List Frame} {meth : Method} {c : Code} {D : va_G} {A : Nat → Prop} {cy : Nat → ClassId} {ad : Nat → Nat → Nat} {Q : State → Prop}
abbrev rm_X7_heldBy : Room := { frames := 6, cells := 1, slots := 6, locals := 100 }
theorem in_X7_heldBy_X7 : ∀ w ∈ u_ws RX7 TX7 11, w ∈ wsX7_heldBy := by decide +kernel
set_option maxRecDepth 100000 in
set_option maxHeartbeats 4000000 in
theorem t_X7_heldBy_0 (K : Cx p s m args meth c D A (tysC cy) RX7 cX7_heldBy 3 (some (.object "MigrantHeap$Entry")) wsX7_heldBy EV) (hno : ∀ x ∈ c.exceptionTable.toList, False) (hl9 : l.stackTraces = false) (n : Nat) (S : CSt) (x1 : Int32)  {out : (Nat) ⊕ (Nat × CSt)} (hm : m_X7_heldBy n S x1 = some out) : ∀ (H : Heap) (locs : List Loc), Wd D A s.heap (GC cy ad S) H locs → ∀ ls : Array Slot, lv_has ls 3 [(0, .ref (ad 0 0)), (1, .int x1)] → W p l e rm_X7_heldBy s m args below meth c H locs 0 0 (vx_MQ below (va_Qq (fun r (u : CSt) => (∃ o, out = .inl o ∧ r = some (ad 11 o)) ∧ u = S) (fun u => Pst D (tysC cy) A (GC cy ad u)) A) (XCx D (tysC cy) A (GC cy ad) out) args s 1 6 A) (F0 m 0 ls []) := by
  intro H locs hw ls hl
  obtain ⟨hx, hb, hml, hown, hts, hr, hlo, hK, hA, hX⟩ := id K
  unfold m_X7_heldBy at hm
  refine lv_aload_n hx hb dX7_heldBy_0 rfl (lv_at hl 0 rfl) ?_
  refine g_get (ref := "MigrantHeap") (C := RX7) (T := TX7) (N := 11) (ci := 7) K in_X7_heldBy_X7 hw 0 rfl (by decide : 0 < 1) rfl rfl 2 (by decide) (List.mem_of_getElem? (i := 3) rfl) rfl rfl dX7_heldBy_1 ?_
  refine lv_aload_n hx hb dX7_heldBy_4 rfl (lv_at hl 0 rfl) ?_
  refine g_get (ref := "MigrantHeap") (C := RX7) (T := TX7) (N := 11) (ci := 7) K in_X7_heldBy_X7 hw 0 rfl (by decide : 0 < 1) rfl rfl 3 (by decide) (List.mem_of_getElem? (i := 4) rfl) rfl rfl dX7_heldBy_5 ?_
  refine lv_iload_n hx hb dX7_heldBy_8 rfl (lv_at hl 1 rfl) ?_
  obtain ⟨h9, hm⟩ := chkS hm
  refine g_iald K hw 14 0 rfl (by decide) rfl rfl h9 dX7_heldBy_9 ?_
  obtain ⟨z11, hc10, hm⟩ := bindS hm
  refine g_callq (GG := GC cy ad) K hw (va_runV (As := [.int (S.1 19 0 x1.toNatClampNeg)]) (rest := []) (g_fix K) (c_X6_find l D cy ad H.size n S (S.1 19 0 x1.toNatClampNeg)  hc10) (cwV 1 (g_hts K) gX7_heldBy_X6_find rfl rfl rfl (by decide +kernel) ⟨Nat.le_of_ble_eq_true rfl, Nat.le_of_ble_eq_true rfl⟩) ⟨g_blind rides_none, g_recv K hw 9 rfl (by decide : 0 < 1) rfl rfl, g_pre (X2 := fun _ _ => True) K hw (fun _ _ _ => trivial)⟩ rfl rfl hl.1 rfl (lv_room (Nat.le_of_ble_eq_true rfl)) dX7_heldBy_10 ⟨Nat.le_of_ble_eq_true rfl, Nat.le_of_ble_eq_true rfl⟩) (fun r u H locs hp hw => ?_)
  obtain ⟨rfl, hu⟩ := hp
  rw [hu] at hw
  rcases hq14 : z11 with _ | i12
  · rw [hq14] at hm
    replace hm := (optN _ _).symm.trans hm
    refine W.eq (g2 := F0 m 13 ls (.null :: [])) (by first | rfl | (rw [hq14]; rfl)) ?_
    refine lv_astore_nN (lv' := [(2, .null), (0, .ref (ad 0 0)), (1, .int x1)]) hx hb dX7_heldBy_13 rfl hl (by decide) rfl (fun ls hl => ?_)
    refine lv_aload_nN hx hb dX7_heldBy_14 rfl (lv_at hl 0 rfl) ?_
    refine lv_ifnonnullN hx hb dX7_heldBy_15 ?_
    obtain ⟨sa15, hs16⟩ := hX.2.1 (278, _) (List.mem_of_getElem? (i := 17) rfl)
    exact nse_throw (sa := sa15) hx hb hl9 hown (hts _ (List.mem_of_getElem? (i := 1) rfl)) (hts _ (List.mem_of_getElem? (i := 2) rfl)) hs16 (nse_hat hX hts (by decide +kernel)) hX.2.2.2.2.1 hX.2.2.2.2.2 hw.2.2 (hl.1.trans hml.symm) dX7_heldBy_18 dX7_heldBy_21 dX7_heldBy_22 dX7_heldBy_25 dX7_heldBy_28 (fun x h => (hno x h).elim) (Nat.le_of_ble_eq_true rfl) (Nat.le_of_ble_eq_true rfl) (Nat.le_of_ble_eq_true rfl) (Nat.le_of_ble_eq_true rfl) hlo (g_xc (GG := GC cy ad) K hw (Option.some.inj hm).symm rfl) hw.2.2.2.2 (Nat.le_of_ble_eq_true rfl) (Nat.le_of_ble_eq_true rfl)
  · rw [hq14] at hm
    replace hm := (optS _ _ _).symm.trans hm
    obtain ⟨h13, hm⟩ := chkS hm
    replace h13 := of_decide_eq_true h13
    refine W.eq (g2 := F0 m 13 ls (.ref (ad 11 i12) :: [])) (by first | rfl | (rw [hq14]; rfl)) ?_
    refine lv_astore_n (lv' := [(2, .ref (ad 11 i12)), (0, .ref (ad 0 0)), (1, .int x1)]) hx hb dX7_heldBy_13 rfl hl (by decide) rfl (fun ls hl => ?_)
    refine lv_aload_n hx hb dX7_heldBy_14 rfl (lv_at hl 0 rfl) ?_
    refine lv_ifnonnull (tgt := 29) hx hb dX7_heldBy_15 (by decide) ?_
    refine lv_aload_n hx hb dX7_heldBy_29 rfl (lv_at hl 0 rfl) ?_
    refine vx_ret (W.widen (k := 1) (n := 6) (Nat.le_of_ble_eq_true rfl) (Nat.le_of_ble_eq_true rfl) ?_)
    exact g_aret (GG := GC cy ad) (r := some (ad 11 i12)) K hw ⟨⟨i12, (Option.some.inj hm).symm, rfl⟩, rfl⟩ dX7_heldBy_30
set_option maxRecDepth 100000 in
set_option maxHeartbeats 4000000 in
theorem c_X7_heldBy (l : Launch) (hl9 : l.stackTraces = false) (D : va_G) (cy : Nat → ClassId) (ad : Nat → Nat → Nat) (sz n : Nat) (S : CSt) (x1 : Int32)  {out : (Nat) ⊕ (Nat × CSt)} (hm : m_X7_heldBy n S x1 = some out) : vx_Met l yX7_heldBy wsX7_heldBy rm_X7_heldBy (va_Pc [.ref (ad 0 0), .int x1] (Pre D (tysC cy) (GC cy ad S) EV sz)) (va_Qq (fun r (u : CSt) => (∃ o, out = .inl o ∧ r = some (ad 11 o)) ∧ u = S) (fun u => Pst D (tysC cy) (AA (adrs (GC cy ad S)) sz) (GC cy ad u)) (AA (adrs (GC cy ad S)) sz)) (XCx D (tysC cy) (AA (adrs (GC cy ad S)) sz) (GC cy ad) out) 1 6 (AA (adrs (GC cy ad S)) sz) := by
  refine g_xmet (by decide) rfl (Nat.le_of_ble_eq_true rfl) ?_
  intro p e s m args below meth c K hno hw ls hl
  exact t_X7_heldBy_0 (cy := cy) K hno hl9 n S x1  hm _ _ hw ls hl
end W_X7_heldBy
section W_X7_numberPlace
variable {p : Program} {l : Launch} {e : Env} {s : State} {m : MethodId} {args : Array Value} {below : List Frame} {meth : Method} {c : Code} {D : va_G} {A : Nat → Prop} {cy : Nat → ClassId} {ad : Nat → Nat → Nat} {Q : State → Prop}
abbrev rm_X7_numberPlace : Room := { frames := 6, cells := 1, slots := 6, locals := 100 }
theorem in_X7_numberPlace_X0 : ∀ w ∈ u_ws RX0 TX0 6, w ∈ wsX7_numberPlace := by decide +kernel
theorem in_X7_numberPlace_X2 : ∀ w ∈ u_ws RX2 TX2 4, w ∈ wsX7_numberPlace := by decide +kernel
theorem in_X7_numberPlace_X7 : ∀ w ∈ u_ws RX7 TX7 11, w ∈ wsX7_numberPlace := by decide +kernel
set_option maxRecDepth 100000 in
set_option maxHeartbeats 4000000 in
theorem t_X7_numberPlace_0 (K : Cx p s m args meth c D A (tysC cy) RX7 cX7_numberPlace 5 (some .int) wsX7_numberPlace EV) (hno : ∀ x ∈ c.exceptionTable.toList, False) (hl9 : l.stackTraces = false) (n : Nat) (S : CSt) (x1 : Nat) (x2 : Int32) (hb_x1 : x1 < 24) {out : (Int32) ⊕ (Nat × CSt)} (hm : m_X7_numberPlace n S x1 x2 = some out) : ∀ (H : Heap) (locs : List Loc), Wd D A s.heap (GC cy ad S) H locs → ∀ ls : Array Slot, lv_has ls 5 [(0, .ref (ad 0 0)), (1, .ref (ad 11 x1)), (2, .int x2)] → W p l e rm_X7_numberPlace s m args below meth c H locs 0 0 (vx_MQ below (va_Qi (fun r (u : CSt) => out = .inl r ∧ u = S) (fun u => Pst D (tysC cy) A (GC cy ad u)) A) (XCx D (tysC cy) A (GC cy ad) out) args s 1 6 A) (F0 m 0 ls []) := by
  intro H locs hw ls hl
  obtain ⟨hx, hb, hml, hown, hts, hr, hlo, hK, hA, hX⟩ := id K
  unfold m_X7_numberPlace at hm
  refine lv_aload_n hx hb dX7_numberPlace_0 rfl (lv_at hl 0 rfl) ?_
  refine g_get (ref := "MigrantHeap") (C := RX7) (T := TX7) (N := 11) (ci := 7) K in_X7_numberPlace_X7 hw 0 rfl (by decide : 0 < 1) rfl rfl 0 (by decide) (List.mem_of_getElem? (i := 3) rfl) rfl rfl dX7_numberPlace_1 ?_
  refine lv_aload_n hx hb dX7_numberPlace_4 rfl (lv_at hl 1 rfl) ?_
  refine g_get (ref := "MigrantHeap$Entry") (C := RX0) (T := TX0) (N := 6) (ci := 0) K in_X7_numberPlace_X0 hw 11 rfl hb_x1 rfl rfl 1 (by decide) (List.mem_of_getElem? (i := 4) rfl) rfl rfl dX7_numberPlace_5 ?_
  obtain ⟨h11, hm⟩ := chkS hm
  refine g_aald K hw 1 4 rfl (by decide) rfl rfl h11 dX7_numberPlace_8 ?_
  refine g_get (ref := "MigrantHeap$Kind") (C := RX2) (T := TX2) (N := 4) (ci := 2) K in_X7_numberPlace_X2 hw 2 rfl (inB_lt h11) rfl rfl 2 (by decide) (List.mem_of_getElem? (i := 5) rfl) rfl rfl dX7_numberPlace_9 ?_
  refine lv_astore_n (lv' := [(3, .ref (ad 3 (2 * (S.1 14 x1 0).toNatClampNeg))), (0, .ref (ad 0 0)), (1, .ref (ad 11 x1)), (2, .int x2)]) hx hb dX7_numberPlace_12 rfl hl (by decide) rfl (fun ls hl => ?_)
  refine lv_aload_n hx hb dX7_numberPlace_13 rfl (lv_at hl 0 rfl) ?_
  refine lv_iload_n hx hb dX7_numberPlace_14 rfl (lv_at hl 3 rfl) ?_
  obtain ⟨z13, hc12, hm⟩ := bindS hm
  refine g_calli (GG := GC cy ad) K hw (va_runV (As := [.int x2]) (rest := []) (g_fix K) (c_X4_placeOf l D cy ad H.size n S (2 * (S.1 14 x1 0).toNatClampNeg) x2 (by have := (inB_lt h11); omega : (2 * (S.1 14 x1 0).toNatClampNeg) < 9) hc12) (cwV 1 (g_hts K) gX7_numberPlace_X4_placeOf rfl rfl rfl (by decide +kernel) ⟨Nat.le_of_ble_eq_true rfl, Nat.le_of_ble_eq_true rfl⟩) ⟨g_blind rides_none, g_recv K hw 3 rfl (by have := (inB_lt h11); omega : (2 * (S.1 14 x1 0).toNatClampNeg) < 9) rfl rfl, g_pre (X2 := fun _ _ => True) K hw (fun _ _ _ => trivial)⟩ rfl rfl hl.1 rfl (lv_room (Nat.le_of_ble_eq_true rfl)) dX7_numberPlace_15 ⟨Nat.le_of_ble_eq_true rfl, Nat.le_of_ble_eq_true rfl⟩) (fun r u H locs hp hw => ?_)
  obtain ⟨rfl, hu⟩ := hp
  rw [hu] at hw
  refine lv_istore (lv' := [(4, .int z13), (3, .ref (ad 3 (2 * (S.1 14 x1 0).toNatClampNeg))), (0, .ref (ad 0 0)), (1, .ref (ad 11 x1)), (2, .int x2)]) hx hb dX7_numberPlace_18 hl (by decide) rfl (fun ls hl => ?_)
  refine lv_aload_n hx hb dX7_numberPlace_20 rfl (lv_at hl 1 rfl) ?_
  refine lv_iload hx hb dX7_numberPlace_21 (lv_at hl 0 rfl) ?_
  obtain ⟨z15, hc14, hm⟩ := bindS hm
  refine g_calli (GG := GC cy ad) K hw (va_runV (As := [.int z13]) (rest := []) (g_fix K) (c_X4_isNumber l D cy ad H.size n S (2 * (S.1 14 x1 0).toNatClampNeg) z13 (by have := (inB_lt h11); omega : (2 * (S.1 14 x1 0).toNatClampNeg) < 9) hc14) (cwV 1 (g_hts K) gX7_numberPlace_X4_isNumber rfl rfl rfl (by decide +kernel) ⟨Nat.le_of_ble_eq_true rfl, Nat.le_of_ble_eq_true rfl⟩) ⟨g_blind rides_none, g_recv K hw 3 rfl (by have := (inB_lt h11); omega : (2 * (S.1 14 x1 0).toNatClampNeg) < 9) rfl rfl, g_pre (X2 := fun _ _ => True) K hw (fun _ _ _ => trivial)⟩ rfl rfl hl.1 rfl (lv_room (Nat.le_of_ble_eq_true rfl)) dX7_numberPlace_23 ⟨Nat.le_of_ble_eq_true rfl, Nat.le_of_ble_eq_true rfl⟩) (fun r u H locs hp hw => ?_)
  obtain ⟨rfl, hu⟩ := hp
  rw [hu] at hw
  refine lv_if_ne (tgt := 40) hx hb dX7_numberPlace_26 (by decide) (fun c16 => ?_) (fun c16 => ?_)
  · replace hm := (if_pos c16).symm.trans hm
    refine lv_iload hx hb dX7_numberPlace_40 (lv_at hl 0 rfl) ?_
    refine vx_ret (W.widen (k := 1) (n := 6) (Nat.le_of_ble_eq_true rfl) (Nat.le_of_ble_eq_true rfl) ?_)
    exact g_iret (GG := GC cy ad) K hw ⟨(Option.some.inj hm).symm, rfl⟩ dX7_numberPlace_42
  · replace hm := (if_neg (fun h => h c16)).symm.trans hm
    obtain ⟨sa17, hs18⟩ := hX.2.1 (287, _) (List.mem_of_getElem? (i := 18) rfl)
    exact nse_throw (sa := sa17) hx hb hl9 hown (hts _ (List.mem_of_getElem? (i := 1) rfl)) (hts _ (List.mem_of_getElem? (i := 2) rfl)) hs18 (nse_hat hX hts (by decide +kernel)) hX.2.2.2.2.1 hX.2.2.2.2.2 hw.2.2 (hl.1.trans hml.symm) dX7_numberPlace_29 dX7_numberPlace_32 dX7_numberPlace_33 dX7_numberPlace_36 dX7_numberPlace_39 (fun x h => (hno x h).elim) (Nat.le_of_ble_eq_true rfl) (Nat.le_of_ble_eq_true rfl) (Nat.le_of_ble_eq_true rfl) (Nat.le_of_ble_eq_true rfl) hlo (g_xc (GG := GC cy ad) K hw (Option.some.inj hm).symm rfl) hw.2.2.2.2 (Nat.le_of_ble_eq_true rfl) (Nat.le_of_ble_eq_true rfl)
set_option maxRecDepth 100000 in
set_option maxHeartbeats 4000000 in
theorem c_X7_numberPlace (l : Launch) (hl9 : l.stackTraces = false) (D : va_G) (cy : Nat → ClassId) (ad : Nat → Nat → Nat) (sz n : Nat) (S : CSt) (x1 : Nat) (x2 : Int32) (hb_x1 : x1 < 24) {out : (Int32) ⊕ (Nat × CSt)} (hm : m_X7_numberPlace n S x1 x2 = some out) : vx_Met l yX7_numberPlace wsX7_numberPlace rm_X7_numberPlace (va_Pc [.ref (ad 0 0), .ref (ad 11 x1), .int x2] (Pre D (tysC cy) (GC cy ad S) EV sz)) (va_Qi (fun r (u : CSt) => out = .inl r ∧ u = S) (fun u => Pst D (tysC cy) (AA (adrs (GC cy ad S)) sz) (GC cy ad u)) (AA (adrs (GC cy ad S)) sz)) (XCx D (tysC cy) (AA (adrs (GC cy ad S)) sz) (GC cy ad) out) 1 6 (AA (adrs (GC cy ad S)) sz) := by
  refine g_xmet (by decide) rfl (Nat.le_of_ble_eq_true rfl) ?_
  intro p e s m args below meth c K hno hw ls hl
  exact t_X7_numberPlace_0 (cy := cy) K hno hl9 n S x1 x2 hb_x1 hm _ _ hw ls hl
end W_X7_numberPlace
section W_X7_bringForward
variable {p : Program} {l : Launch} {e : Env} {s : State} {m : MethodId} {args : Array Value} {below : List Frame} {meth : Method} {c : Code} {D : va_G} {A : Nat → Prop} {cy : Nat → ClassId} {ad : Nat → Nat → Nat} {Q : State → Prop}
abbrev rm_X7_bringForward : Room := { frames := 0, cells := 0, slots := 0, locals := 0 }
theorem in_X7_bringForward_X0 : ∀ w ∈ u_ws RX0 TX0 6, w ∈ wsX7_bringForward := by decide +kernel
theorem in_X7_bringForward_X2 : ∀ w ∈ u_ws RX2 TX2 4, w ∈ wsX7_bringForward := by decide +kernel
theorem in_X7_bringForward_X7 : ∀ w ∈ u_ws RX7 TX7 11, w ∈ wsX7_bringForward := by decide +kernel
set_option maxRecDepth 100000 in
set_option maxHeartbeats 4000000 in
theorem t_X7_bringForward_0 (K : Cx p s m args meth c D A (tysC cy) RX7 cX7_bringForward 4 (some .int) wsX7_bringForward (fun _ _ => True)) (n : Nat) (S : CSt) (x1 : Nat) (hb_x1 : x1 < 24) {out : Int32 × CSt} (hm : m_X7_bringForward n S x1 = some out) : ∀ (H : Heap) (locs : List Loc), Wd D A s.heap (GC cy ad S) H locs → ∀ ls : Array Slot, lv_has ls 4 [(0, .ref (ad 0 0)), (1, .ref (ad 11 x1))] → W p l e rm_X7_bringForward s m args below meth c H locs 0 0 (MQ below (va_Qi (fun r (u : CSt) => out = (r, u)) (fun u => Pst D (tysC cy) A (GC cy ad u)) A) args s 0 0 A) (F0 m 0 ls []) := by
  intro H locs hw ls hl
  obtain ⟨hx, hb, hml, hown, hts, hr, hlo, hK, hA, hX⟩ := id K
  unfold m_X7_bringForward at hm
  refine lv_aload_n hx hb dX7_bringForward_0 rfl (lv_at hl 0 rfl) ?_
  refine g_get (ref := "MigrantHeap") (C := RX7) (T := TX7) (N := 11) (ci := 7) K in_X7_bringForward_X7 hw 0 rfl (by decide : 0 < 1) rfl rfl 0 (by decide) (List.mem_of_getElem? (i := 1) rfl) rfl rfl dX7_bringForward_1 ?_
  refine lv_aload_n hx hb dX7_bringForward_4 rfl (lv_at hl 1 rfl) ?_
  refine g_get (ref := "MigrantHeap$Entry") (C := RX0) (T := TX0) (N := 6) (ci := 0) K in_X7_bringForward_X0 hw 11 rfl hb_x1 rfl rfl 1 (by decide) (List.mem_of_getElem? (i := 2) rfl) rfl rfl dX7_bringForward_5 ?_
  obtain ⟨h9, hm⟩ := chkS hm
  refine g_aald K hw 1 4 rfl (by decide) rfl rfl h9 dX7_bringForward_8 ?_
  refine g_get (ref := "MigrantHeap$Kind") (C := RX2) (T := TX2) (N := 4) (ci := 2) K in_X7_bringForward_X2 hw 2 rfl (inB_lt h9) rfl rfl 0 (by decide) (List.mem_of_getElem? (i := 3) rfl) rfl rfl dX7_bringForward_9 ?_
  obtain ⟨x10, hx10, hm⟩ := nm_ex hm
  refine W.eq (g2 := F0 m 12 ls (.int x10 :: [])) (by rw [hx10]) ?_
  refine lv_istore_n (lv' := [(2, .int x10), (0, .ref (ad 0 0)), (1, .ref (ad 11 x1))]) hx hb dX7_bringForward_12 rfl hl (by decide) rfl (fun ls hl => ?_)
  refine lv_iload_n hx hb dX7_bringForward_13 rfl (lv_at hl 0 rfl) ?_
  refine lv_aload_n hx hb dX7_bringForward_14 rfl (lv_at hl 2 rfl) ?_
  refine g_get (ref := "MigrantHeap$Entry") (C := RX0) (T := TX0) (N := 6) (ci := 0) K in_X7_bringForward_X0 hw 11 rfl hb_x1 rfl rfl 2 (by decide) (List.mem_of_getElem? (i := 4) rfl) rfl rfl dX7_bringForward_15 ?_
  refine lv_isub hx hb dX7_bringForward_18 ?_
  obtain ⟨x11, hx11, hm⟩ := nm_ex hm
  refine W.eq (g2 := F0 m 19 ls (.int x11 :: [])) (by rw [hx11]) ?_
  refine lv_istore_n (lv' := [(3, .int x11), (2, .int x10), (0, .ref (ad 0 0)), (1, .ref (ad 11 x1))]) hx hb dX7_bringForward_19 rfl hl (by decide) rfl (fun ls hl => ?_)
  refine lv_aload_n hx hb dX7_bringForward_20 rfl (lv_at hl 3 rfl) ?_
  refine lv_iload_n hx hb dX7_bringForward_21 rfl (lv_at hl 1 rfl) ?_
  refine g_put (v := .int x10) (ty := .int) (ref := "MigrantHeap$Entry") (C := RX0) (T := TX0) (N := 6) (ci := 0) K in_X7_bringForward_X0 tyX0 tyX0_ok nmX0 hw 11 rfl hb_x1 rfl rfl 2 (by decide) (List.mem_of_getElem? (i := 4) rfl) rfl rfl (by decide +kernel) rfl rfl (Nat.le_of_ble_eq_true rfl) dX7_bringForward_22 (eC_15 cy ad S x1 x10) (fun H locs hw => ?_)
  obtain ⟨S12, hS12, hm⟩ := nm_ex hm
  rw [← hS12] at hw
  refine lv_iload_n hx hb dX7_bringForward_25 rfl (lv_at hl 0 rfl) ?_
  exact g_iret (GG := GC cy ad) K hw (Option.some.inj hm).symm dX7_bringForward_26
set_option maxRecDepth 100000 in
set_option maxHeartbeats 4000000 in
theorem c_X7_bringForward (l : Launch) (D : va_G) (cy : Nat → ClassId) (ad : Nat → Nat → Nat) (sz n : Nat) (S : CSt) (x1 : Nat) (hb_x1 : x1 < 24) {out : Int32 × CSt} (hm : m_X7_bringForward n S x1 = some out) : Met l yX7_bringForward wsX7_bringForward rm_X7_bringForward (va_Pc [.ref (ad 0 0), .ref (ad 11 x1)] (Pre D (tysC cy) (GC cy ad S) (fun _ _ => True) sz)) (va_Qi (fun r (u : CSt) => out = (r, u)) (fun u => Pst D (tysC cy) (AA (adrs (GC cy ad S)) sz) (GC cy ad u)) (AA (adrs (GC cy ad S)) sz)) 0 0 (AA (adrs (GC cy ad S)) sz) := by
  refine g_met (by decide) rfl (Nat.le_of_ble_eq_true rfl) ?_
  intro p e s m args below meth c K hw ls hl
  exact t_X7_bringForward_0 (cy := cy) K n S x1 hb_x1 hm _ _ hw ls hl
end W_X7_bringForward
section W_X7_get
variable {p : Program} {l : Launch} {e : Env} {s : State} {m : MethodId} {args : Array Value} {below : List Frame} {meth : Method} {c : Code} {D : va_G} {A : Nat → Prop} {cy : Nat → ClassId} {ad : Nat → Nat → Nat} {Q : State → Prop}
abbrev rm_X7_get : Room := { frames := 7, cells := 4, slots := 24, locals := 124 }
theorem in_X7_get_X0 : ∀ w ∈ u_ws RX0 TX0 6, w ∈ wsX7_get := by decide +kernel
set_option maxRecDepth 100000 in
set_option maxHeartbeats 4000000 in
theorem t_X7_get_0 (K : Cx p s m args meth c D A (tysC cy) RX7 cX7_get 5 (some .int) wsX7_get EV) (hno : ∀ x ∈ c.exceptionTable.toList, False) (hl9 : l.stackTraces = false) (n : Nat) (S : CSt) (x1 : Int32) (x2 : Int32)  {out : (Int32 × CSt) ⊕ (Nat × CSt)} (hm : m_X7_get n S x1 x2 = some out) : ∀ (H : Heap) (locs : List Loc), Wd D A s.heap (GC cy ad S) H locs → ∀ ls : Array Slot, lv_has ls 5 [(0, .ref (ad 0 0)), (1, .int x1), (2, .int x2)] → W p l e rm_X7_get s m args below meth c H locs 0 0 (vx_MQ below (va_Qi (fun r (u : CSt) => out = .inl (r, u)) (fun u => Pst D (tysC cy) A (GC cy ad u)) A) (XCx D (tysC cy) A (GC cy ad) out) args s 4 24 A) (F0 m 0 ls []) := by
  intro H locs hw ls hl
  obtain ⟨hx, hb, hml, hown, hts, hr, hlo, hK, hA, hX⟩ := id K
  unfold m_X7_get at hm
  refine lv_iload_n hx hb dX7_get_0 rfl (lv_at hl 1 rfl) ?_
  obtain ⟨z32, hc31, hm⟩ := bindS hm
  refine g_xcallv (GG := GC cy ad) K hno hw (vx_runS (As := [.int x1]) (rest := []) (g_fix K) (c_X7_needRoot l hl9 D cy ad H.size n S x1  hc31) (va_cwS 1 (g_hts K) gX7_get_X7_needRoot rfl rfl rfl (by decide +kernel) ⟨Nat.le_of_ble_eq_true rfl, Nat.le_of_ble_eq_true rfl⟩) ⟨g_blind rides_EV, g_pre K hw (g_ride rides_EV K hw)⟩ rfl rfl hl.1 rfl (lv_room (Nat.le_of_ble_eq_true rfl)) dX7_get_1 ⟨Nat.le_of_ble_eq_true rfl, Nat.le_of_ble_eq_true rfl⟩) (fun u hu => by subst hu; exact sumX hm) (Nat.le_of_ble_eq_true rfl) (Nat.le_of_ble_eq_true rfl) (fun u H locs hp hw => ?_)
  obtain ⟨hp, hu⟩ := hp
  rw [hu] at hw
  obtain ⟨w33, hw33⟩ : ∃ q : Unit, q = () := ⟨_, rfl⟩
  subst hp
  replace hm := (sumL _ _ _).symm.trans hm
  refine lv_iload_n hx hb dX7_get_4 rfl (lv_at hl 2 rfl) ?_
  obtain ⟨z35, hc34, hm⟩ := bindS hm
  refine g_xcallv (GG := GC cy ad) K hno hw (vx_runS (As := [.int x2]) (rest := []) (g_fix K) (c_X7_needName l hl9 D cy ad H.size n S x2  hc34) (va_cwS 1 (g_hts K) gX7_get_X7_needName rfl rfl rfl (by decide +kernel) ⟨Nat.le_of_ble_eq_true rfl, Nat.le_of_ble_eq_true rfl⟩) ⟨g_blind rides_EV, g_pre K hw (g_ride rides_EV K hw)⟩ rfl rfl hl.1 rfl (lv_room (Nat.le_of_ble_eq_true rfl)) dX7_get_5 ⟨Nat.le_of_ble_eq_true rfl, Nat.le_of_ble_eq_true rfl⟩) (fun u hu => by subst hu; exact sumX hm) (Nat.le_of_ble_eq_true rfl) (Nat.le_of_ble_eq_true rfl) (fun u H locs hp hw => ?_)
  obtain ⟨hp, hu⟩ := hp
  rw [hu] at hw
  obtain ⟨w36, hw36⟩ : ∃ q : Unit, q = () := ⟨_, rfl⟩
  subst hp
  replace hm := (sumL _ _ _).symm.trans hm
  refine lv_aload_n hx hb dX7_get_8 rfl (lv_at hl 0 rfl) ?_
  refine lv_iload_n hx hb dX7_get_9 rfl (lv_at hl 1 rfl) ?_
  obtain ⟨z38, hc37, hm⟩ := bindS hm
  refine g_xcallq (GG := GC cy ad) K hno hw (vx_runV (As := [.int x1]) (rest := []) (g_fix K) (c_X7_heldBy l hl9 D cy ad H.size n S x1  hc37) (cwV 1 (g_hts K) gX7_get_X7_heldBy rfl rfl rfl (by decide +kernel) ⟨Nat.le_of_ble_eq_true rfl, Nat.le_of_ble_eq_true rfl⟩) ⟨g_blind rides_EV, g_recv K hw 0 rfl (by decide : 0 < 1) rfl rfl, g_pre K hw (g_ride rides_EV K hw)⟩ rfl rfl hl.1 rfl (lv_room (Nat.le_of_ble_eq_true rfl)) dX7_get_10 ⟨Nat.le_of_ble_eq_true rfl, Nat.le_of_ble_eq_true rfl⟩) (fun u hu => by subst hu; exact sumX hm) (Nat.le_of_ble_eq_true rfl) (Nat.le_of_ble_eq_true rfl) (fun r u H locs hp hw => ?_)
  obtain ⟨⟨w39, hp, rfl⟩, hu⟩ := hp
  rw [hu] at hw
  subst hp
  replace hm := (sumL _ _ _).symm.trans hm
  obtain ⟨hw39_b, hm⟩ := chkS hm
  replace hw39_b := of_decide_eq_true hw39_b
  refine lv_astore_n (lv' := [(3, .ref (ad 11 w39)), (0, .ref (ad 0 0)), (1, .int x1), (2, .int x2)]) hx hb dX7_get_13 rfl hl (by decide) rfl (fun ls hl => ?_)
  refine lv_aload_n hx hb dX7_get_14 rfl (lv_at hl 1 rfl) ?_
  refine lv_aload_n hx hb dX7_get_15 rfl (lv_at hl 0 rfl) ?_
  refine lv_iload_n hx hb dX7_get_16 rfl (lv_at hl 3 rfl) ?_
  obtain ⟨z41, hc40, hm⟩ := bindS hm
  refine g_xcalli (GG := GC cy ad) K hno hw (vx_runV (As := [.ref (ad 11 w39), .int x2]) (rest := []) (g_fix K) (c_X7_numberPlace l hl9 D cy ad H.size n S w39 x2 hw39_b hc40) (cwV 2 (g_hts K) gX7_get_X7_numberPlace rfl rfl rfl (by decide +kernel) ⟨Nat.le_of_ble_eq_true rfl, Nat.le_of_ble_eq_true rfl⟩) ⟨g_blind rides_EV, g_recv K hw 0 rfl (by decide : 0 < 1) rfl rfl, g_pre K hw (g_ride rides_EV K hw)⟩ rfl rfl hl.1 rfl (lv_room (Nat.le_of_ble_eq_true rfl)) dX7_get_17 ⟨Nat.le_of_ble_eq_true rfl, Nat.le_of_ble_eq_true rfl⟩) (fun u hu => by subst hu; exact sumX hm) (Nat.le_of_ble_eq_true rfl) (Nat.le_of_ble_eq_true rfl) (fun r u H locs hp hw => ?_)
  obtain ⟨hp, hu⟩ := hp
  rw [hu] at hw
  obtain ⟨w42, hw42⟩ : ∃ q, q = r := ⟨_, rfl⟩; rw [← hw42] at hp ⊢; clear hw42
  subst hp
  replace hm := (sumL _ _ _).symm.trans hm
  refine lv_istore (lv' := [(4, .int w42), (3, .ref (ad 11 w39)), (0, .ref (ad 0 0)), (1, .int x1), (2, .int x2)]) hx hb dX7_get_20 hl (by decide) rfl (fun ls hl => ?_)
  refine lv_aload_n hx hb dX7_get_22 rfl (lv_at hl 2 rfl) ?_
  refine lv_aload_n hx hb dX7_get_23 rfl (lv_at hl 1 rfl) ?_
  obtain ⟨z44, hc43, hm⟩ := bindS hm
  refine g_calli (GG := GC cy ad) K hw (va_runV (As := [.ref (ad 11 w39)]) (rest := []) (g_fix K) (c_X7_bringForward l D cy ad H.size n S w39 hw39_b hc43) (cwV 1 (g_hts K) gX7_get_X7_bringForward rfl rfl rfl (by decide +kernel) ⟨Nat.le_of_ble_eq_true rfl, Nat.le_of_ble_eq_true rfl⟩) ⟨g_blind rides_none, g_recv K hw 0 rfl (by decide : 0 < 1) rfl rfl, g_pre (X2 := fun _ _ => True) K hw (fun _ _ _ => trivial)⟩ rfl rfl hl.1 rfl (lv_room (Nat.le_of_ble_eq_true rfl)) dX7_get_24 ⟨Nat.le_of_ble_eq_true rfl, Nat.le_of_ble_eq_true rfl⟩) (fun r u H locs hp hw => ?_)
  obtain ⟨rfl, rfl⟩ : r = z44.1 ∧ u = z44.2 := by rw [hp]; exact ⟨rfl, rfl⟩
  refine lv_pop hx hb dX7_get_27 rfl ?_
  refine lv_aload_n hx hb dX7_get_28 rfl (lv_at hl 1 rfl) ?_
  refine g_get (ref := "MigrantHeap$Entry") (C := RX0) (T := TX0) (N := 6) (ci := 0) K in_X7_get_X0 hw 11 rfl hw39_b rfl rfl 4 (by decide) (List.mem_of_getElem? (i := 1) rfl) rfl rfl dX7_get_29 ?_
  refine lv_iload hx hb dX7_get_32 (lv_at hl 0 rfl) ?_
  obtain ⟨h45, hm⟩ := chkS hm
  refine g_iald K hw 12 0 rfl hw39_b rfl rfl h45 dX7_get_34 ?_
  refine vx_ret (W.widen (k := 4) (n := 24) (Nat.le_of_ble_eq_true rfl) (Nat.le_of_ble_eq_true rfl) ?_)
  exact g_iret (GG := GC cy ad) K hw (Option.some.inj hm).symm dX7_get_35
set_option maxRecDepth 100000 in
set_option maxHeartbeats 4000000 in
theorem c_X7_get (l : Launch) (hl9 : l.stackTraces = false) (D : va_G) (cy : Nat → ClassId) (ad : Nat → Nat → Nat) (sz n : Nat) (S : CSt) (x1 : Int32) (x2 : Int32)  {out : (Int32 × CSt) ⊕ (Nat × CSt)} (hm : m_X7_get n S x1 x2 = some out) : vx_Met l yX7_get wsX7_get rm_X7_get (va_Pc [.ref (ad 0 0), .int x1, .int x2] (Pre D (tysC cy) (GC cy ad S) EV sz)) (va_Qi (fun r (u : CSt) => out = .inl (r, u)) (fun u => Pst D (tysC cy) (AA (adrs (GC cy ad S)) sz) (GC cy ad u)) (AA (adrs (GC cy ad S)) sz)) (XCx D (tysC cy) (AA (adrs (GC cy ad S)) sz) (GC cy ad) out) 4 24 (AA (adrs (GC cy ad S)) sz) := by
  refine g_xmet (by decide) rfl (Nat.le_of_ble_eq_true rfl) ?_
  intro p e s m args below meth c K hno hw ls hl
  exact t_X7_get_0 (cy := cy) K hno hl9 n S x1 x2  hm _ _ hw ls hl
end W_X7_get
section W_X7_set
variable {p : Program} {l : Launch} {e : Env} {s : State} {m : MethodId} {args : Array Value} {below : List Frame} {meth : Method} {c : Code} {D : va_G} {A : Nat → Prop} {cy : Nat → ClassId} {ad : Nat → Nat → Nat} {Q : State → Prop}
abbrev rm_X7_set : Room := { frames := 7, cells := 5, slots := 30, locals := 124 }
theorem in_X7_set_X0 : ∀ w ∈ u_ws RX0 TX0 6, w ∈ wsX7_set := by decide +kernel
theorem in_X7_set_X2 : ∀ w ∈ u_ws RX2 TX2 4, w ∈ wsX7_set := by decide +kernel
theorem in_X7_set_X4 : ∀ w ∈ u_ws RX4 TX4 6, w ∈ wsX7_set := by decide +kernel
theorem in_X7_set_X7 : ∀ w ∈ u_ws RX7 TX7 11, w ∈ wsX7_set := by decide +kernel
set_option maxRecDepth 100000 in
set_option maxHeartbeats 4000000 in
theorem t_X7_set_0 (K : Cx p s m args meth c D A (tysC cy) RX7 cX7_set 7 none wsX7_set EV) (hno : ∀ x ∈ c.exceptionTable.toList, False) (hl9 : l.stackTraces = false) (n : Nat) (S : CSt) (x1 : Int32) (x2 : Int32) (x3 : Int32)  {out : (CSt) ⊕ (Nat × CSt)} (hm : m_X7_set n S x1 x2 x3 = some out) : ∀ (H : Heap) (locs : List Loc), Wd D A s.heap (GC cy ad S) H locs → ∀ ls : Array Slot, lv_has ls 7 [(0, .ref (ad 0 0)), (1, .int x1), (2, .int x2), (3, .int x3)] → W p l e rm_X7_set s m args below meth c H locs 0 0 (vx_MQ below (va_Qv (fun (u : CSt) => out = .inl u) (fun u => Pst D (tysC cy) A (GC cy ad u)) A) (XCx D (tysC cy) A (GC cy ad) out) args s 5 30 A) (F0 m 0 ls []) := by
  intro H locs hw ls hl
  obtain ⟨hx, hb, hml, hown, hts, hr, hlo, hK, hA, hX⟩ := id K
  unfold m_X7_set at hm
  refine lv_iload_n hx hb dX7_set_0 rfl (lv_at hl 1 rfl) ?_
  obtain ⟨z42, hc41, hm⟩ := bindS hm
  refine g_xcallv (GG := GC cy ad) K hno hw (vx_runS (As := [.int x1]) (rest := []) (g_fix K) (c_X7_needRoot l hl9 D cy ad H.size n S x1  hc41) (va_cwS 1 (g_hts K) gX7_set_X7_needRoot rfl rfl rfl (by decide +kernel) ⟨Nat.le_of_ble_eq_true rfl, Nat.le_of_ble_eq_true rfl⟩) ⟨g_blind rides_EV, g_pre K hw (g_ride rides_EV K hw)⟩ rfl rfl hl.1 rfl (lv_room (Nat.le_of_ble_eq_true rfl)) dX7_set_1 ⟨Nat.le_of_ble_eq_true rfl, Nat.le_of_ble_eq_true rfl⟩) (fun u hu => by subst hu; exact sumX hm) (Nat.le_of_ble_eq_true rfl) (Nat.le_of_ble_eq_true rfl) (fun u H locs hp hw => ?_)
  obtain ⟨hp, hu⟩ := hp
  rw [hu] at hw
  obtain ⟨w43, hw43⟩ : ∃ q : Unit, q = () := ⟨_, rfl⟩
  subst hp
  replace hm := (sumL _ _ _).symm.trans hm
  refine lv_iload_n hx hb dX7_set_4 rfl (lv_at hl 2 rfl) ?_
  obtain ⟨z45, hc44, hm⟩ := bindS hm
  refine g_xcallv (GG := GC cy ad) K hno hw (vx_runS (As := [.int x2]) (rest := []) (g_fix K) (c_X7_needName l hl9 D cy ad H.size n S x2  hc44) (va_cwS 1 (g_hts K) gX7_set_X7_needName rfl rfl rfl (by decide +kernel) ⟨Nat.le_of_ble_eq_true rfl, Nat.le_of_ble_eq_true rfl⟩) ⟨g_blind rides_EV, g_pre K hw (g_ride rides_EV K hw)⟩ rfl rfl hl.1 rfl (lv_room (Nat.le_of_ble_eq_true rfl)) dX7_set_5 ⟨Nat.le_of_ble_eq_true rfl, Nat.le_of_ble_eq_true rfl⟩) (fun u hu => by subst hu; exact sumX hm) (Nat.le_of_ble_eq_true rfl) (Nat.le_of_ble_eq_true rfl) (fun u H locs hp hw => ?_)
  obtain ⟨hp, hu⟩ := hp
  rw [hu] at hw
  obtain ⟨w46, hw46⟩ : ∃ q : Unit, q = () := ⟨_, rfl⟩
  subst hp
  replace hm := (sumL _ _ _).symm.trans hm
  refine lv_aload_n hx hb dX7_set_8 rfl (lv_at hl 0 rfl) ?_
  refine lv_iload_n hx hb dX7_set_9 rfl (lv_at hl 1 rfl) ?_
  obtain ⟨z48, hc47, hm⟩ := bindS hm
  refine g_xcallq (GG := GC cy ad) K hno hw (vx_runV (As := [.int x1]) (rest := []) (g_fix K) (c_X7_heldBy l hl9 D cy ad H.size n S x1  hc47) (cwV 1 (g_hts K) gX7_set_X7_heldBy rfl rfl rfl (by decide +kernel) ⟨Nat.le_of_ble_eq_true rfl, Nat.le_of_ble_eq_true rfl⟩) ⟨g_blind rides_EV, g_recv K hw 0 rfl (by decide : 0 < 1) rfl rfl, g_pre K hw (g_ride rides_EV K hw)⟩ rfl rfl hl.1 rfl (lv_room (Nat.le_of_ble_eq_true rfl)) dX7_set_10 ⟨Nat.le_of_ble_eq_true rfl, Nat.le_of_ble_eq_true rfl⟩) (fun u hu => by subst hu; exact sumX hm) (Nat.le_of_ble_eq_true rfl) (Nat.le_of_ble_eq_true rfl) (fun r u H locs hp hw => ?_)
  obtain ⟨⟨w49, hp, rfl⟩, hu⟩ := hp
  rw [hu] at hw
  subst hp
  replace hm := (sumL _ _ _).symm.trans hm
  obtain ⟨hw49_b, hm⟩ := chkS hm
  replace hw49_b := of_decide_eq_true hw49_b
  refine lv_astore (lv' := [(4, .ref (ad 11 w49)), (0, .ref (ad 0 0)), (1, .int x1), (2, .int x2), (3, .int x3)]) hx hb dX7_set_13 hl (by decide) rfl (fun ls hl => ?_)
  refine lv_aload_n hx hb dX7_set_15 rfl (lv_at hl 1 rfl) ?_
  refine lv_aload hx hb dX7_set_16 (lv_at hl 0 rfl) ?_
  refine lv_iload_n hx hb dX7_set_18 rfl (lv_at hl 3 rfl) ?_
  obtain ⟨z51, hc50, hm⟩ := bindS hm
  refine g_xcalli (GG := GC cy ad) K hno hw (vx_runV (As := [.ref (ad 11 w49), .int x2]) (rest := []) (g_fix K) (c_X7_numberPlace l hl9 D cy ad H.size n S w49 x2 hw49_b hc50) (cwV 2 (g_hts K) gX7_set_X7_numberPlace rfl rfl rfl (by decide +kernel) ⟨Nat.le_of_ble_eq_true rfl, Nat.le_of_ble_eq_true rfl⟩) ⟨g_blind rides_EV, g_recv K hw 0 rfl (by decide : 0 < 1) rfl rfl, g_pre K hw (g_ride rides_EV K hw)⟩ rfl rfl hl.1 rfl (lv_room (Nat.le_of_ble_eq_true rfl)) dX7_set_19 ⟨Nat.le_of_ble_eq_true rfl, Nat.le_of_ble_eq_true rfl⟩) (fun u hu => by subst hu; exact sumX hm) (Nat.le_of_ble_eq_true rfl) (Nat.le_of_ble_eq_true rfl) (fun r u H locs hp hw => ?_)
  obtain ⟨hp, hu⟩ := hp
  rw [hu] at hw
  obtain ⟨w52, hw52⟩ : ∃ q, q = r := ⟨_, rfl⟩; rw [← hw52] at hp ⊢; clear hw52
  subst hp
  replace hm := (sumL _ _ _).symm.trans hm
  refine lv_istore (lv' := [(5, .int w52), (4, .ref (ad 11 w49)), (0, .ref (ad 0 0)), (1, .int x1), (2, .int x2), (3, .int x3)]) hx hb dX7_set_22 hl (by decide) rfl (fun ls hl => ?_)
  refine lv_aload_n hx hb dX7_set_24 rfl (lv_at hl 2 rfl) ?_
  refine g_get (ref := "MigrantHeap") (C := RX7) (T := TX7) (N := 11) (ci := 7) K in_X7_set_X7 hw 0 rfl (by decide : 0 < 1) rfl rfl 0 (by decide) (List.mem_of_getElem? (i := 3) rfl) rfl rfl dX7_set_25 ?_
  refine lv_aload hx hb dX7_set_28 (lv_at hl 1 rfl) ?_
  refine g_get (ref := "MigrantHeap$Entry") (C := RX0) (T := TX0) (N := 6) (ci := 0) K in_X7_set_X0 hw 11 rfl hw49_b rfl rfl 1 (by decide) (List.mem_of_getElem? (i := 4) rfl) rfl rfl dX7_set_30 ?_
  obtain ⟨h53, hm⟩ := chkS hm
  refine g_aald K hw 1 4 rfl (by decide) rfl rfl h53 dX7_set_33 ?_
  refine lv_astore (lv' := [(6, .ref (ad 2 ((S.1 14 w49 0).toNatClampNeg))), (5, .int w52), (4, .ref (ad 11 w49)), (0, .ref (ad 0 0)), (1, .int x1), (2, .int x2), (3, .int x3)]) hx hb dX7_set_34 hl (by decide) rfl (fun ls hl => ?_)
  refine lv_iload_n hx hb dX7_set_36 rfl (lv_at hl 6 rfl) ?_
  refine lv_aload hx hb dX7_set_37 (lv_at hl 0 rfl) ?_
  refine g_get (ref := "MigrantHeap$Kind") (C := RX2) (T := TX2) (N := 4) (ci := 2) K in_X7_set_X2 hw 2 rfl (inB_lt h53) rfl rfl 2 (by decide) (List.mem_of_getElem? (i := 5) rfl) rfl rfl dX7_set_39 ?_
  refine g_get (ref := "MigrantHeap$Shape") (C := RX4) (T := TX4) (N := 6) (ci := 4) K in_X7_set_X4 hw 3 rfl (by have := (inB_lt h53); omega : (2 * (S.1 14 w49 0).toNatClampNeg) < 9) rfl rfl 3 (by decide) (List.mem_of_getElem? (i := 6) rfl) rfl rfl dX7_set_42 ?_
  refine lv_iload hx hb dX7_set_45 (lv_at hl 1 rfl) ?_
  obtain ⟨h54, hm⟩ := chkS hm
  refine g_iald K hw 6 0 rfl (by have := (inB_lt h53); omega : (2 * (S.1 14 w49 0).toNatClampNeg) < 9) rfl rfl h54 dX7_set_47 ?_
  refine lv_icmp_lt (tgt := 66) hx hb dX7_set_48 (by decide) (fun c55 => ?_) (fun c55 => ?_)
  · replace hm := (if_pos c55).symm.trans hm
    obtain ⟨sa56, hs57⟩ := hX.2.1 (124, _) (List.mem_of_getElem? (i := 2) rfl)
    exact vx_throwS (own := RX7) (cls := "java/lang/IllegalStateException") (names := rteL) (sa := sa56) hx hb hl9 hown (by decide +kernel) (by decide +kernel) (hts _ (List.mem_of_getElem? (i := 1) rfl)) (hts _ (List.mem_of_getElem? (i := 2) rfl)) hs57 (ev_hat hX (by decide) hts (by decide +kernel) (by decide +kernel)) (by decide +kernel) hX.2.2.2.2.1 hX.2.2.2.2.2 hw.2.2 (hl.1.trans hml.symm) dX7_set_66 dX7_set_69 dX7_set_70 dX7_set_72 dX7_set_75 (fun x h => (hno x h).elim) (Nat.le_of_ble_eq_true rfl) (Nat.le_of_ble_eq_true rfl) (Nat.le_of_ble_eq_true rfl) (Nat.le_of_ble_eq_true rfl) hlo (g_xc (GG := GC cy ad) K hw (Option.some.inj hm).symm rfl) hw.2.2.2.2 (Nat.le_of_ble_eq_true rfl) (Nat.le_of_ble_eq_true rfl)
  · replace hm := (if_neg c55).symm.trans hm
    refine lv_iload_n hx hb dX7_set_51 rfl (lv_at hl 6 rfl) ?_
    refine lv_aload hx hb dX7_set_52 (lv_at hl 0 rfl) ?_
    refine g_get (ref := "MigrantHeap$Kind") (C := RX2) (T := TX2) (N := 4) (ci := 2) K in_X7_set_X2 hw 2 rfl (inB_lt h53) rfl rfl 2 (by decide) (List.mem_of_getElem? (i := 5) rfl) rfl rfl dX7_set_54 ?_
    refine g_get (ref := "MigrantHeap$Shape") (C := RX4) (T := TX4) (N := 6) (ci := 4) K in_X7_set_X4 hw 3 rfl (by have := (inB_lt h53); omega : (2 * (S.1 14 w49 0).toNatClampNeg) < 9) rfl rfl 4 (by decide) (List.mem_of_getElem? (i := 7) rfl) rfl rfl dX7_set_57 ?_
    refine lv_iload hx hb dX7_set_60 (lv_at hl 1 rfl) ?_
    obtain ⟨h58, hm⟩ := chkS hm
    refine g_iald K hw 7 0 rfl (by have := (inB_lt h53); omega : (2 * (S.1 14 w49 0).toNatClampNeg) < 9) rfl rfl h58 dX7_set_62 ?_
    refine lv_icmp_le (tgt := 76) hx hb dX7_set_63 (by decide) (fun c59 => ?_) (fun c59 => ?_)
    · replace hm := (if_pos c59).symm.trans hm
      refine lv_aload hx hb dX7_set_76 (lv_at hl 2 rfl) ?_
      refine g_get (ref := "MigrantHeap$Entry") (C := RX0) (T := TX0) (N := 6) (ci := 0) K in_X7_set_X0 hw 11 rfl hw49_b rfl rfl 4 (by decide) (List.mem_of_getElem? (i := 8) rfl) rfl rfl dX7_set_78 ?_
      refine lv_iload hx hb dX7_set_81 (lv_at hl 1 rfl) ?_
      refine lv_iload_n hx hb dX7_set_83 rfl (lv_at hl 6 rfl) ?_
      obtain ⟨h60, hm⟩ := chkS hm
      refine g_iast K hw 12 0 rfl hw49_b rfl rfl h60 dX7_set_84 (eC_17 cy ad S w49 w52.toNatClampNeg x3) (fun H locs hw => ?_)
      obtain ⟨S61, hS61, hm⟩ := nm_ex hm
      rw [← hS61] at hw
      refine lv_aload hx hb dX7_set_85 (lv_at hl 0 rfl) ?_
      refine lv_iconst (v := 0) hx hb dX7_set_87 (by decide) ?_
      refine g_put (v := .int 0) (ty := .boolean) (ref := "MigrantHeap$Kind") (C := RX2) (T := TX2) (N := 4) (ci := 2) K in_X7_set_X2 tyX2 tyX2_ok nmX2 hw 2 rfl (inB_lt h53) rfl rfl 1 (by decide) (List.mem_of_getElem? (i := 9) rfl) rfl rfl (by decide +kernel) rfl rfl (Nat.le_of_ble_eq_true rfl) dX7_set_88 (eC_4 cy ad S61 ((S.1 14 w49 0).toNatClampNeg) 0) (fun H locs hw => ?_)
      obtain ⟨S62, hS62, hm⟩ := nm_ex hm
      rw [← hS62] at hw
      refine lv_aload_n hx hb dX7_set_91 rfl (lv_at hl 3 rfl) ?_
      refine lv_aload hx hb dX7_set_92 (lv_at hl 2 rfl) ?_
      obtain ⟨z64, hc63, hm⟩ := bindS hm
      refine g_calli (GG := GC cy ad) K hw (va_runV (As := [.ref (ad 11 w49)]) (rest := []) (g_fix K) (c_X7_bringForward l D cy ad H.size n S62 w49 hw49_b hc63) (cwV 1 (g_hts K) gX7_set_X7_bringForward rfl rfl rfl (by decide +kernel) ⟨Nat.le_of_ble_eq_true rfl, Nat.le_of_ble_eq_true rfl⟩) ⟨g_blind rides_none, g_recv K hw 0 rfl (by decide : 0 < 1) rfl rfl, g_pre (X2 := fun _ _ => True) K hw (fun _ _ _ => trivial)⟩ rfl rfl hl.1 rfl (lv_room (Nat.le_of_ble_eq_true rfl)) dX7_set_94 ⟨Nat.le_of_ble_eq_true rfl, Nat.le_of_ble_eq_true rfl⟩) (fun r u H locs hp hw => ?_)
      obtain ⟨rfl, rfl⟩ : r = z64.1 ∧ u = z64.2 := by rw [hp]; exact ⟨rfl, rfl⟩
      refine lv_pop hx hb dX7_set_97 rfl ?_
      refine vx_ret (W.widen (k := 5) (n := 30) (Nat.le_of_ble_eq_true rfl) (Nat.le_of_ble_eq_true rfl) ?_)
      exact g_vret (GG := GC cy ad) K hw (Option.some.inj hm).symm dX7_set_98
    · replace hm := (if_neg c59).symm.trans hm
      obtain ⟨sa65, hs66⟩ := hX.2.1 (124, _) (List.mem_of_getElem? (i := 2) rfl)
      exact vx_throwS (own := RX7) (cls := "java/lang/IllegalStateException") (names := rteL) (sa := sa65) hx hb hl9 hown (by decide +kernel) (by decide +kernel) (hts _ (List.mem_of_getElem? (i := 1) rfl)) (hts _ (List.mem_of_getElem? (i := 2) rfl)) hs66 (ev_hat hX (by decide) hts (by decide +kernel) (by decide +kernel)) (by decide +kernel) hX.2.2.2.2.1 hX.2.2.2.2.2 hw.2.2 (hl.1.trans hml.symm) dX7_set_66 dX7_set_69 dX7_set_70 dX7_set_72 dX7_set_75 (fun x h => (hno x h).elim) (Nat.le_of_ble_eq_true rfl) (Nat.le_of_ble_eq_true rfl) (Nat.le_of_ble_eq_true rfl) (Nat.le_of_ble_eq_true rfl) hlo (g_xc (GG := GC cy ad) K hw (Option.some.inj hm).symm rfl) hw.2.2.2.2 (Nat.le_of_ble_eq_true rfl) (Nat.le_of_ble_eq_true rfl)
set_option maxRecDepth 100000 in
set_option maxHeartbeats 4000000 in
theorem c_X7_set (l : Launch) (hl9 : l.stackTraces = false) (D : va_G) (cy : Nat → ClassId) (ad : Nat → Nat → Nat) (sz n : Nat) (S : CSt) (x1 : Int32) (x2 : Int32) (x3 : Int32)  {out : (CSt) ⊕ (Nat × CSt)} (hm : m_X7_set n S x1 x2 x3 = some out) : vx_Met l yX7_set wsX7_set rm_X7_set (va_Pc [.ref (ad 0 0), .int x1, .int x2, .int x3] (Pre D (tysC cy) (GC cy ad S) EV sz)) (va_Qv (fun (u : CSt) => out = .inl u) (fun u => Pst D (tysC cy) (AA (adrs (GC cy ad S)) sz) (GC cy ad u)) (AA (adrs (GC cy ad S)) sz)) (XCx D (tysC cy) (AA (adrs (GC cy ad S)) sz) (GC cy ad) out) 5 30 (AA (adrs (GC cy ad S)) sz) := by
  refine g_xmet (by decide) rfl (Nat.le_of_ble_eq_true rfl) ?_
  intro p e s m args below meth c K hno hw ls hl
  exact t_X7_set_0 (cy := cy) K hno hl9 n S x1 x2 x3  hm _ _ hw ls hl
end W_X7_set
section W_X7_owns
variable {p : Program} {l : Launch} {e : Env} {s : State} {m : MethodId} {args : Array Value} {below : List Frame} {meth : Method} {c : Code} {D : va_G} {A : Nat → Prop} {cy : Nat → ClassId} {ad : Nat → Nat → Nat} {Q : State → Prop}
abbrev rm_X7_owns : Room := { frames := 2, cells := 0, slots := 0, locals := 42 }
theorem in_X7_owns_X0 : ∀ w ∈ u_ws RX0 TX0 6, w ∈ wsX7_owns := by decide +kernel
theorem in_X7_owns_X2 : ∀ w ∈ u_ws RX2 TX2 4, w ∈ wsX7_owns := by decide +kernel
theorem in_X7_owns_X4 : ∀ w ∈ u_ws RX4 TX4 6, w ∈ wsX7_owns := by decide +kernel
theorem in_X7_owns_X7 : ∀ w ∈ u_ws RX7 TX7 11, w ∈ wsX7_owns := by decide +kernel
set_option maxRecDepth 100000 in
set_option maxHeartbeats 4000000 in
theorem t_X7_owns_L16 (K : Cx p s m args meth c D A (tysC cy) RX7 cX7_owns 5 (some .boolean) wsX7_owns (fun _ _ => True)) (n : Nat) (S : CSt) (x1 : Nat) (x2 : Int32) (x3 : Nat) (hb_x1 : x1 < 24) (hb_x3 : x3 < 9) (z : (Unit ⊕ Unit)) (hE0 : ∀ w : Unit, z = .inl w → ∀ (H : Heap) (locs : List Loc), Wd D A s.heap (GC cy ad S) H locs → ∀ ls : Array Slot, lv_has ls 5 [] → W p l e rm_X7_owns s m args below meth c H locs 0 0 Q (F0 m 45 ls [])) (hE1 : ∀ w : Unit, z = .inr w → ∀ (H : Heap) (locs : List Loc), Wd D A s.heap (GC cy ad S) H locs → ∀ ls : Array Slot, lv_has ls 5 [] → W p l e rm_X7_owns s m args below meth c H locs 0 0 Q (F0 m 53 ls [])) : ∀ (x : Int32), lpO (b_X7_owns_16 n S x1 x2 x3) n x = some z → (fun (x : Int32) => ∀ (H : Heap) (locs : List Loc), Wd D A s.heap (GC cy ad S) H locs → ∀ ls : Array Slot, lv_has ls 5 [(1, .ref (ad 11 x1)), (2, .int x2), (3, .ref (ad 3 x3)), (4, .int x)] → W p l e rm_X7_owns s m args below meth c H locs 0 0 Q (F0 m 16 ls [])) x := by
  intro x hx0
  refine lpO_ind2 (P := fun (x : Int32) => ∀ (H : Heap) (locs : List Loc), Wd D A s.heap (GC cy ad S) H locs → ∀ ls : Array Slot, lv_has ls 5 [(1, .ref (ad 11 x1)), (2, .int x2), (3, .ref (ad 3 x3)), (4, .int x)] → W p l e rm_X7_owns s m args below meth c H locs 0 0 Q (F0 m 16 ls [])) (z := z) ?_ n x hx0
  clear hx0 x
  intro x out hm hg H locs hw ls hl 
  obtain ⟨hx, hb, hml, hown, hts, hr, hlo, hK, hA, hX⟩ := id K
  unfold b_X7_owns_16 at hm
  refine lv_iload hx hb dX7_owns_16 (lv_at hl 3 rfl) ?_
  refine lv_aload_n hx hb dX7_owns_18 rfl (lv_at hl 2 rfl) ?_
  refine g_get (ref := "MigrantHeap$Shape") (C := RX4) (T := TX4) (N := 6) (ci := 4) K in_X7_owns_X4 hw 3 rfl hb_x3 rfl rfl 0 (by decide) (List.mem_of_getElem? (i := 4) rfl) rfl rfl dX7_owns_19 ?_
  refine lv_icmp_ge (tgt := 53) hx hb dX7_owns_22 (by decide) (fun c18 => ?_) (fun c18 => ?_)
  · replace hm := (if_pos c18).symm.trans hm
    obtain rfl := Option.some.inj hm
    exact hE1 _ hg.symm H locs hw ls (lv_sub hl [] rfl)
  · replace hm := (if_neg c18).symm.trans hm
    refine lv_aload_n hx hb dX7_owns_25 rfl (lv_at hl 2 rfl) ?_
    refine lv_iload hx hb dX7_owns_26 (lv_at hl 3 rfl) ?_
    obtain ⟨z20, hc19, hm⟩ := bindS hm
    refine g_calli (GG := GC cy ad) K hw (va_runV (As := [.int x]) (rest := []) (g_fix K) (c_X4_isOwning l D cy ad H.size n S x3 x hb_x3 hc19) (cwV 1 (g_hts K) gX7_owns_X4_isOwning rfl rfl rfl (by decide +kernel) ⟨Nat.le_of_ble_eq_true rfl, Nat.le_of_ble_eq_true rfl⟩) ⟨g_blind rides_none, g_recv K hw 3 rfl hb_x3 rfl rfl, g_pre (X2 := fun _ _ => True) K hw (fun _ _ _ => trivial)⟩ rfl rfl hl.1 rfl (lv_room (Nat.le_of_ble_eq_true rfl)) dX7_owns_28 ⟨Nat.le_of_ble_eq_true rfl, Nat.le_of_ble_eq_true rfl⟩) (fun r u H locs hp hw => ?_)
    obtain ⟨rfl, hu⟩ := hp
    rw [hu] at hw
    refine lv_if_eq (tgt := 47) hx hb dX7_owns_31 (by decide) (fun c21 => ?_) (fun c21 => ?_)
    · replace hm := (if_pos c21).symm.trans hm
      obtain ⟨x22, hx22, hm⟩ := nm_ex hm
      refine lv_iinc (v := x22) (lv' := [(4, .int x22), (1, .ref (ad 11 x1)), (2, .int x2), (3, .ref (ad 3 x3))]) hx hb dX7_owns_47 hl (k := 3) rfl (by rw [hx22]; rfl) (by decide) rfl (fun ls hl => ?_)
      refine lv_goto (tgt := 16) hx hb dX7_owns_50 (by decide) ?_
      obtain rfl := Option.some.inj hm
      exact hg H locs hw ls (lv_sub hl [1, 2, 3, 0] rfl)
    · replace hm := (if_neg c21).symm.trans hm
      refine lv_aload_n hx hb dX7_owns_34 rfl (lv_at hl 0 rfl) ?_
      refine g_get (ref := "MigrantHeap$Entry") (C := RX0) (T := TX0) (N := 6) (ci := 0) K in_X7_owns_X0 hw 11 rfl hb_x1 rfl rfl 4 (by decide) (List.mem_of_getElem? (i := 5) rfl) rfl rfl dX7_owns_35 ?_
      refine lv_iload hx hb dX7_owns_38 (lv_at hl 3 rfl) ?_
      obtain ⟨h23, hm⟩ := chkS hm
      refine g_iald K hw 12 0 rfl hb_x1 rfl rfl h23 dX7_owns_40 ?_
      refine lv_iload_n hx hb dX7_owns_41 rfl (lv_at hl 1 rfl) ?_
      refine lv_icmp_ne (tgt := 47) hx hb dX7_owns_42 (by decide) (fun c24 => ?_) (fun c24 => ?_)
      · replace hm := (if_pos c24).symm.trans hm
        obtain ⟨x25, hx25, hm⟩ := nm_ex hm
        refine lv_iinc (v := x25) (lv' := [(4, .int x25), (1, .ref (ad 11 x1)), (2, .int x2), (3, .ref (ad 3 x3))]) hx hb dX7_owns_47 hl (k := 3) rfl (by rw [hx25]; rfl) (by decide) rfl (fun ls hl => ?_)
        refine lv_goto (tgt := 16) hx hb dX7_owns_50 (by decide) ?_
        obtain rfl := Option.some.inj hm
        exact hg H locs hw ls (lv_sub hl [1, 2, 3, 0] rfl)
      · replace hm := (if_neg (fun h => h c24)).symm.trans hm
        obtain rfl := Option.some.inj hm
        exact hE0 _ hg.symm H locs hw ls (lv_sub hl [] rfl)
set_option maxRecDepth 100000 in
set_option maxHeartbeats 4000000 in
theorem t_X7_owns_0 (K : Cx p s m args meth c D A (tysC cy) RX7 cX7_owns 5 (some .boolean) wsX7_owns (fun _ _ => True)) (n : Nat) (S : CSt) (x1 : Nat) (x2 : Int32) (hb_x1 : x1 < 24) {out : Int32} (hm : m_X7_owns n S x1 x2 = some out) : ∀ (H : Heap) (locs : List Loc), Wd D A s.heap (GC cy ad S) H locs → ∀ ls : Array Slot, lv_has ls 5 [(0, .ref (ad 0 0)), (1, .ref (ad 11 x1)), (2, .int x2)] → W p l e rm_X7_owns s m args below meth c H locs 0 0 (MQ below (va_Qi (fun r (u : CSt) => out = r ∧ u = S) (fun u => Pst D (tysC cy) A (GC cy ad u)) A) args s 0 0 A) (F0 m 0 ls []) := by
  intro H locs hw ls hl
  obtain ⟨hx, hb, hml, hown, hts, hr, hlo, hK, hA, hX⟩ := id K
  unfold m_X7_owns at hm
  refine lv_aload_n hx hb dX7_owns_0 rfl (lv_at hl 0 rfl) ?_
  refine g_get (ref := "MigrantHeap") (C := RX7) (T := TX7) (N := 11) (ci := 7) K in_X7_owns_X7 hw 0 rfl (by decide : 0 < 1) rfl rfl 0 (by decide) (List.mem_of_getElem? (i := 1) rfl) rfl rfl dX7_owns_1 ?_
  refine lv_aload_n hx hb dX7_owns_4 rfl (lv_at hl 1 rfl) ?_
  refine g_get (ref := "MigrantHeap$Entry") (C := RX0) (T := TX0) (N := 6) (ci := 0) K in_X7_owns_X0 hw 11 rfl hb_x1 rfl rfl 1 (by decide) (List.mem_of_getElem? (i := 2) rfl) rfl rfl dX7_owns_5 ?_
  obtain ⟨h26, hm⟩ := chkS hm
  refine g_aald K hw 1 4 rfl (by decide) rfl rfl h26 dX7_owns_8 ?_
  refine g_get (ref := "MigrantHeap$Kind") (C := RX2) (T := TX2) (N := 4) (ci := 2) K in_X7_owns_X2 hw 2 rfl (inB_lt h26) rfl rfl 2 (by decide) (List.mem_of_getElem? (i := 3) rfl) rfl rfl dX7_owns_9 ?_
  refine lv_astore_n (lv' := [(3, .ref (ad 3 (2 * (S.1 14 x1 0).toNatClampNeg))), (0, .ref (ad 0 0)), (1, .ref (ad 11 x1)), (2, .int x2)]) hx hb dX7_owns_12 rfl hl (by decide) rfl (fun ls hl => ?_)
  refine lv_iconst (v := 0) hx hb dX7_owns_13 (by decide) ?_
  refine lv_istore (lv' := [(4, .int 0), (3, .ref (ad 3 (2 * (S.1 14 x1 0).toNatClampNeg))), (0, .ref (ad 0 0)), (1, .ref (ad 11 x1)), (2, .int x2)]) hx hb dX7_owns_14 hl (by decide) rfl (fun ls hl => ?_)
  obtain ⟨z27, hz28, hm⟩ := bindS hm
  refine t_X7_owns_L16 K n S x1 x2 (2 * (S.1 14 x1 0).toNatClampNeg) hb_x1 (by have := (inB_lt h26); omega : (2 * (S.1 14 x1 0).toNatClampNeg) < 9) z27 (fun w29 hww29 => ?_) (fun w30 hww30 => ?_) (0) hz28 H locs hw ls (lv_sub hl [3, 4, 1, 0] rfl)
  · intro H locs hw ls hl 
    subst hww29
    replace hm := (sumL _ _ _).symm.trans hm
    refine lv_iconst (v := 1) hx hb dX7_owns_45 (by decide) ?_
    exact g_zret (GG := GC cy ad) K hw rfl ⟨(Option.some.inj hm).symm, rfl⟩ dX7_owns_46
  · intro H locs hw ls hl 
    subst hww30
    replace hm := (sumR _ _ _).symm.trans hm
    refine lv_iconst (v := 0) hx hb dX7_owns_53 (by decide) ?_
    exact g_zret (GG := GC cy ad) K hw rfl ⟨(Option.some.inj hm).symm, rfl⟩ dX7_owns_54
set_option maxRecDepth 100000 in
set_option maxHeartbeats 4000000 in
theorem c_X7_owns (l : Launch) (D : va_G) (cy : Nat → ClassId) (ad : Nat → Nat → Nat) (sz n : Nat) (S : CSt) (x1 : Nat) (x2 : Int32) (hb_x1 : x1 < 24) {out : Int32} (hm : m_X7_owns n S x1 x2 = some out) : Met l yX7_owns wsX7_owns rm_X7_owns (va_Pc [.ref (ad 0 0), .ref (ad 11 x1), .int x2] (Pre D (tysC cy) (GC cy ad S) (fun _ _ => True) sz)) (va_Qi (fun r (u : CSt) => out = r ∧ u = S) (fun u => Pst D (tysC cy) (AA (adrs (GC cy ad S)) sz) (GC cy ad u)) (AA (adrs (GC cy ad S)) sz)) 0 0 (AA (adrs (GC cy ad S)) sz) := by
  refine g_met (by decide) rfl (Nat.le_of_ble_eq_true rfl) ?_
  intro p e s m args below meth c K hw ls hl
  exact t_X7_owns_0 (cy := cy) K n S x1 x2 hb_x1 hm _ _ hw ls hl
end W_X7_owns
