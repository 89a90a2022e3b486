section W_X7_barTakeBackOfPart
variable {p : Program} {l : Launch} {e : Env} {s : State} {m : MethodId} {args : Array Value} {below : List Frame} {meth : Method} {c : Code} {D : va_G} {A : Nat → Prop} {cy : Nat → ClassId} {ad : Nat → Nat → Nat} {Q : State → Prop}
abbrev rm_X7_barTakeBackOfPart : Room := { frames := 2, cells := 0, slots := 0, locals := 42 }
theorem in_X7_barTakeBackOfPart_X2 : ∀ w ∈ u_ws RX2 TX2 4, w ∈ wsX7_barTakeBackOfPart := by decide +kernel
theorem in_X7_barTakeBackOfPart_X4 : ∀ w ∈ u_ws RX4 TX4 6, w ∈ wsX7_barTakeBackOfPart := by decide +kernel
theorem in_X7_barTakeBackOfPart_X5 : ∀ w ∈ u_ws RX5 TX5 6, w ∈ wsX7_barTakeBackOfPart := by decide +kernel
theorem in_X7_barTakeBackOfPart_X7 : ∀ w ∈ u_ws RX7 TX7 11, w ∈ wsX7_barTakeBackOfPart := by decide +kernel
set_option maxRecDepth 100000 in
set_option maxHeartbeats 4000000 in
theorem t_X7_barTakeBackOfPart_0 (K : Cx p s m args meth c D A (tysC cy) RX7 cX7_barTakeBackOfPart 3 none wsX7_barTakeBackOfPart (fun _ _ => True)) (n : Nat) (S : CSt) (x1 : Nat) (hb_x1 : x1 < 6) {out : CSt} (hm : m_X7_barTakeBackOfPart n S x1 = some out) : ∀ (H : Heap) (locs : List Loc), Wd D A s.heap (GC cy ad S) H locs → ∀ ls : Array Slot, lv_has ls 3 [(0, .ref (ad 0 0)), (1, .ref (ad 18 x1))] → W p l e rm_X7_barTakeBackOfPart s m args below meth c H locs 0 0 (MQ below (va_Qv (fun (u : CSt) => out = u) (fun u => Pst D (tysC cy) A (GC cy ad u)) A) args s 0 0 A) (F0 m 0 ls []) := by
  intro H locs hw ls hl
  obtain ⟨hx, hb, hml, hown, hts, hr, hlo, hK, hA, hX⟩ := id K
  unfold m_X7_barTakeBackOfPart at hm
  refine lv_aload_n hx hb dX7_barTakeBackOfPart_0 rfl (lv_at hl 1 rfl) ?_
  refine g_get (ref := "MigrantHeap$Step") (C := RX5) (T := TX5) (N := 6) (ci := 5) K in_X7_barTakeBackOfPart_X5 hw 18 rfl hb_x1 rfl rfl 0 (by decide) (List.mem_of_getElem? (i := 1) rfl) rfl rfl dX7_barTakeBackOfPart_1 ?_
  refine lv_iconst (v := 5) hx hb dX7_barTakeBackOfPart_4 (by decide) ?_
  refine lv_icmp_ne (tgt := 22) hx hb dX7_barTakeBackOfPart_5 (by decide) (fun c19 => ?_) (fun c19 => ?_)
  · replace hm := (if_pos c19).symm.trans hm
    refine lv_aload_n hx hb dX7_barTakeBackOfPart_22 rfl (lv_at hl 0 rfl) ?_
    refine g_get (ref := "MigrantHeap") (C := RX7) (T := TX7) (N := 11) (ci := 7) K in_X7_barTakeBackOfPart_X7 hw 0 rfl (by decide : 0 < 1) rfl rfl 8 (by decide) (List.mem_of_getElem? (i := 5) rfl) rfl rfl dX7_barTakeBackOfPart_23 ?_
    refine lv_aload_n hx hb dX7_barTakeBackOfPart_26 rfl (lv_at hl 1 rfl) ?_
    refine g_get (ref := "MigrantHeap$Step") (C := RX5) (T := TX5) (N := 6) (ci := 5) K in_X7_barTakeBackOfPart_X5 hw 18 rfl hb_x1 rfl rfl 1 (by decide) (List.mem_of_getElem? (i := 6) rfl) rfl rfl dX7_barTakeBackOfPart_27 ?_
    obtain ⟨z21, hc20, hm⟩ := bindS hm
    refine g_calli (GG := GC cy ad) K hw (va_runV (As := [.int (S.1 23 x1 0)]) (rest := []) (g_fix K) (c_X4_placeOf l D cy ad H.size n S 8 (S.1 23 x1 0) (by decide : 8 < 9) hc20) (cwV 1 (g_hts K) gX7_barTakeBackOfPart_X4_placeOf rfl rfl rfl (by decide +kernel) ⟨Nat.le_of_ble_eq_true rfl, Nat.le_of_ble_eq_true rfl⟩) ⟨g_blind rides_none, g_recv K hw 3 rfl (by decide : 8 < 9) rfl rfl, g_pre (X2 := fun _ _ => True) K hw (fun _ _ _ => trivial)⟩ rfl rfl hl.1 rfl (lv_room (Nat.le_of_ble_eq_true rfl)) dX7_barTakeBackOfPart_30 ⟨Nat.le_of_ble_eq_true rfl, Nat.le_of_ble_eq_true rfl⟩) (fun r u H locs hp hw => ?_)
    obtain ⟨rfl, hu⟩ := hp
    rw [hu] at hw
    refine lv_istore_n (lv' := [(2, .int z21), (0, .ref (ad 0 0)), (1, .ref (ad 18 x1))]) hx hb dX7_barTakeBackOfPart_33 rfl hl (by decide) rfl (fun ls hl => ?_)
    refine lv_aload_n hx hb dX7_barTakeBackOfPart_34 rfl (lv_at hl 1 rfl) ?_
    refine g_get (ref := "MigrantHeap") (C := RX7) (T := TX7) (N := 11) (ci := 7) K in_X7_barTakeBackOfPart_X7 hw 0 rfl (by decide : 0 < 1) rfl rfl 8 (by decide) (List.mem_of_getElem? (i := 5) rfl) rfl rfl dX7_barTakeBackOfPart_35 ?_
    refine lv_iload_n hx hb dX7_barTakeBackOfPart_38 rfl (lv_at hl 0 rfl) ?_
    obtain ⟨z23, hc22, hm⟩ := bindS hm
    refine g_calli (GG := GC cy ad) K hw (va_runV (As := [.int z21]) (rest := []) (g_fix K) (c_X4_isOwning l D cy ad H.size n S 8 z21 (by decide : 8 < 9) hc22) (cwV 1 (g_hts K) gX7_barTakeBackOfPart_X4_isOwning rfl rfl rfl (by decide +kernel) ⟨Nat.le_of_ble_eq_true rfl, Nat.le_of_ble_eq_true rfl⟩) ⟨g_blind rides_none, g_recv K hw 3 rfl (by decide : 8 < 9) rfl rfl, g_pre (X2 := fun _ _ => True) K hw (fun _ _ _ => trivial)⟩ rfl rfl hl.1 rfl (lv_room (Nat.le_of_ble_eq_true rfl)) dX7_barTakeBackOfPart_39 ⟨Nat.le_of_ble_eq_true rfl, Nat.le_of_ble_eq_true rfl⟩) (fun r u H locs hp hw => ?_)
    obtain ⟨rfl, hu⟩ := hp
    rw [hu] at hw
    refine lv_if_eq (tgt := 63) hx hb dX7_barTakeBackOfPart_42 (by decide) (fun c24 => ?_) (fun c24 => ?_)
    · replace hm := (if_pos c24).symm.trans hm
      exact g_vret (GG := GC cy ad) K hw (Option.some.inj hm).symm dX7_barTakeBackOfPart_63
    · replace hm := (if_neg c24).symm.trans hm
      refine lv_aload_n hx hb dX7_barTakeBackOfPart_45 rfl (lv_at hl 1 rfl) ?_
      refine g_get (ref := "MigrantHeap") (C := RX7) (T := TX7) (N := 11) (ci := 7) K in_X7_barTakeBackOfPart_X7 hw 0 rfl (by decide : 0 < 1) rfl rfl 0 (by decide) (List.mem_of_getElem? (i := 2) rfl) rfl rfl dX7_barTakeBackOfPart_46 ?_
      refine lv_aload_n hx hb dX7_barTakeBackOfPart_49 rfl (lv_at hl 1 rfl) ?_
      refine g_get (ref := "MigrantHeap") (C := RX7) (T := TX7) (N := 11) (ci := 7) K in_X7_barTakeBackOfPart_X7 hw 0 rfl (by decide : 0 < 1) rfl rfl 8 (by decide) (List.mem_of_getElem? (i := 5) rfl) rfl rfl dX7_barTakeBackOfPart_50 ?_
      refine g_get (ref := "MigrantHeap$Shape") (C := RX4) (T := TX4) (N := 6) (ci := 4) K in_X7_barTakeBackOfPart_X4 hw 3 rfl (by decide : 8 < 9) rfl rfl 3 (by decide) (List.mem_of_getElem? (i := 7) rfl) rfl rfl dX7_barTakeBackOfPart_53 ?_
      refine lv_iload_n hx hb dX7_barTakeBackOfPart_56 rfl (lv_at hl 0 rfl) ?_
      obtain ⟨h25, hm⟩ := chkS hm
      refine g_iald K hw 6 0 rfl (by decide : 8 < 9) rfl rfl h25 dX7_barTakeBackOfPart_57 ?_
      obtain ⟨h26, hm⟩ := chkS hm
      refine g_aald K hw 1 4 rfl (by decide) rfl rfl h26 dX7_barTakeBackOfPart_58 ?_
      refine lv_iconst (v := 0) hx hb dX7_barTakeBackOfPart_59 (by decide) ?_
      refine g_put (v := .int 0) (ty := .boolean) (ref := "MigrantHeap$Kind") (C := RX2) (T := TX2) (N := 4) (ci := 2) K in_X7_barTakeBackOfPart_X2 tyX2 tyX2_ok nmX2 hw 2 rfl (inB_lt h26) rfl rfl 1 (by decide) (List.mem_of_getElem? (i := 4) rfl) rfl rfl (by decide +kernel) rfl rfl (Nat.le_of_ble_eq_true rfl) dX7_barTakeBackOfPart_60 (eC_4 cy ad S ((S.1 8 8 z21.toNatClampNeg).toNatClampNeg) 0) (fun H locs hw => ?_)
      obtain ⟨S27, hS27, hm⟩ := nm_ex hm
      rw [← hS27] at hw
      exact g_vret (GG := GC cy ad) K hw (Option.some.inj hm).symm dX7_barTakeBackOfPart_63
  · replace hm := (if_neg (fun h => h c19)).symm.trans hm
    refine lv_aload_n hx hb dX7_barTakeBackOfPart_8 rfl (lv_at hl 0 rfl) ?_
    refine g_get (ref := "MigrantHeap") (C := RX7) (T := TX7) (N := 11) (ci := 7) K in_X7_barTakeBackOfPart_X7 hw 0 rfl (by decide : 0 < 1) rfl rfl 0 (by decide) (List.mem_of_getElem? (i := 2) rfl) rfl rfl dX7_barTakeBackOfPart_9 ?_
    refine lv_aload_n hx hb dX7_barTakeBackOfPart_12 rfl (lv_at hl 1 rfl) ?_
    refine g_get (ref := "MigrantHeap$Step") (C := RX5) (T := TX5) (N := 6) (ci := 5) K in_X7_barTakeBackOfPart_X5 hw 18 rfl hb_x1 rfl rfl 2 (by decide) (List.mem_of_getElem? (i := 3) rfl) rfl rfl dX7_barTakeBackOfPart_13 ?_
    obtain ⟨h28, hm⟩ := chkS hm
    refine g_aald K hw 1 4 rfl (by decide) rfl rfl h28 dX7_barTakeBackOfPart_16 ?_
    refine lv_iconst (v := 0) hx hb dX7_barTakeBackOfPart_17 (by decide) ?_
    refine g_put (v := .int 0) (ty := .boolean) (ref := "MigrantHeap$Kind") (C := RX2) (T := TX2) (N := 4) (ci := 2) K in_X7_barTakeBackOfPart_X2 tyX2 tyX2_ok nmX2 hw 2 rfl (inB_lt h28) rfl rfl 1 (by decide) (List.mem_of_getElem? (i := 4) rfl) rfl rfl (by decide +kernel) rfl rfl (Nat.le_of_ble_eq_true rfl) dX7_barTakeBackOfPart_18 (eC_4 cy ad S ((S.1 24 x1 0).toNatClampNeg) 0) (fun H locs hw => ?_)
    obtain ⟨S29, hS29, hm⟩ := nm_ex hm
    rw [← hS29] at hw
    exact g_vret (GG := GC cy ad) K hw (Option.some.inj hm).symm dX7_barTakeBackOfPart_21
set_option maxRecDepth 100000 in
set_option maxHeartbeats 4000000 in
theorem c_X7_barTakeBackOfPart (l : Launch) (D : va_G) (cy : Nat → ClassId) (ad : Nat → Nat → Nat) (sz n : Nat) (S : CSt) (x1 : Nat) (hb_x1 : x1 < 6) {out : CSt} (hm : m_X7_barTakeBackOfPart n S x1 = some out) : Met l yX7_barTakeBackOfPart wsX7_barTakeBackOfPart rm_X7_barTakeBackOfPart (va_Pc [.ref (ad 0 0), .ref (ad 18 x1)] (Pre D (tysC cy) (GC cy ad S) (fun _ _ => True) sz)) (va_Qv (fun (u : CSt) => out = u) (fun u => Pst D (tysC cy) (AA (adrs (GC cy ad S)) sz) (GC cy ad u)) (AA (adrs (GC cy ad S)) sz)) 0 0 (AA (adrs (GC cy ad S)) sz) := by
  refine g_met (by decide) rfl (Nat.le_of_ble_eq_true rfl) ?_
  intro p e s m args below meth c K hw ls hl
  exact t_X7_barTakeBackOfPart_0 (cy := cy) K n S x1 hb_x1 hm _ _ hw ls hl
end W_X7_barTakeBackOfPart
section W_X4_squeeze_a17
variable {p : Program} {l : Launch} {e : Env} {s : State} {m : MethodId} {args : Array Value} {below : List Frame} {meth : Method} {c : Code} {D : va_G} {A : Nat → Prop} {cy : Nat → ClassId} {ad : Nat → Nat → Nat} {Q : State → Prop}
abbrev rm_X4_squeeze_a17 : Room := { frames := 1, cells := 0, slots := 0, locals := 21 }
set_option maxRecDepth 100000 in
set_option maxHeartbeats 4000000 in
theorem t_X4_squeeze_a17_L5 (K : Cx p s m args meth c D A (tysC cy) RX4 cX4_squeeze 5 (some .int) wsX4_squeeze EV) (n : Nat) (x0 : Nat) (x1 : Nat) (x2 : Int32) (hb_x0 : x0 < 9) (hb_x1 : x1 < 24) (z : (CSt × Int32)) (hE0 : ∀ w : (CSt × Int32), z = w → ∀ (H : Heap) (locs : List Loc), Wd D A s.heap (GC cy ad w.1) H locs → ∀ ls : Array Slot, lv_has ls 5 [(3, .int w.2)] → W p l e rm_X4_squeeze_a17 s m args below meth c H locs 0 0 Q (F0 m 44 ls [])) : ∀ (x : (CSt × Int32 × Int32)), lpO (b_X4_squeeze_a17_5 n x0 x1 x2) n x = some z → (fun (x : (CSt × Int32 × Int32)) => ∀ (H : Heap) (locs : List Loc), Wd D A s.heap (GC cy ad x.1) H locs → ∀ ls : Array Slot, lv_has ls 5 [(0, .ref (ad 3 x0)), (1, .ref (ad 12 x1)), (2, .int x2), (3, .int x.2.1), (4, .int x.2.2)] → W p l e rm_X4_squeeze_a17 s m args below meth c H locs 0 0 Q (F0 m 5 ls [])) x := by
  intro x hx0
  refine lpO_ind2 (P := fun (x : (CSt × Int32 × Int32)) => ∀ (H : Heap) (locs : List Loc), Wd D A s.heap (GC cy ad x.1) H locs → ∀ ls : Array Slot, lv_has ls 5 [(0, .ref (ad 3 x0)), (1, .ref (ad 12 x1)), (2, .int x2), (3, .int x.2.1), (4, .int x.2.2)] → W p l e rm_X4_squeeze_a17 s m args below meth c H locs 0 0 Q (F0 m 5 ls [])) (z := z) ?_ n x hx0
  clear hx0 x
  intro x out hm hg H locs hw ls hl 
  obtain ⟨hx, hb, hml, hown, hts, hr, hlo, hK, hA, hX⟩ := id K
  unfold b_X4_squeeze_a17_5 at hm
  refine lv_iload hx hb dX4_squeeze_5 (lv_at hl 4 rfl) ?_
  refine lv_aload_n hx hb dX4_squeeze_7 rfl (lv_at hl 0 rfl) ?_
  refine g_get (ref := "MigrantHeap$Shape") (C := RX4) (T := TX4) (N := 6) (ci := 4) K in_X4_squeeze_X4 hw 3 rfl hb_x0 rfl rfl 0 (by decide) (List.mem_of_getElem? (i := 1) rfl) rfl rfl dX4_squeeze_8 ?_
  refine lv_icmp_ge (tgt := 44) hx hb dX4_squeeze_11 (by decide) (fun c27 => ?_) (fun c27 => ?_)
  · replace hm := (if_pos c27).symm.trans hm
    obtain rfl := Option.some.inj hm
    exact hE0 _ hg.symm H locs hw ls (lv_sub hl [3] rfl)
  · replace hm := (if_neg c27).symm.trans hm
    refine lv_aload_n hx hb dX4_squeeze_14 rfl (lv_at hl 0 rfl) ?_
    refine g_get (ref := "MigrantHeap$Shape") (C := RX4) (T := TX4) (N := 6) (ci := 4) K in_X4_squeeze_X4 hw 3 rfl hb_x0 rfl rfl 1 (by decide) (List.mem_of_getElem? (i := 2) rfl) rfl rfl dX4_squeeze_15 ?_
    refine lv_iload hx hb dX4_squeeze_18 (lv_at hl 4 rfl) ?_
    obtain ⟨h28, hm⟩ := chkS hm
    refine g_iald K hw 4 0 rfl hb_x0 rfl rfl h28 dX4_squeeze_20 ?_
    refine lv_iload_n hx hb dX4_squeeze_21 rfl (lv_at hl 2 rfl) ?_
    obtain ⟨z30, hc29, hm⟩ := bindS hm
    refine g_calli (GG := GC cy ad) K hw (va_runSN (host := RX7) (As := [.int (x.1.1 6 x0 x.2.2.toNatClampNeg), .int x2]) (rest := []) (g_fix K) (c_X7_isIn l D cy ad H.size n x.1 (x.1.1 6 x0 x.2.2.toNatClampNeg) x2  hc29) ⟨va_cnB 2 (g_hts K) gX4_squeeze_X7_isIn_n43 rfl rfl rfl hX.1 (hts _ (List.mem_of_getElem? (i := 4) rfl)) (by decide +kernel) ⟨Nat.le_of_ble_eq_true rfl, Nat.le_of_ble_eq_true rfl⟩, hts _ (List.mem_of_getElem? (i := 3) rfl), trivial⟩ ⟨g_blind rides_none, g_pre (X2 := fun _ _ => True) K hw (fun _ _ _ => trivial)⟩ rfl rfl hl.1 rfl (lv_room (Nat.le_of_ble_eq_true rfl)) dX4_squeeze_22 ⟨Nat.le_of_ble_eq_true rfl, Nat.le_of_ble_eq_true rfl⟩) (fun r u H locs hp hw => ?_)
    obtain ⟨rfl, hu⟩ := hp
    rw [hu] at hw
    refine lv_if_ne (tgt := 38) hx hb dX4_squeeze_25 (by decide) (fun c31 => ?_) (fun c31 => ?_)
    · replace hm := (if_pos c31).symm.trans hm
      obtain ⟨x32, hx32, hm⟩ := nm_ex hm
      refine lv_iinc (v := x32) (lv' := [(4, .int x32), (0, .ref (ad 3 x0)), (1, .ref (ad 12 x1)), (2, .int x2), (3, .int x.2.1)]) hx hb dX4_squeeze_38 hl (k := 4) rfl (by rw [hx32]; rfl) (by decide) rfl (fun ls hl => ?_)
      refine lv_goto (tgt := 5) hx hb dX4_squeeze_41 (by decide) ?_
      obtain rfl := Option.some.inj hm
      exact hg H locs hw ls (lv_sub hl [1, 2, 3, 4, 0] rfl)
    · replace hm := (if_neg (fun h => h c31)).symm.trans hm
      refine lv_aload_n hx hb dX4_squeeze_28 rfl (lv_at hl 1 rfl) ?_
      refine lv_iload_n hx hb dX4_squeeze_29 rfl (lv_at hl 3 rfl) ?_
      refine lv_aload_n hx hb dX4_squeeze_30 rfl (lv_at hl 1 rfl) ?_
      refine lv_iload hx hb dX4_squeeze_31 (lv_at hl 4 rfl) ?_
      obtain ⟨h33, hm⟩ := chkS hm
      refine g_iald K hw 12 0 rfl hb_x1 rfl rfl h33 dX4_squeeze_33 ?_
      obtain ⟨h34, hm⟩ := chkS hm
      refine g_iast K hw 12 0 rfl hb_x1 rfl rfl h34 dX4_squeeze_34 (eC_17 cy ad x.1 x1 x.2.1.toNatClampNeg (x.1.1 17 x1 x.2.2.toNatClampNeg)) (fun H locs hw => ?_)
      obtain ⟨S35, hS35, hm⟩ := nm_ex hm
      rw [← hS35] at hw
      obtain ⟨x36, hx36, hm⟩ := nm_ex hm
      refine lv_iinc (v := x36) (lv' := [(3, .int x36), (0, .ref (ad 3 x0)), (1, .ref (ad 12 x1)), (2, .int x2), (4, .int x.2.2)]) hx hb dX4_squeeze_35 hl (k := 3) rfl (by rw [hx36]; rfl) (by decide) rfl (fun ls hl => ?_)
      obtain ⟨x37, hx37, hm⟩ := nm_ex hm
      refine lv_iinc (v := x37) (lv' := [(4, .int x37), (3, .int x36), (0, .ref (ad 3 x0)), (1, .ref (ad 12 x1)), (2, .int x2)]) hx hb dX4_squeeze_38 hl (k := 4) rfl (by rw [hx37]; rfl) (by decide) rfl (fun ls hl => ?_)
      refine lv_goto (tgt := 5) hx hb dX4_squeeze_41 (by decide) ?_
      obtain rfl := Option.some.inj hm
      exact hg H locs hw ls (lv_sub hl [2, 3, 4, 1, 0] rfl)
set_option maxRecDepth 100000 in
set_option maxHeartbeats 4000000 in
theorem t_X4_squeeze_a17_0 (K : Cx p s m args meth c D A (tysC cy) RX4 cX4_squeeze 5 (some .int) wsX4_squeeze EV) (n : Nat) (S : CSt) (x0 : Nat) (x1 : Nat) (x2 : Int32) (hb_x0 : x0 < 9) (hb_x1 : x1 < 24) {out : Int32 × CSt} (hm : m_X4_squeeze_a17 n S x0 x1 x2 = some out) : ∀ (H : Heap) (locs : List Loc), Wd D A s.heap (GC cy ad S) H locs → ∀ ls : Array Slot, lv_has ls 5 [(0, .ref (ad 3 x0)), (1, .ref (ad 12 x1)), (2, .int x2)] → W p l e rm_X4_squeeze_a17 s m args below meth c H locs 0 0 (MQ below (va_Qi (fun r (u : CSt) => out = (r, u)) (fun u => Pst D (tysC cy) A (GC cy ad u)) A) args s 0 0 A) (F0 m 0 ls []) := by
  intro H locs hw ls hl
  obtain ⟨hx, hb, hml, hown, hts, hr, hlo, hK, hA, hX⟩ := id K
  unfold m_X4_squeeze_a17 at hm
  refine lv_iconst (v := 0) hx hb dX4_squeeze_0 (by decide) ?_
  refine lv_istore_n (lv' := [(3, .int 0), (0, .ref (ad 3 x0)), (1, .ref (ad 12 x1)), (2, .int x2)]) hx hb dX4_squeeze_1 rfl hl (by decide) rfl (fun ls hl => ?_)
  refine lv_iconst (v := 0) hx hb dX4_squeeze_2 (by decide) ?_
  refine lv_istore (lv' := [(4, .int 0), (3, .int 0), (0, .ref (ad 3 x0)), (1, .ref (ad 12 x1)), (2, .int x2)]) hx hb dX4_squeeze_3 hl (by decide) rfl (fun ls hl => ?_)
  obtain ⟨z38, hz39, hm⟩ := bindS hm
  refine t_X4_squeeze_a17_L5 K n x0 x1 x2 hb_x0 hb_x1 z38 (fun w40 hww40 => ?_) ((S, 0, 0)) hz39 H locs hw ls (lv_sub hl [2, 3, 4, 1, 0] rfl)
  · intro H locs hw ls hl 
    try rw [hww40] at hm
    refine lv_iload_n hx hb dX4_squeeze_44 rfl (lv_at hl 0 rfl) ?_
    exact g_iret (GG := GC cy ad) K hw (Option.some.inj hm).symm dX4_squeeze_45
set_option maxRecDepth 100000 in
set_option maxHeartbeats 4000000 in
theorem c_X4_squeeze_a17 (l : Launch) (D : va_G) (cy : Nat → ClassId) (ad : Nat → Nat → Nat) (sz n : Nat) (S : CSt) (x0 : Nat) (x1 : Nat) (x2 : Int32) (hb_x0 : x0 < 9) (hb_x1 : x1 < 24) {out : Int32 × CSt} (hm : m_X4_squeeze_a17 n S x0 x1 x2 = some out) : Met l yX4_squeeze wsX4_squeeze rm_X4_squeeze_a17 (va_Pc [.ref (ad 3 x0), .ref (ad 12 x1), .int x2] (Pre D (tysC cy) (GC cy ad S) EV sz)) (va_Qi (fun r (u : CSt) => out = (r, u)) (fun u => Pst D (tysC cy) (AA (adrs (GC cy ad S)) sz) (GC cy ad u)) (AA (adrs (GC cy ad S)) sz)) 0 0 (AA (adrs (GC cy ad S)) sz) := by
  refine g_met (by decide) rfl (Nat.le_of_ble_eq_true rfl) ?_
  intro p e s m args below meth c K hw ls hl
  exact t_X4_squeeze_a17_0 (cy := cy) K n S x0 x1 x2 hb_x0 hb_x1 hm _ _ hw ls hl
end W_X4_squeeze_a17
section W_X7_joinBack_nul
variable {p : Program} {l : Launch} {e : Env} {s : State} {m : MethodId} {args : Array Value} {below : List Frame} {meth : Method} {c : Code} {D : va_G} {A : Nat → Prop} {cy : Nat → ClassId} {ad : Nat → Nat → Nat} {Q : State → Prop}
abbrev rm_X7_joinBack_nul : Room := { frames := 0, cells := 0, slots := 0, locals := 0 }
set_option maxRecDepth 100000 in
set_option maxHeartbeats 4000000 in
theorem t_X7_joinBack_nul_0 (K : Cx p s m args meth c D A (tysC cy) RX7 cX7_joinBack 7 none wsX7_joinBack (fun _ _ => True)) (n : Nat) (S : CSt) (x1 : Nat) (x2 : Nat) (hb_x1 : x1 < 6) (hb_x2 : x2 < 24) {out : Unit} (hm : m_X7_joinBack_nul n S x1 x2 = some out) : ∀ (H : Heap) (locs : List Loc), Wd D A s.heap (GC cy ad S) H locs → ∀ ls : Array Slot, lv_has ls 7 [(0, .ref (ad 0 0)), (1, .ref (ad 18 x1)), (2, .ref (ad 11 x2)), (3, .null)] → W p l e rm_X7_joinBack_nul s m args below meth c H locs 0 0 (MQ below (va_Qv (fun (u : CSt) => u = S) (fun u => Pst D (tysC cy) A (GC cy ad u)) A) args s 0 0 A) (F0 m 0 ls []) := by
  intro H locs hw ls hl
  obtain ⟨hx, hb, hml, hown, hts, hr, hlo, hK, hA, hX⟩ := id K
  unfold m_X7_joinBack_nul at hm
  refine lv_aload_nN hx hb dX7_joinBack_0 rfl (lv_at hl 3 rfl) ?_
  refine lv_ifnonnullN hx hb dX7_joinBack_1 ?_
  exact g_vret (GG := GC cy ad) K hw rfl dX7_joinBack_4
set_option maxRecDepth 100000 in
set_option maxHeartbeats 4000000 in
theorem c_X7_joinBack_nul (l : Launch) (D : va_G) (cy : Nat → ClassId) (ad : Nat → Nat → Nat) (sz n : Nat) (S : CSt) (x1 : Nat) (x2 : Nat) (hb_x1 : x1 < 6) (hb_x2 : x2 < 24) {out : Unit} (hm : m_X7_joinBack_nul n S x1 x2 = some out) : Met l yX7_joinBack wsX7_joinBack rm_X7_joinBack_nul (va_Pc [.ref (ad 0 0), .ref (ad 18 x1), .ref (ad 11 x2), .null] (Pre D (tysC cy) (GC cy ad S) (fun _ _ => True) sz)) (va_Qv (fun (u : CSt) => u = S) (fun u => Pst D (tysC cy) (AA (adrs (GC cy ad S)) sz) (GC cy ad u)) (AA (adrs (GC cy ad S)) sz)) 0 0 (AA (adrs (GC cy ad S)) sz) := by
  refine g_met (by decide) rfl (Nat.le_of_ble_eq_true rfl) ?_
  intro p e s m args below meth c K hw ls hl
  exact t_X7_joinBack_nul_0 (cy := cy) K n S x1 x2 hb_x1 hb_x2 hm _ _ hw ls hl
end W_X7_joinBack_nul
section W_X6_remove
variable {p : Program} {l : Launch} {e : Env} {s : State} {m : MethodId} {args : Array Value} {below : List Frame} {meth : Method} {c : Code} {D : va_G} {A : Nat → Prop} {cy : Nat → ClassId} {ad : Nat → Nat → Nat} {Q : State → Prop}
abbrev rm_X6_remove : Room := { frames := 0, cells := 0, slots := 0, locals := 0 }
theorem in_X6_remove_X0 : ∀ w ∈ u_ws RX0 TX0 6, w ∈ wsX6_remove := by decide +kernel
theorem in_X6_remove_X6 : ∀ w ∈ u_ws RX6 TX6 3, w ∈ wsX6_remove := by decide +kernel
set_option maxRecDepth 100000 in
set_option maxHeartbeats 4000000 in
theorem t_X6_remove_0 (K : Cx p s m args meth c D A (tysC cy) RX6 cX6_remove 2 none wsX6_remove (fun _ _ => True)) (n : Nat) (S : CSt) (x1 : Nat) (hb_x1 : x1 < 24) {out : CSt} (hm : m_X6_remove n S x1 = some out) : ∀ (H : Heap) (locs : List Loc), Wd D A s.heap (GC cy ad S) H locs → ∀ ls : Array Slot, lv_has ls 2 [(0, .ref (ad 9 0)), (1, .ref (ad 11 x1))] → W p l e rm_X6_remove s m args below meth c H locs 0 0 (MQ below (va_Qv (fun (u : CSt) => out = u) (fun u => Pst D (tysC cy) A (GC cy ad u)) A) args s 0 0 A) (F0 m 0 ls []) := by
  intro H locs hw ls hl
  obtain ⟨hx, hb, hml, hown, hts, hr, hlo, hK, hA, hX⟩ := id K
  unfold m_X6_remove at hm
  refine lv_aload_n hx hb dX6_remove_0 rfl (lv_at hl 1 rfl) ?_
  refine lv_iconst (v := 0) hx hb dX6_remove_1 (by decide) ?_
  refine g_put (v := .int 0) (ty := .int) (ref := "MigrantHeap$Entry") (C := RX0) (T := TX0) (N := 6) (ci := 0) K in_X6_remove_X0 tyX0 tyX0_ok nmX0 hw 11 rfl hb_x1 rfl rfl 0 (by decide) (List.mem_of_getElem? (i := 1) rfl) rfl rfl (by decide +kernel) rfl rfl (Nat.le_of_ble_eq_true rfl) dX6_remove_2 (eC_13 cy ad S x1 0) (fun H locs hw => ?_)
  obtain ⟨S5, hS5, hm⟩ := nm_ex hm
  rw [← hS5] at hw
  refine lv_aload_n hx hb dX6_remove_5 rfl (lv_at hl 0 rfl) ?_
  refine lv_dup hx hb dX6_remove_6 rfl ?_
  refine g_get (ref := "MigrantHeap$Store") (C := RX6) (T := TX6) (N := 3) (ci := 6) K in_X6_remove_X6 hw 9 rfl (by decide : 0 < 1) rfl rfl 1 (by decide) (List.mem_of_getElem? (i := 2) rfl) rfl rfl dX6_remove_7 ?_
  refine lv_iconst (v := 1) hx hb dX6_remove_10 (by decide) ?_
  refine lv_isub hx hb dX6_remove_11 ?_
  refine g_put (v := .int ((S5.1 11 0 0) - 1)) (ty := .int) (ref := "MigrantHeap$Store") (C := RX6) (T := TX6) (N := 3) (ci := 6) K in_X6_remove_X6 tyX6 tyX6_ok nmX6 hw 9 rfl (by decide : 0 < 1) rfl rfl 1 (by decide) (List.mem_of_getElem? (i := 2) rfl) rfl rfl (by decide +kernel) rfl rfl (Nat.le_of_ble_eq_true rfl) dX6_remove_12 (eC_11 cy ad S5 0 ((S5.1 11 0 0) - 1)) (fun H locs hw => ?_)
  obtain ⟨S6, hS6, hm⟩ := nm_ex hm
  rw [← hS6] at hw
  exact g_vret (GG := GC cy ad) K hw (Option.some.inj hm).symm dX6_remove_15
set_option maxRecDepth 100000 in
set_option maxHeartbeats 4000000 in
theorem c_X6_remove (l : Launch) (D : va_G) (cy : Nat → ClassId) (ad : Nat → Nat → Nat) (sz n : Nat) (S : CSt) (x1 : Nat) (hb_x1 : x1 < 24) {out : CSt} (hm : m_X6_remove n S x1 = some out) : Met l yX6_remove wsX6_remove rm_X6_remove (va_Pc [.ref (ad 9 0), .ref (ad 11 x1)] (Pre D (tysC cy) (GC cy ad S) (fun _ _ => True) sz)) (va_Qv (fun (u : CSt) => out = u) (fun u => Pst D (tysC cy) (AA (adrs (GC cy ad S)) sz) (GC cy ad u)) (AA (adrs (GC cy ad S)) sz)) 0 0 (AA (adrs (GC cy ad S)) sz) := by
  refine g_met (by decide) rfl (Nat.le_of_ble_eq_true rfl) ?_
  intro p e s m args below meth c K hw ls hl
  exact t_X6_remove_0 (cy := cy) K n S x1 hb_x1 hm _ _ hw ls hl
end W_X6_remove
section W_X7_joinBack
variable {p : Program} {l : Launch} {e : Env} {s : State} {m : MethodId} {args : Array Value} {below : List Frame} {meth : Method} {c : Code} {D : va_G} {A : Nat → Prop} {cy : Nat → ClassId} {ad : Nat → Nat → Nat} {Q : State → Prop}
abbrev rm_X7_joinBack : Room := { frames := 2, cells := 0, slots := 0, locals := 45 }
theorem in_X7_joinBack_X0 : ∀ w ∈ u_ws RX0 TX0 6, w ∈ wsX7_joinBack := by decide +kernel
theorem in_X7_joinBack_X2 : ∀ w ∈ u_ws RX2 TX2 4, w ∈ wsX7_joinBack := by decide +kernel
theorem in_X7_joinBack_X4 : ∀ w ∈ u_ws RX4 TX4 6, w ∈ wsX7_joinBack := by decide +kernel
theorem in_X7_joinBack_X5 : ∀ w ∈ u_ws RX5 TX5 6, w ∈ wsX7_joinBack := by decide +kernel
theorem in_X7_joinBack_X7 : ∀ w ∈ u_ws RX7 TX7 11, w ∈ wsX7_joinBack := by decide +kernel
set_option maxRecDepth 100000 in
set_option maxHeartbeats 4000000 in
theorem t_X7_joinBack_L44 (K : Cx p s m args meth c D A (tysC cy) RX7 cX7_joinBack 7 none wsX7_joinBack EV) (n : Nat) (x2 : Nat) (x3 : Nat) (x4 : Int32) (x5 : Int32) (hb_x2 : x2 < 24) (hb_x3 : x3 < 24) (z : CSt) (hE0 : ∀ w : CSt, z = w → ∀ (H : Heap) (locs : List Loc), Wd D A s.heap (GC cy ad w) H locs → ∀ ls : Array Slot, lv_has ls 7 [(0, .ref (ad 0 0)), (3, .ref (ad 11 x3))] → W p l e rm_X7_joinBack s m args below meth c H locs 0 0 Q (F0 m 73 ls [])) : ∀ (x : (CSt × Int32)), lpO (b_X7_joinBack_44 n x2 x3 x4 x5) n x = some z → (fun (x : (CSt × Int32)) => ∀ (H : Heap) (locs : List Loc), Wd D A s.heap (GC cy ad x.1) H locs → ∀ ls : Array Slot, lv_has ls 7 [(0, .ref (ad 0 0)), (2, .ref (ad 11 x2)), (3, .ref (ad 11 x3)), (4, .int x4), (5, .int x5), (6, .int x.2)] → W p l e rm_X7_joinBack s m args below meth c H locs 0 0 Q (F0 m 44 ls [])) x := by
  intro x hx0
  refine lpO_ind2 (P := fun (x : (CSt × Int32)) => ∀ (H : Heap) (locs : List Loc), Wd D A s.heap (GC cy ad x.1) H locs → ∀ ls : Array Slot, lv_has ls 7 [(0, .ref (ad 0 0)), (2, .ref (ad 11 x2)), (3, .ref (ad 11 x3)), (4, .int x4), (5, .int x5), (6, .int x.2)] → W p l e rm_X7_joinBack s m args below meth c H locs 0 0 Q (F0 m 44 ls [])) (z := z) ?_ n x hx0
  clear hx0 x
  intro x out hm hg H locs hw ls hl 
  obtain ⟨hx, hb, hml, hown, hts, hr, hlo, hK, hA, hX⟩ := id K
  unfold b_X7_joinBack_44 at hm
  refine lv_iload hx hb dX7_joinBack_44 (lv_at hl 5 rfl) ?_
  refine lv_iload hx hb dX7_joinBack_46 (lv_at hl 4 rfl) ?_
  refine lv_icmp_ge (tgt := 73) hx hb dX7_joinBack_48 (by decide) (fun c31 => ?_) (fun c31 => ?_)
  · replace hm := (if_pos c31).symm.trans hm
    obtain rfl := Option.some.inj hm
    exact hE0 _ hg.symm H locs hw ls (lv_sub hl [0, 2] rfl)
  · replace hm := (if_neg c31).symm.trans hm
    refine lv_aload_n hx hb dX7_joinBack_51 rfl (lv_at hl 1 rfl) ?_
    refine lv_iload hx hb dX7_joinBack_52 (lv_at hl 3 rfl) ?_
    refine lv_iload hx hb dX7_joinBack_54 (lv_at hl 5 rfl) ?_
    refine lv_iadd hx hb dX7_joinBack_56 ?_
    refine lv_aload_n hx hb dX7_joinBack_57 rfl (lv_at hl 2 rfl) ?_
    refine g_get (ref := "MigrantHeap$Entry") (C := RX0) (T := TX0) (N := 6) (ci := 0) K in_X7_joinBack_X0 hw 11 rfl hb_x3 rfl rfl 4 (by decide) (List.mem_of_getElem? (i := 2) rfl) rfl rfl dX7_joinBack_58 ?_
    refine lv_iload hx hb dX7_joinBack_61 (lv_at hl 5 rfl) ?_
    obtain ⟨h32, hm⟩ := chkS hm
    refine g_iald K hw 12 0 rfl hb_x3 rfl rfl h32 dX7_joinBack_63 ?_
    obtain ⟨z34, hc33, hm⟩ := bindS hm
    refine g_callv (GG := GC cy ad) K hw (va_runV (As := [.int (x4 + x.2), .int (x.1.1 17 x3 x.2.toNatClampNeg)]) (rest := []) (g_fix K) (c_X0_put l D cy ad H.size n x.1 x2 (x4 + x.2) (x.1.1 17 x3 x.2.toNatClampNeg) hb_x2 hc33) (cwV 2 (g_hts K) gX7_joinBack_X0_put rfl rfl rfl (by decide +kernel) ⟨Nat.le_of_ble_eq_true rfl, Nat.le_of_ble_eq_true rfl⟩) ⟨g_blind rides_none, g_recv K hw 11 rfl hb_x2 rfl rfl, g_pre (X2 := fun _ _ => True) K hw (fun _ _ _ => trivial)⟩ rfl rfl hl.1 rfl (lv_room (Nat.le_of_ble_eq_true rfl)) dX7_joinBack_64 ⟨Nat.le_of_ble_eq_true rfl, Nat.le_of_ble_eq_true rfl⟩) (fun u H locs hp hw => ?_)
    obtain rfl := hp
    obtain ⟨x35, hx35, hm⟩ := nm_ex hm
    refine lv_iinc (v := x35) (lv' := [(6, .int x35), (0, .ref (ad 0 0)), (2, .ref (ad 11 x2)), (3, .ref (ad 11 x3)), (4, .int x4), (5, .int x5)]) hx hb dX7_joinBack_67 hl (k := 5) rfl (by rw [hx35]; rfl) (by decide) rfl (fun ls hl => ?_)
    refine lv_goto (tgt := 44) hx hb dX7_joinBack_70 (by decide) ?_
    obtain rfl := Option.some.inj hm
    exact hg H locs hw ls (lv_sub hl [1, 2, 3, 4, 5, 0] rfl)
set_option maxRecDepth 100000 in
set_option maxHeartbeats 4000000 in
theorem t_X7_joinBack_0 (K : Cx p s m args meth c D A (tysC cy) RX7 cX7_joinBack 7 none wsX7_joinBack EV) (n : Nat) (S : CSt) (x1 : Nat) (x2 : Nat) (x3 : Nat) (hb_x1 : x1 < 6) (hb_x2 : x2 < 24) (hb_x3 : x3 < 24) {out : CSt} (hm : m_X7_joinBack n S x1 x2 x3 = some out) : ∀ (H : Heap) (locs : List Loc), Wd D A s.heap (GC cy ad S) H locs → ∀ ls : Array Slot, lv_has ls 7 [(0, .ref (ad 0 0)), (1, .ref (ad 18 x1)), (2, .ref (ad 11 x2)), (3, .ref (ad 11 x3))] → W p l e rm_X7_joinBack s m args below meth c H locs 0 0 (MQ below (va_Qv (fun (u : CSt) => out = u) (fun u => Pst D (tysC cy) A (GC cy ad u)) A) args s 0 0 A) (F0 m 0 ls []) := by
  intro H locs hw ls hl
  obtain ⟨hx, hb, hml, hown, hts, hr, hlo, hK, hA, hX⟩ := id K
  unfold m_X7_joinBack at hm
  refine lv_aload_n hx hb dX7_joinBack_0 rfl (lv_at hl 3 rfl) ?_
  refine lv_ifnonnull (tgt := 5) hx hb dX7_joinBack_1 (by decide) ?_
  refine lv_aload_n hx hb dX7_joinBack_5 rfl (lv_at hl 0 rfl) ?_
  refine g_get (ref := "MigrantHeap") (C := RX7) (T := TX7) (N := 11) (ci := 7) K in_X7_joinBack_X7 hw 0 rfl (by decide : 0 < 1) rfl rfl 8 (by decide) (List.mem_of_getElem? (i := 1) rfl) rfl rfl dX7_joinBack_6 ?_
  refine lv_aload_n hx hb dX7_joinBack_9 rfl (lv_at hl 2 rfl) ?_
  refine g_get (ref := "MigrantHeap$Entry") (C := RX0) (T := TX0) (N := 6) (ci := 0) K in_X7_joinBack_X0 hw 11 rfl hb_x2 rfl rfl 4 (by decide) (List.mem_of_getElem? (i := 2) rfl) rfl rfl dX7_joinBack_10 ?_
  refine lv_iconst (v := 1) hx hb dX7_joinBack_13 (by decide) ?_
  refine lv_aload_n hx hb dX7_joinBack_14 rfl (lv_at hl 1 rfl) ?_
  refine g_get (ref := "MigrantHeap$Step") (C := RX5) (T := TX5) (N := 6) (ci := 5) K in_X7_joinBack_X5 hw 18 rfl hb_x1 rfl rfl 1 (by decide) (List.mem_of_getElem? (i := 3) rfl) rfl rfl dX7_joinBack_15 ?_
  refine lv_ishl hx hb dX7_joinBack_18 ?_
  obtain ⟨z37, hc36, hm⟩ := bindS hm
  refine g_calli (GG := GC cy ad) K hw (va_runV (As := [.ref (ad 12 x2), .int (1 <<< ((S.1 23 x1 0) &&& 31))]) (rest := []) (g_fix K) (c_X4_squeeze_a17 l D cy ad H.size n S 8 x2 (1 <<< ((S.1 23 x1 0) &&& 31)) (by decide : 8 < 9) hb_x2 hc36) (cwV 2 (g_hts K) gX7_joinBack_X4_squeeze rfl rfl rfl (by decide +kernel) ⟨Nat.le_of_ble_eq_true rfl, Nat.le_of_ble_eq_true rfl⟩) ⟨g_blind rides_EV, g_recv K hw 3 rfl (by decide : 8 < 9) rfl rfl, g_pre K hw (g_ride rides_EV K hw)⟩ rfl rfl hl.1 rfl (lv_room (Nat.le_of_ble_eq_true rfl)) dX7_joinBack_19 ⟨Nat.le_of_ble_eq_true rfl, Nat.le_of_ble_eq_true rfl⟩) (fun r u H locs hp hw => ?_)
  obtain ⟨rfl, rfl⟩ : r = z37.1 ∧ u = z37.2 := by rw [hp]; exact ⟨rfl, rfl⟩
  refine lv_istore (lv' := [(4, .int z37.1), (0, .ref (ad 0 0)), (1, .ref (ad 18 x1)), (2, .ref (ad 11 x2)), (3, .ref (ad 11 x3))]) hx hb dX7_joinBack_22 hl (by decide) rfl (fun ls hl => ?_)
  refine lv_aload_n hx hb dX7_joinBack_24 rfl (lv_at hl 1 rfl) ?_
  refine g_get (ref := "MigrantHeap") (C := RX7) (T := TX7) (N := 11) (ci := 7) K in_X7_joinBack_X7 hw 0 rfl (by decide : 0 < 1) rfl rfl 0 (by decide) (List.mem_of_getElem? (i := 4) rfl) rfl rfl dX7_joinBack_25 ?_
  refine lv_aload_n hx hb dX7_joinBack_28 rfl (lv_at hl 4 rfl) ?_
  refine g_get (ref := "MigrantHeap$Entry") (C := RX0) (T := TX0) (N := 6) (ci := 0) K in_X7_joinBack_X0 hw 11 rfl hb_x3 rfl rfl 1 (by decide) (List.mem_of_getElem? (i := 5) rfl) rfl rfl dX7_joinBack_29 ?_
  obtain ⟨h38, hm⟩ := chkS hm
  refine g_aald K hw 1 4 rfl (by decide) rfl rfl h38 dX7_joinBack_32 ?_
  refine g_get (ref := "MigrantHeap$Kind") (C := RX2) (T := TX2) (N := 4) (ci := 2) K in_X7_joinBack_X2 hw 2 rfl (inB_lt h38) rfl rfl 2 (by decide) (List.mem_of_getElem? (i := 6) rfl) rfl rfl dX7_joinBack_33 ?_
  refine g_get (ref := "MigrantHeap$Shape") (C := RX4) (T := TX4) (N := 6) (ci := 4) K in_X7_joinBack_X4 hw 3 rfl (by have := (inB_lt h38); omega : (2 * (z37.2.1 14 x3 0).toNatClampNeg) < 9) rfl rfl 0 (by decide) (List.mem_of_getElem? (i := 7) rfl) rfl rfl dX7_joinBack_36 ?_
  obtain ⟨x39, hx39, hm⟩ := nm_ex hm
  refine W.eq (g2 := F0 m 39 ls (.int x39 :: [])) (by rw [hx39]) ?_
  refine lv_istore (lv' := [(5, .int x39), (4, .int z37.1), (0, .ref (ad 0 0)), (1, .ref (ad 18 x1)), (2, .ref (ad 11 x2)), (3, .ref (ad 11 x3))]) hx hb dX7_joinBack_39 hl (by decide) rfl (fun ls hl => ?_)
  refine lv_iconst (v := 0) hx hb dX7_joinBack_41 (by decide) ?_
  refine lv_istore (lv' := [(6, .int 0), (5, .int x39), (4, .int z37.1), (0, .ref (ad 0 0)), (1, .ref (ad 18 x1)), (2, .ref (ad 11 x2)), (3, .ref (ad 11 x3))]) hx hb dX7_joinBack_42 hl (by decide) rfl (fun ls hl => ?_)
  obtain ⟨z40, hz41, hm⟩ := bindS hm
  refine t_X7_joinBack_L44 K n x2 x3 z37.1 x39 hb_x2 hb_x3 z40 (fun w42 hww42 => ?_) ((z37.2, 0)) hz41 H locs hw ls (lv_sub hl [3, 5, 6, 2, 1, 0] rfl)
  · intro H locs hw ls hl 
    try rw [hww42] at hm
    refine lv_aload_n hx hb dX7_joinBack_73 rfl (lv_at hl 0 rfl) ?_
    refine g_get (ref := "MigrantHeap") (C := RX7) (T := TX7) (N := 11) (ci := 7) K in_X7_joinBack_X7 hw 0 rfl (by decide : 0 < 1) rfl rfl 2 (by decide) (List.mem_of_getElem? (i := 8) rfl) rfl rfl dX7_joinBack_74 ?_
    refine lv_aload_n hx hb dX7_joinBack_77 rfl (lv_at hl 1 rfl) ?_
    obtain ⟨z44, hc43, hm⟩ := bindS hm
    refine g_callv (GG := GC cy ad) K hw (va_runV (As := [.ref (ad 11 x3)]) (rest := []) (g_fix K) (c_X6_remove l D cy ad H.size n w42 x3 hb_x3 hc43) (cwV 1 (g_hts K) gX7_joinBack_X6_remove rfl rfl rfl (by decide +kernel) ⟨Nat.le_of_ble_eq_true rfl, Nat.le_of_ble_eq_true rfl⟩) ⟨g_blind rides_none, g_recv K hw 9 rfl (by decide : 0 < 1) rfl rfl, g_pre (X2 := fun _ _ => True) K hw (fun _ _ _ => trivial)⟩ rfl rfl hl.1 rfl (lv_room (Nat.le_of_ble_eq_true rfl)) dX7_joinBack_78 ⟨Nat.le_of_ble_eq_true rfl, Nat.le_of_ble_eq_true rfl⟩) (fun u H locs hp hw => ?_)
    obtain rfl := hp
    exact g_vret (GG := GC cy ad) K hw (Option.some.inj hm).symm dX7_joinBack_81
set_option maxRecDepth 100000 in
set_option maxHeartbeats 4000000 in
theorem c_X7_joinBack (l : Launch) (D : va_G) (cy : Nat → ClassId) (ad : Nat → Nat → Nat) (sz n : Nat) (S : CSt) (x1 : Nat) (x2 : Nat) (x3 : Nat) (hb_x1 : x1 < 6) (hb_x2 : x2 < 24) (hb_x3 : x3 < 24) {out : CSt} (hm : m_X7_joinBack n S x1 x2 x3 = some out) : Met l yX7_joinBack wsX7_joinBack rm_X7_joinBack (va_Pc [.ref (ad 0 0), .ref (ad 18 x1), .ref (ad 11 x2), .ref (ad 11 x3)] (Pre D (tysC cy) (GC cy ad S) EV sz)) (va_Qv (fun (u : CSt) => out = u) (fun u => Pst D (tysC cy) (AA (adrs (GC cy ad S)) sz) (GC cy ad u)) (AA (adrs (GC cy ad S)) sz)) 0 0 (AA (adrs (GC cy ad S)) sz) := by
  refine g_met (by decide) rfl (Nat.le_of_ble_eq_true rfl) ?_
  intro p e s m args below meth c K hw ls hl
  exact t_X7_joinBack_0 (cy := cy) K n S x1 x2 x3 hb_x1 hb_x2 hb_x3 hm _ _ hw ls hl
end W_X7_joinBack
section W_X7_splitOff
variable {p : Program} {l : Launch} {e : Env} {s : State} {m : MethodId} {args : Array Value} {below : List Frame} {meth : Method} {c : Code} {D : va_G} {A : Nat → Prop} {cy : Nat → ClassId} {ad : Nat → Nat → Nat} {Q : State → Prop}
abbrev rm_X7_splitOff : Room := { frames := 3, cells := 0, slots := 0, locals := 67 }
theorem in_X7_splitOff_X0 : ∀ w ∈ u_ws RX0 TX0 6, w ∈ wsX7_splitOff := by decide +kernel
theorem in_X7_splitOff_X2 : ∀ w ∈ u_ws RX2 TX2 4, w ∈ wsX7_splitOff := by decide +kernel
theorem in_X7_splitOff_X4 : ∀ w ∈ u_ws RX4 TX4 6, w ∈ wsX7_splitOff := by decide +kernel
theorem in_X7_splitOff_X5 : ∀ w ∈ u_ws RX5 TX5 6, w ∈ wsX7_splitOff := by decide +kernel
theorem in_X7_splitOff_X7 : ∀ w ∈ u_ws RX7 TX7 11, w ∈ wsX7_splitOff := by decide +kernel
set_option maxRecDepth 100000 in
set_option maxHeartbeats 4000000 in
theorem t_X7_splitOff_L31 (K : Cx p s m args meth c D A (tysC cy) RX7 cX7_splitOff 7 none wsX7_splitOff EV) (n : Nat) (x1 : Nat) (x2 : Nat) (x3 : Nat) (x4 : Nat) (hb_x1 : x1 < 6) (hb_x2 : x2 < 24) (hb_x3 : x3 < 24) (hb_x4 : x4 < 9) (z : CSt) (hE0 : ∀ w : CSt, z = w → ∀ (H : Heap) (locs : List Loc), Wd D A s.heap (GC cy ad w) H locs → ∀ ls : Array Slot, lv_has ls 7 [(0, .ref (ad 0 0)), (1, .ref (ad 18 x1)), (2, .ref (ad 11 x2)), (3, .ref (ad 11 x3))] → W p l e rm_X7_splitOff s m args below meth c H locs 0 0 Q (F0 m 84 ls [])) : ∀ (x : (CSt × Int32)), lpO (b_X7_splitOff_31 n x1 x2 x3 x4) n x = some z → (fun (x : (CSt × Int32)) => ∀ (H : Heap) (locs : List Loc), Wd D A s.heap (GC cy ad x.1) H locs → ∀ ls : Array Slot, lv_has ls 7 [(0, .ref (ad 0 0)), (1, .ref (ad 18 x1)), (2, .ref (ad 11 x2)), (3, .ref (ad 11 x3)), (4, .ref (ad 3 x4)), (5, .int x.2)] → W p l e rm_X7_splitOff s m args below meth c H locs 0 0 Q (F0 m 31 ls [])) x := by
  intro x hx0
  refine lpO_ind2 (P := fun (x : (CSt × Int32)) => ∀ (H : Heap) (locs : List Loc), Wd D A s.heap (GC cy ad x.1) H locs → ∀ ls : Array Slot, lv_has ls 7 [(0, .ref (ad 0 0)), (1, .ref (ad 18 x1)), (2, .ref (ad 11 x2)), (3, .ref (ad 11 x3)), (4, .ref (ad 3 x4)), (5, .int x.2)] → W p l e rm_X7_splitOff s m args below meth c H locs 0 0 Q (F0 m 31 ls [])) (z := z) ?_ n x hx0
  clear hx0 x
  intro x out hm hg H locs hw ls hl 
  obtain ⟨hx, hb, hml, hown, hts, hr, hlo, hK, hA, hX⟩ := id K
  unfold b_X7_splitOff_31 at hm
  refine lv_iload hx hb dX7_splitOff_31 (lv_at hl 5 rfl) ?_
  refine lv_aload hx hb dX7_splitOff_33 (lv_at hl 4 rfl) ?_
  refine g_get (ref := "MigrantHeap$Shape") (C := RX4) (T := TX4) (N := 6) (ci := 4) K in_X7_splitOff_X4 hw 3 rfl hb_x4 rfl rfl 0 (by decide) (List.mem_of_getElem? (i := 4) rfl) rfl rfl dX7_splitOff_35 ?_
  refine lv_icmp_ge (tgt := 84) hx hb dX7_splitOff_38 (by decide) (fun c48 => ?_) (fun c48 => ?_)
  · replace hm := (if_pos c48).symm.trans hm
    obtain rfl := Option.some.inj hm
    exact hE0 _ hg.symm H locs hw ls (lv_sub hl [0, 1, 2, 3] rfl)
  · replace hm := (if_neg c48).symm.trans hm
    refine lv_aload_n hx hb dX7_splitOff_41 rfl (lv_at hl 0 rfl) ?_
    refine g_get (ref := "MigrantHeap") (C := RX7) (T := TX7) (N := 11) (ci := 7) K in_X7_splitOff_X7 hw 0 rfl (by decide : 0 < 1) rfl rfl 8 (by decide) (List.mem_of_getElem? (i := 5) rfl) rfl rfl dX7_splitOff_42 ?_
    refine lv_aload hx hb dX7_splitOff_45 (lv_at hl 4 rfl) ?_
    refine g_get (ref := "MigrantHeap$Shape") (C := RX4) (T := TX4) (N := 6) (ci := 4) K in_X7_splitOff_X4 hw 3 rfl hb_x4 rfl rfl 1 (by decide) (List.mem_of_getElem? (i := 6) rfl) rfl rfl dX7_splitOff_47 ?_
    refine lv_iload hx hb dX7_splitOff_50 (lv_at hl 5 rfl) ?_
    obtain ⟨h49, hm⟩ := chkS hm
    refine g_iald K hw 4 0 rfl hb_x4 rfl rfl h49 dX7_splitOff_52 ?_
    obtain ⟨z51, hc50, hm⟩ := bindS hm
    refine g_calli (GG := GC cy ad) K hw (va_runV (As := [.int (x.1.1 6 x4 x.2.toNatClampNeg)]) (rest := []) (g_fix K) (c_X4_placeOf l D cy ad H.size n x.1 8 (x.1.1 6 x4 x.2.toNatClampNeg) (by decide : 8 < 9) hc50) (cwV 1 (g_hts K) gX7_splitOff_X4_placeOf rfl rfl rfl (by decide +kernel) ⟨Nat.le_of_ble_eq_true rfl, Nat.le_of_ble_eq_true rfl⟩) ⟨g_blind rides_none, g_recv K hw 3 rfl (by decide : 8 < 9) rfl rfl, g_pre (X2 := fun _ _ => True) K hw (fun _ _ _ => trivial)⟩ rfl rfl hl.1 rfl (lv_room (Nat.le_of_ble_eq_true rfl)) dX7_splitOff_53 ⟨Nat.le_of_ble_eq_true rfl, Nat.le_of_ble_eq_true rfl⟩) (fun r u H locs hp hw => ?_)
    obtain ⟨rfl, hu⟩ := hp
    rw [hu] at hw
    refine lv_istore (lv' := [(6, .int z51), (0, .ref (ad 0 0)), (1, .ref (ad 18 x1)), (2, .ref (ad 11 x2)), (3, .ref (ad 11 x3)), (4, .ref (ad 3 x4)), (5, .int x.2)]) hx hb dX7_splitOff_56 hl (by decide) rfl (fun ls hl => ?_)
    refine lv_iload hx hb dX7_splitOff_58 (lv_at hl 0 rfl) ?_
    refine lv_iconst (v := (-1)) hx hb dX7_splitOff_60 (by decide) ?_
    refine lv_icmp_eq (tgt := 78) hx hb dX7_splitOff_61 (by decide) (fun c52 => ?_) (fun c52 => ?_)
    · replace hm := (if_pos c52).symm.trans hm
      obtain ⟨x53, hx53, hm⟩ := nm_ex hm
      refine lv_iinc (v := x53) (lv' := [(5, .int x53), (6, .int z51), (0, .ref (ad 0 0)), (1, .ref (ad 18 x1)), (2, .ref (ad 11 x2)), (3, .ref (ad 11 x3)), (4, .ref (ad 3 x4))]) hx hb dX7_splitOff_78 hl (k := 6) rfl (by rw [hx53]; rfl) (by decide) rfl (fun ls hl => ?_)
      refine lv_goto (tgt := 31) hx hb dX7_splitOff_81 (by decide) ?_
      obtain rfl := Option.some.inj hm
      exact hg H locs hw ls (lv_sub hl [2, 3, 4, 5, 6, 0] rfl)
    · replace hm := (if_neg c52).symm.trans hm
      refine lv_aload_n hx hb dX7_splitOff_64 rfl (lv_at hl 4 rfl) ?_
      refine g_get (ref := "MigrantHeap$Entry") (C := RX0) (T := TX0) (N := 6) (ci := 0) K in_X7_splitOff_X0 hw 11 rfl hb_x3 rfl rfl 4 (by decide) (List.mem_of_getElem? (i := 7) rfl) rfl rfl dX7_splitOff_65 ?_
      refine lv_iload hx hb dX7_splitOff_68 (lv_at hl 6 rfl) ?_
      refine lv_aload_n hx hb dX7_splitOff_70 rfl (lv_at hl 3 rfl) ?_
      refine g_get (ref := "MigrantHeap$Entry") (C := RX0) (T := TX0) (N := 6) (ci := 0) K in_X7_splitOff_X0 hw 11 rfl hb_x2 rfl rfl 4 (by decide) (List.mem_of_getElem? (i := 7) rfl) rfl rfl dX7_splitOff_71 ?_
      refine lv_iload hx hb dX7_splitOff_74 (lv_at hl 0 rfl) ?_
      obtain ⟨h54, hm⟩ := chkS hm
      refine g_iald K hw 12 0 rfl hb_x2 rfl rfl h54 dX7_splitOff_76 ?_
      obtain ⟨h55, hm⟩ := chkS hm
      refine g_iast K hw 12 0 rfl hb_x3 rfl rfl h55 dX7_splitOff_77 (eC_17 cy ad x.1 x3 x.2.toNatClampNeg (x.1.1 17 x2 z51.toNatClampNeg)) (fun H locs hw => ?_)
      obtain ⟨S56, hS56, hm⟩ := nm_ex hm
      rw [← hS56] at hw
      obtain ⟨x57, hx57, hm⟩ := nm_ex hm
      refine lv_iinc (v := x57) (lv' := [(5, .int x57), (6, .int z51), (0, .ref (ad 0 0)), (1, .ref (ad 18 x1)), (2, .ref (ad 11 x2)), (3, .ref (ad 11 x3)), (4, .ref (ad 3 x4))]) hx hb dX7_splitOff_78 hl (k := 6) rfl (by rw [hx57]; rfl) (by decide) rfl (fun ls hl => ?_)
      refine lv_goto (tgt := 31) hx hb dX7_splitOff_81 (by decide) ?_
      obtain rfl := Option.some.inj hm
      exact hg H locs hw ls (lv_sub hl [2, 3, 4, 5, 6, 0] rfl)
set_option maxRecDepth 100000 in
set_option maxHeartbeats 4000000 in
theorem t_X7_splitOff_0 (K : Cx p s m args meth c D A (tysC cy) RX7 cX7_splitOff 7 none wsX7_splitOff EV) (n : Nat) (S : CSt) (x1 : Nat) (x2 : Nat) (hb_x1 : x1 < 6) (hb_x2 : x2 < 24) {out : CSt} (hm : m_X7_splitOff n S x1 x2 = some out) : ∀ (H : Heap) (locs : List Loc), Wd D A s.heap (GC cy ad S) H locs → ∀ ls : Array Slot, lv_has ls 7 [(0, .ref (ad 0 0)), (1, .ref (ad 18 x1)), (2, .ref (ad 11 x2))] → W p l e rm_X7_splitOff s m args below meth c H locs 0 0 (MQ below (va_Qv (fun (u : CSt) => out = u) (fun u => Pst D (tysC cy) A (GC cy ad u)) A) args s 0 0 A) (F0 m 0 ls []) := by
  intro H locs hw ls hl
  obtain ⟨hx, hb, hml, hown, hts, hr, hlo, hK, hA, hX⟩ := id K
  unfold m_X7_splitOff at hm
  refine lv_aload_n hx hb dX7_splitOff_0 rfl (lv_at hl 0 rfl) ?_
  refine lv_aload_n hx hb dX7_splitOff_1 rfl (lv_at hl 1 rfl) ?_
  refine g_get (ref := "MigrantHeap$Step") (C := RX5) (T := TX5) (N := 6) (ci := 5) K in_X7_splitOff_X5 hw 18 rfl hb_x1 rfl rfl 2 (by decide) (List.mem_of_getElem? (i := 1) rfl) rfl rfl dX7_splitOff_2 ?_
  obtain ⟨z59, hc58, hm⟩ := bindS hm
  refine g_callq (GG := GC cy ad) K hw (va_runV (As := [.int (S.1 24 x1 0)]) (rest := []) (g_fix K) (c_X7_newRecord l D cy ad H.size n S (S.1 24 x1 0)  hc58) (cwV 1 (g_hts K) gX7_splitOff_X7_newRecord rfl rfl rfl (by decide +kernel) ⟨Nat.le_of_ble_eq_true rfl, Nat.le_of_ble_eq_true rfl⟩) ⟨g_blind rides_none, g_recv K hw 0 rfl (by decide : 0 < 1) rfl rfl, g_pre (X2 := fun _ _ => True) K hw (fun _ _ _ => trivial)⟩ rfl rfl hl.1 rfl (lv_room (Nat.le_of_ble_eq_true rfl)) dX7_splitOff_5 ⟨Nat.le_of_ble_eq_true rfl, Nat.le_of_ble_eq_true rfl⟩) (fun r u H locs hp hw => ?_)
  obtain ⟨rfl, rfl⟩ := hp
  rcases hq62 : z59.1 with _ | i60
  · rw [hq62] at hm
    replace hm := (optN _ _).symm.trans hm
    refine W.eq (g2 := F0 m 8 ls (.null :: [])) (by first | rfl | (rw [hq62]; rfl)) ?_
    refine lv_astore_nN (lv' := [(3, .null), (0, .ref (ad 0 0)), (1, .ref (ad 18 x1)), (2, .ref (ad 11 x2))]) hx hb dX7_splitOff_8 rfl hl (by decide) rfl (fun ls hl => ?_)
    refine lv_aload_nN hx hb dX7_splitOff_9 rfl (lv_at hl 0 rfl) ?_
    refine lv_ifnonnullN hx hb dX7_splitOff_10 ?_
    exact g_vret (GG := GC cy ad) K hw (Option.some.inj hm).symm dX7_splitOff_13
  · rw [hq62] at hm
    replace hm := (optS _ _ _).symm.trans hm
    obtain ⟨h61, hm⟩ := chkS hm
    replace h61 := of_decide_eq_true h61
    refine W.eq (g2 := F0 m 8 ls (.ref (ad 11 i60) :: [])) (by first | rfl | (rw [hq62]; rfl)) ?_
    refine lv_astore_n (lv' := [(3, .ref (ad 11 i60)), (0, .ref (ad 0 0)), (1, .ref (ad 18 x1)), (2, .ref (ad 11 x2))]) hx hb dX7_splitOff_8 rfl hl (by decide) rfl (fun ls hl => ?_)
    refine lv_aload_n hx hb dX7_splitOff_9 rfl (lv_at hl 0 rfl) ?_
    refine lv_ifnonnull (tgt := 14) hx hb dX7_splitOff_10 (by decide) ?_
    refine lv_aload_n hx hb dX7_splitOff_14 rfl (lv_at hl 1 rfl) ?_
    refine g_get (ref := "MigrantHeap") (C := RX7) (T := TX7) (N := 11) (ci := 7) K in_X7_splitOff_X7 hw 0 rfl (by decide : 0 < 1) rfl rfl 0 (by decide) (List.mem_of_getElem? (i := 2) rfl) rfl rfl dX7_splitOff_15 ?_
    refine lv_aload_n hx hb dX7_splitOff_18 rfl (lv_at hl 2 rfl) ?_
    refine g_get (ref := "MigrantHeap$Step") (C := RX5) (T := TX5) (N := 6) (ci := 5) K in_X7_splitOff_X5 hw 18 rfl hb_x1 rfl rfl 2 (by decide) (List.mem_of_getElem? (i := 1) rfl) rfl rfl dX7_splitOff_19 ?_
    obtain ⟨h63, hm⟩ := chkS hm
    refine g_aald K hw 1 4 rfl (by decide) rfl rfl h63 dX7_splitOff_22 ?_
    refine g_get (ref := "MigrantHeap$Kind") (C := RX2) (T := TX2) (N := 4) (ci := 2) K in_X7_splitOff_X2 hw 2 rfl (inB_lt h63) rfl rfl 2 (by decide) (List.mem_of_getElem? (i := 3) rfl) rfl rfl dX7_splitOff_23 ?_
    refine lv_astore (lv' := [(4, .ref (ad 3 (2 * (z59.2.1 24 x1 0).toNatClampNeg))), (3, .ref (ad 11 i60)), (0, .ref (ad 0 0)), (1, .ref (ad 18 x1)), (2, .ref (ad 11 x2))]) hx hb dX7_splitOff_26 hl (by decide) rfl (fun ls hl => ?_)
    refine lv_iconst (v := 0) hx hb dX7_splitOff_28 (by decide) ?_
    refine lv_istore (lv' := [(5, .int 0), (4, .ref (ad 3 (2 * (z59.2.1 24 x1 0).toNatClampNeg))), (3, .ref (ad 11 i60)), (0, .ref (ad 0 0)), (1, .ref (ad 18 x1)), (2, .ref (ad 11 x2))]) hx hb dX7_splitOff_29 hl (by decide) rfl (fun ls hl => ?_)
    obtain ⟨z64, hz65, hm⟩ := bindS hm
    refine t_X7_splitOff_L31 K n x1 x2 i60 (2 * (z59.2.1 24 x1 0).toNatClampNeg) hb_x1 hb_x2 h61 (by have := (inB_lt h63); omega : (2 * (z59.2.1 24 x1 0).toNatClampNeg) < 9) z64 (fun w66 hww66 => ?_) ((z59.2, 0)) hz65 H locs hw ls (lv_sub hl [3, 4, 5, 2, 1, 0] rfl)
    · intro H locs hw ls hl 
      try rw [hww66] at hm
      refine lv_aload_n hx hb dX7_splitOff_84 rfl (lv_at hl 0 rfl) ?_
      refine g_get (ref := "MigrantHeap") (C := RX7) (T := TX7) (N := 11) (ci := 7) K in_X7_splitOff_X7 hw 0 rfl (by decide : 0 < 1) rfl rfl 8 (by decide) (List.mem_of_getElem? (i := 5) rfl) rfl rfl dX7_splitOff_85 ?_
      refine lv_aload_n hx hb dX7_splitOff_88 rfl (lv_at hl 2 rfl) ?_
      refine g_get (ref := "MigrantHeap$Entry") (C := RX0) (T := TX0) (N := 6) (ci := 0) K in_X7_splitOff_X0 hw 11 rfl hb_x2 rfl rfl 4 (by decide) (List.mem_of_getElem? (i := 7) rfl) rfl rfl dX7_splitOff_89 ?_
      refine lv_aload_n hx hb dX7_splitOff_92 rfl (lv_at hl 1 rfl) ?_
      refine g_get (ref := "MigrantHeap$Step") (C := RX5) (T := TX5) (N := 6) (ci := 5) K in_X7_splitOff_X5 hw 18 rfl hb_x1 rfl rfl 3 (by decide) (List.mem_of_getElem? (i := 8) rfl) rfl rfl dX7_splitOff_93 ?_
      obtain ⟨z68, hc67, hm⟩ := bindS hm
      refine g_calli (GG := GC cy ad) K hw (va_runV (As := [.ref (ad 12 x2), .int (w66.1 25 x1 0)]) (rest := []) (g_fix K) (c_X4_squeeze_a17 l D cy ad H.size n w66 8 x2 (w66.1 25 x1 0) (by decide : 8 < 9) hb_x2 hc67) (cwV 2 (g_hts K) gX7_splitOff_X4_squeeze rfl rfl rfl (by decide +kernel) ⟨Nat.le_of_ble_eq_true rfl, Nat.le_of_ble_eq_true rfl⟩) ⟨g_blind rides_EV, g_recv K hw 3 rfl (by decide : 8 < 9) rfl rfl, g_pre K hw (g_ride rides_EV K hw)⟩ rfl rfl hl.1 rfl (lv_room (Nat.le_of_ble_eq_true rfl)) dX7_splitOff_96 ⟨Nat.le_of_ble_eq_true rfl, Nat.le_of_ble_eq_true rfl⟩) (fun r u H locs hp hw => ?_)
      obtain ⟨rfl, rfl⟩ : r = z68.1 ∧ u = z68.2 := by rw [hp]; exact ⟨rfl, rfl⟩
      refine lv_istore (lv' := [(5, .int z68.1), (0, .ref (ad 0 0)), (1, .ref (ad 18 x1)), (2, .ref (ad 11 x2)), (3, .ref (ad 11 i60))]) hx hb dX7_splitOff_99 hl (by decide) rfl (fun ls hl => ?_)
      refine lv_aload_n hx hb dX7_splitOff_101 rfl (lv_at hl 3 rfl) ?_
      refine lv_iload hx hb dX7_splitOff_102 (lv_at hl 0 rfl) ?_
      refine lv_aload_n hx hb dX7_splitOff_104 rfl (lv_at hl 4 rfl) ?_
      refine g_get (ref := "MigrantHeap$Entry") (C := RX0) (T := TX0) (N := 6) (ci := 0) K in_X7_splitOff_X0 hw 11 rfl h61 rfl rfl 0 (by decide) (List.mem_of_getElem? (i := 9) rfl) rfl rfl dX7_splitOff_105 ?_
      obtain ⟨z70, hc69, hm⟩ := bindS hm
      refine g_callv (GG := GC cy ad) K hw (va_runV (As := [.int z68.1, .int (z68.2.1 13 i60 0)]) (rest := []) (g_fix K) (c_X0_put l D cy ad H.size n z68.2 x2 z68.1 (z68.2.1 13 i60 0) hb_x2 hc69) (cwV 2 (g_hts K) gX7_splitOff_X0_put rfl rfl rfl (by decide +kernel) ⟨Nat.le_of_ble_eq_true rfl, Nat.le_of_ble_eq_true rfl⟩) ⟨g_blind rides_none, g_recv K hw 11 rfl hb_x2 rfl rfl, g_pre (X2 := fun _ _ => True) K hw (fun _ _ _ => trivial)⟩ rfl rfl hl.1 rfl (lv_room (Nat.le_of_ble_eq_true rfl)) dX7_splitOff_108 ⟨Nat.le_of_ble_eq_true rfl, Nat.le_of_ble_eq_true rfl⟩) (fun u H locs hp hw => ?_)
      obtain rfl := hp
      exact g_vret (GG := GC cy ad) K hw (Option.some.inj hm).symm dX7_splitOff_111
set_option maxRecDepth 100000 in
set_option maxHeartbeats 4000000 in
theorem c_X7_splitOff (l : Launch) (D : va_G) (cy : Nat → ClassId) (ad : Nat → Nat → Nat) (sz n : Nat) (S : CSt) (x1 : Nat) (x2 : Nat) (hb_x1 : x1 < 6) (hb_x2 : x2 < 24) {out : CSt} (hm : m_X7_splitOff n S x1 x2 = some out) : Met l yX7_splitOff wsX7_splitOff rm_X7_splitOff (va_Pc [.ref (ad 0 0), .ref (ad 18 x1), .ref (ad 11 x2)] (Pre D (tysC cy) (GC cy ad S) EV sz)) (va_Qv (fun (u : CSt) => out = u) (fun u => Pst D (tysC cy) (AA (adrs (GC cy ad S)) sz) (GC cy ad u)) (AA (adrs (GC cy ad S)) sz)) 0 0 (AA (adrs (GC cy ad S)) sz) := by
  refine g_met (by decide) rfl (Nat.le_of_ble_eq_true rfl) ?_
  intro p e s m args below meth c K hw ls hl
  exact t_X7_splitOff_0 (cy := cy) K n S x1 x2 hb_x1 hb_x2 hm _ _ hw ls hl
end W_X7_splitOff
section W_X3_layField_a18
variable {p : Program} {l : Launch} {e : Env} {s : State} {m : MethodId} {args : Array Value} {below : List Frame} {meth : Method} {c : Code} {D : va_G} {A : Nat → Prop} {cy : Nat → ClassId} {ad : Nat → Nat → Nat} {Q : State → Prop}
abbrev rm_X3_layField_a18 : Room := { frames := 2, cells := 0, slots := 0, locals := 42 }
set_option maxRecDepth 100000 in
set_option maxHeartbeats 4000000 in
theorem t_X3_layField_a18_0 (K : Cx p s m args meth c D A (tysC cy) RX3 cX3_layField 4 (some .boolean) wsX3_layField (fun _ _ => True)) (n : Nat) (S : CSt) (x1 : Nat) (x2 : Int32) (x3 : Nat) (hb_x1 : x1 < 9) (hb_x3 : x3 < 24) {out : Int32 × CSt} (hm : m_X3_layField_a18 n S x1 x2 x3 = some out) : ∀ (H : Heap) (locs : List Loc), Wd D A s.heap (GC cy ad S) H locs → ∀ ls : Array Slot, lv_has ls 4 [(0, .ref (ad 19 0)), (1, .ref (ad 3 x1)), (2, .int x2), (3, .ref (ad 13 x3))] → W p l e rm_X3_layField_a18 s m args below meth c H locs 0 0 (MQ below (va_Qi (fun r (u : CSt) => out = (r, u)) (fun u => Pst D (tysC cy) A (GC cy ad u)) A) args s 0 0 A) (F0 m 0 ls []) := by
  intro H locs hw ls hl
  obtain ⟨hx, hb, hml, hown, hts, hr, hlo, hK, hA, hX⟩ := id K
  unfold m_X3_layField_a18 at hm
  refine lv_aload_n hx hb dX3_layField_0 rfl (lv_at hl 1 rfl) ?_
  refine lv_iload_n hx hb dX3_layField_1 rfl (lv_at hl 2 rfl) ?_
  obtain ⟨z14, hc13, hm⟩ := bindS hm
  refine g_calli (GG := GC cy ad) K hw (va_runV (As := [.int x2]) (rest := []) (g_fix K) (c_X4_isNumber l D cy ad H.size n S x1 x2 hb_x1 hc13) (cwV 1 (g_hts K) gX3_layField_X4_isNumber rfl rfl rfl (by decide +kernel) ⟨Nat.le_of_ble_eq_true rfl, Nat.le_of_ble_eq_true rfl⟩) ⟨g_blind rides_none, g_recv K hw 3 rfl hb_x1 rfl rfl, g_pre (X2 := fun _ _ => True) K hw (fun _ _ _ => trivial)⟩ rfl rfl hl.1 rfl (lv_room (Nat.le_of_ble_eq_true rfl)) dX3_layField_2 ⟨Nat.le_of_ble_eq_true rfl, Nat.le_of_ble_eq_true rfl⟩) (fun r u H locs hp hw => ?_)
  obtain ⟨rfl, hu⟩ := hp
  rw [hu] at hw
  refine lv_if_ne (tgt := 10) hx hb dX3_layField_5 (by decide) (fun c15 => ?_) (fun c15 => ?_)
  · replace hm := (if_pos c15).symm.trans hm
    refine lv_aload_n hx hb dX3_layField_10 rfl (lv_at hl 3 rfl) ?_
    refine lv_ifnonnull (tgt := 33) hx hb dX3_layField_11 (by decide) ?_
    refine lv_aload_n hx hb dX3_layField_33 rfl (lv_at hl 0 rfl) ?_
    refine lv_aload_n hx hb dX3_layField_34 rfl (lv_at hl 3 rfl) ?_
    refine lv_iload_n hx hb dX3_layField_35 rfl (lv_at hl 2 rfl) ?_
    obtain ⟨h16, hm⟩ := chkS hm
    refine g_iald K hw 13 0 rfl hb_x3 rfl rfl h16 dX3_layField_36 ?_
    refine lv_i2l hx hb dX3_layField_37 rfl ?_
    refine lv_aload_n hx hb dX3_layField_38 rfl (lv_at hl 3 rfl) ?_
    refine lv_iload_n hx hb dX3_layField_39 rfl (lv_at hl 2 rfl) ?_
    obtain ⟨h17, hm⟩ := chkS hm
    refine g_iald K hw 13 0 rfl hb_x3 rfl rfl h17 dX3_layField_40 ?_
    refine lv_i2l hx hb dX3_layField_41 rfl ?_
    obtain ⟨z19, hc18, hm⟩ := bindS hm
    refine g_calli (GG := GC cy ad) K hw (va_runV (As := [.long ((S.1 18 x3 x2.toNatClampNeg).toInt64), .long ((S.1 18 x3 x2.toNatClampNeg).toInt64)]) (rest := []) (g_fix K) (c_X3_lay l D cy ad H.size n S ((S.1 18 x3 x2.toNatClampNeg).toInt64) ((S.1 18 x3 x2.toNatClampNeg).toInt64)  hc18) (cwV 2 (g_hts K) gX3_layField_X3_lay rfl rfl rfl (by decide +kernel) ⟨Nat.le_of_ble_eq_true rfl, Nat.le_of_ble_eq_true rfl⟩) ⟨g_blind rides_none, g_recv K hw 19 rfl (by decide : 0 < 1) rfl rfl, g_pre (X2 := fun _ _ => True) K hw (fun _ _ _ => trivial)⟩ rfl rfl hl.1 rfl (lv_room (Nat.le_of_ble_eq_true rfl)) dX3_layField_42 ⟨Nat.le_of_ble_eq_true rfl, Nat.le_of_ble_eq_true rfl⟩) (fun r u H locs hp hw => ?_)
    obtain ⟨rfl, rfl⟩ : r = z19.1 ∧ u = z19.2 := by rw [hp]; exact ⟨rfl, rfl⟩
    obtain ⟨h20, hm⟩ := chkS hm
    exact g_zret (GG := GC cy ad) K hw h20 (Option.some.inj hm).symm dX3_layField_45
  · replace hm := (if_neg (fun h => h c15)).symm.trans hm
    refine lv_iconst (v := 0) hx hb dX3_layField_8 (by decide) ?_
    exact g_zret (GG := GC cy ad) K hw rfl (Option.some.inj hm).symm dX3_layField_9
set_option maxRecDepth 100000 in
set_option maxHeartbeats 4000000 in
theorem c_X3_layField_a18 (l : Launch) (D : va_G) (cy : Nat → ClassId) (ad : Nat → Nat → Nat) (sz n : Nat) (S : CSt) (x1 : Nat) (x2 : Int32) (x3 : Nat) (hb_x1 : x1 < 9) (hb_x3 : x3 < 24) {out : Int32 × CSt} (hm : m_X3_layField_a18 n S x1 x2 x3 = some out) : Met l yX3_layField wsX3_layField rm_X3_layField_a18 (va_Pc [.ref (ad 19 0), .ref (ad 3 x1), .int x2, .ref (ad 13 x3)] (Pre D (tysC cy) (GC cy ad S) (fun _ _ => True) sz)) (va_Qi (fun r (u : CSt) => out = (r, u)) (fun u => Pst D (tysC cy) (AA (adrs (GC cy ad S)) sz) (GC cy ad u)) (AA (adrs (GC cy ad S)) sz)) 0 0 (AA (adrs (GC cy ad S)) sz) := by
  refine g_met (by decide) rfl (Nat.le_of_ble_eq_true rfl) ?_
  intro p e s m args below meth c K hw ls hl
  exact t_X3_layField_a18_0 (cy := cy) K n S x1 x2 x3 hb_x1 hb_x3 hm _ _ hw ls hl
end W_X3_layField_a18
section W_X3_obey_a18
variable {p : Program} {l : Launch} {e : Env} {s : State} {m : MethodId} {args : Array Value} {below : List Frame} {meth : Method} {c : Code} {D : va_G} {A : Nat → Prop} {cy : Nat → ClassId} {ad : Nat → Nat → Nat} {Q : State → Prop}
abbrev rm_X3_obey_a18 : Room := { frames := 3, cells := 0, slots := 0, locals := 82 }
set_option maxRecDepth 100000 in
set_option maxHeartbeats 4000000 in
theorem t_X3_obey_a18_0 (K : Cx p s m args meth c D A (tysC cy) RX3 cX3_obey 4 (some .boolean) wsX3_obey (fun _ _ => True)) (n : Nat) (S : CSt) (x1 : Int32) (x2 : Nat) (x3 : Nat) (hb_x2 : x2 < 9) (hb_x3 : x3 < 24) {out : Int32 × CSt} (hm : m_X3_obey_a18 n S x1 x2 x3 = some out) : ∀ (H : Heap) (locs : List Loc), Wd D A s.heap (GC cy ad S) H locs → ∀ ls : Array Slot, lv_has ls 4 [(0, .ref (ad 19 0)), (1, .int x1), (2, .ref (ad 3 x2)), (3, .ref (ad 13 x3))] → W p l e rm_X3_obey_a18 s m args below meth c H locs 0 0 (MQ below (va_Qi (fun r (u : CSt) => out = (r, u)) (fun u => Pst D (tysC cy) A (GC cy ad u)) A) args s 0 0 A) (F0 m 0 ls []) := by
  intro H locs hw ls hl
  obtain ⟨hx, hb, hml, hown, hts, hr, hlo, hK, hA, hX⟩ := id K
  unfold m_X3_obey_a18 at hm
  refine lv_iload_n hx hb dX3_obey_0 rfl (lv_at hl 1 rfl) ?_
  refine lv_bipush (v := 10) hx hb dX3_obey_1 (by decide) ?_
  refine lv_icmp_ge (tgt := 18) hx hb dX3_obey_3 (by decide) (fun c21 => ?_) (fun c21 => ?_)
  · replace hm := (if_pos c21).symm.trans hm
    refine lv_iload_n hx hb dX3_obey_18 rfl (lv_at hl 1 rfl) ?_
    refine lv_bipush (v := 100) hx hb dX3_obey_19 (by decide) ?_
    refine lv_icmp_lt (tgt := 41) hx hb dX3_obey_21 (by decide) (fun c22 => ?_) (fun c22 => ?_)
    · replace hm := (if_pos c22).symm.trans hm
      refine lv_iload_n hx hb dX3_obey_41 rfl (lv_at hl 1 rfl) ?_
      refine lv_bipush (v := 16) hx hb dX3_obey_42 (by decide) ?_
      refine lv_icmp_ne (tgt := 54) hx hb dX3_obey_44 (by decide) (fun c23 => ?_) (fun c23 => ?_)
      · replace hm := (if_pos c23).symm.trans hm
        refine lv_aload_n hx hb dX3_obey_54 rfl (lv_at hl 0 rfl) ?_
        refine lv_iload_n hx hb dX3_obey_55 rfl (lv_at hl 1 rfl) ?_
        obtain ⟨z25, hc24, hm⟩ := bindS hm
        refine g_calli (GG := GC cy ad) K hw (va_runV (As := [.int x1]) (rest := []) (g_fix K) (c_X3_combine l D cy ad H.size n S x1  hc24) (cwV 1 (g_hts K) gX3_obey_X3_combine rfl rfl rfl (by decide +kernel) ⟨Nat.le_of_ble_eq_true rfl, Nat.le_of_ble_eq_true rfl⟩) ⟨g_blind rides_none, g_recv K hw 19 rfl (by decide : 0 < 1) rfl rfl, g_pre (X2 := fun _ _ => True) K hw (fun _ _ _ => trivial)⟩ rfl rfl hl.1 rfl (lv_room (Nat.le_of_ble_eq_true rfl)) dX3_obey_56 ⟨Nat.le_of_ble_eq_true rfl, Nat.le_of_ble_eq_true rfl⟩) (fun r u H locs hp hw => ?_)
        obtain ⟨rfl, rfl⟩ : r = z25.1 ∧ u = z25.2 := by rw [hp]; exact ⟨rfl, rfl⟩
        obtain ⟨h26, hm⟩ := chkS hm
        exact g_zret (GG := GC cy ad) K hw h26 (Option.some.inj hm).symm dX3_obey_59
      · replace hm := (if_neg (fun h => h c23)).symm.trans hm
        refine lv_aload_n hx hb dX3_obey_47 rfl (lv_at hl 0 rfl) ?_
        obtain ⟨z28, hc27, hm⟩ := bindS hm
        refine g_calli (GG := GC cy ad) K hw (va_runV (As := []) (rest := []) (g_fix K) (c_X3_negate l D cy ad H.size n S   hc27) (cwV 0 (g_hts K) gX3_obey_X3_negate rfl rfl rfl (by decide +kernel) ⟨Nat.le_of_ble_eq_true rfl, Nat.le_of_ble_eq_true rfl⟩) ⟨g_blind rides_none, g_recv K hw 19 rfl (by decide : 0 < 1) rfl rfl, g_pre (X2 := fun _ _ => True) K hw (fun _ _ _ => trivial)⟩ rfl rfl hl.1 rfl (lv_room (Nat.le_of_ble_eq_true rfl)) dX3_obey_48 ⟨Nat.le_of_ble_eq_true rfl, Nat.le_of_ble_eq_true rfl⟩) (fun r u H locs hp hw => ?_)
        obtain ⟨rfl, rfl⟩ : r = z28.1 ∧ u = z28.2 := by rw [hp]; exact ⟨rfl, rfl⟩
        refine lv_goto (tgt := 59) hx hb dX3_obey_51 (by decide) ?_
        obtain ⟨h29, hm⟩ := chkS hm
        exact g_zret (GG := GC cy ad) K hw h29 (Option.some.inj hm).symm dX3_obey_59
    · replace hm := (if_neg c22).symm.trans hm
      refine lv_aload_n hx hb dX3_obey_24 rfl (lv_at hl 0 rfl) ?_
      refine lv_iload_n hx hb dX3_obey_25 rfl (lv_at hl 1 rfl) ?_
      refine lv_sipush (v := 200) hx hb dX3_obey_26 (by decide) ?_
      refine lv_isub hx hb dX3_obey_29 ?_
      refine lv_i2l hx hb dX3_obey_30 rfl ?_
      refine lv_iload_n hx hb dX3_obey_31 rfl (lv_at hl 1 rfl) ?_
      refine lv_sipush (v := 200) hx hb dX3_obey_32 (by decide) ?_
      refine lv_isub hx hb dX3_obey_35 ?_
      refine lv_i2l hx hb dX3_obey_36 rfl ?_
      obtain ⟨z31, hc30, hm⟩ := bindS hm
      refine g_calli (GG := GC cy ad) K hw (va_runV (As := [.long ((x1 - 200).toInt64), .long ((x1 - 200).toInt64)]) (rest := []) (g_fix K) (c_X3_lay l D cy ad H.size n S ((x1 - 200).toInt64) ((x1 - 200).toInt64)  hc30) (cwV 2 (g_hts K) gX3_obey_X3_lay rfl rfl rfl (by decide +kernel) ⟨Nat.le_of_ble_eq_true rfl, Nat.le_of_ble_eq_true rfl⟩) ⟨g_blind rides_none, g_recv K hw 19 rfl (by decide : 0 < 1) rfl rfl, g_pre (X2 := fun _ _ => True) K hw (fun _ _ _ => trivial)⟩ rfl rfl hl.1 rfl (lv_room (Nat.le_of_ble_eq_true rfl)) dX3_obey_37 ⟨Nat.le_of_ble_eq_true rfl, Nat.le_of_ble_eq_true rfl⟩) (fun r u H locs hp hw => ?_)
      obtain ⟨rfl, rfl⟩ : r = z31.1 ∧ u = z31.2 := by rw [hp]; exact ⟨rfl, rfl⟩
      obtain ⟨h32, hm⟩ := chkS hm
      exact g_zret (GG := GC cy ad) K hw h32 (Option.some.inj hm).symm dX3_obey_40
  · replace hm := (if_neg c21).symm.trans hm
    refine lv_aload_n hx hb dX3_obey_6 rfl (lv_at hl 0 rfl) ?_
    refine lv_aload_n hx hb dX3_obey_7 rfl (lv_at hl 2 rfl) ?_
    refine lv_aload_n hx hb dX3_obey_8 rfl (lv_at hl 2 rfl) ?_
    refine lv_iload_n hx hb dX3_obey_9 rfl (lv_at hl 1 rfl) ?_
    obtain ⟨z34, hc33, hm⟩ := bindS hm
    refine g_calli (GG := GC cy ad) K hw (va_runV (As := [.int x1]) (rest := [.ref (ad 3 x2), .ref (ad 19 0)]) (g_fix K) (c_X4_placeOf l D cy ad H.size n S x2 x1 hb_x2 hc33) (cwV 1 (g_hts K) gX3_obey_X4_placeOf rfl rfl rfl (by decide +kernel) ⟨Nat.le_of_ble_eq_true rfl, Nat.le_of_ble_eq_true rfl⟩) ⟨g_blind rides_none, g_recv K hw 3 rfl hb_x2 rfl rfl, g_pre (X2 := fun _ _ => True) K hw (fun _ _ _ => trivial)⟩ rfl rfl hl.1 rfl (lv_room (Nat.le_of_ble_eq_true rfl)) dX3_obey_10 ⟨Nat.le_of_ble_eq_true rfl, Nat.le_of_ble_eq_true rfl⟩) (fun r u H locs hp hw => ?_)
    obtain ⟨rfl, hu⟩ := hp
    rw [hu] at hw
    refine lv_aload_n hx hb dX3_obey_13 rfl (lv_at hl 3 rfl) ?_
    obtain ⟨z36, hc35, hm⟩ := bindS hm
    refine g_calli (GG := GC cy ad) K hw (va_runV (As := [.ref (ad 3 x2), .int z34, .ref (ad 13 x3)]) (rest := []) (g_fix K) (c_X3_layField_a18 l D cy ad H.size n S x2 z34 x3 hb_x2 hb_x3 hc35) (cwV 3 (g_hts K) gX3_obey_X3_layField rfl rfl rfl (by decide +kernel) ⟨Nat.le_of_ble_eq_true rfl, Nat.le_of_ble_eq_true rfl⟩) ⟨g_blind rides_none, g_recv K hw 19 rfl (by decide : 0 < 1) rfl rfl, g_pre (X2 := fun _ _ => True) K hw (fun _ _ _ => trivial)⟩ rfl rfl hl.1 rfl (lv_room (Nat.le_of_ble_eq_true rfl)) dX3_obey_14 ⟨Nat.le_of_ble_eq_true rfl, Nat.le_of_ble_eq_true rfl⟩) (fun r u H locs hp hw => ?_)
    obtain ⟨rfl, rfl⟩ : r = z36.1 ∧ u = z36.2 := by rw [hp]; exact ⟨rfl, rfl⟩
    obtain ⟨h37, hm⟩ := chkS hm
    exact g_zret (GG := GC cy ad) K hw h37 (Option.some.inj hm).symm dX3_obey_17
set_option maxRecDepth 100000 in
set_option maxHeartbeats 4000000 in
theorem c_X3_obey_a18 (l : Launch) (D : va_G) (cy : Nat → ClassId) (ad : Nat → Nat → Nat) (sz n : Nat) (S : CSt) (x1 : Int32) (x2 : Nat) (x3 : Nat) (hb_x2 : x2 < 9) (hb_x3 : x3 < 24) {out : Int32 × CSt} (hm : m_X3_obey_a18 n S x1 x2 x3 = some out) : Met l yX3_obey wsX3_obey rm_X3_obey_a18 (va_Pc [.ref (ad 19 0), .int x1, .ref (ad 3 x2), .ref (ad 13 x3)] (Pre D (tysC cy) (GC cy ad S) (fun _ _ => True) sz)) (va_Qi (fun r (u : CSt) => out = (r, u)) (fun u => Pst D (tysC cy) (AA (adrs (GC cy ad S)) sz) (GC cy ad u)) (AA (adrs (GC cy ad S)) sz)) 0 0 (AA (adrs (GC cy ad S)) sz) := by
  refine g_met (by decide) rfl (Nat.le_of_ble_eq_true rfl) ?_
  intro p e s m args below meth c K hw ls hl
  exact t_X3_obey_a18_0 (cy := cy) K n S x1 x2 x3 hb_x2 hb_x3 hm _ _ hw ls hl
end W_X3_obey_a18
section W_X3_reckon_a18
variable {p : Program} {l : Launch} {e : Env} {s : State} {m : MethodId} {args : Array Value} {below : List Frame} {meth : Method} {c : Code} {D : va_G} {A : Nat → Prop} {cy : Nat → ClassId} {ad : Nat → Nat → Nat} {Q : State → Prop}
abbrev rm_X3_reckon_a18 : Room := { frames := 4, cells := 0, slots := 0, locals := 105 }
set_option maxRecDepth 100000 in
set_option maxHeartbeats 4000000 in
theorem t_X3_reckon_a18_L8 (K : Cx p s m args meth c D A (tysC cy) RX3 cX3_reckon 5 (some .boolean) wsX3_reckon (fun _ _ => True)) (n : Nat) (x1 : Nat) (x2 : Nat) (x3 : Nat) (hb_x1 : x1 < 7) (hb_x2 : x2 < 9) (hb_x3 : x3 < 24) (z : (CSt ⊕ CSt)) (hE0 : ∀ w : CSt, z = .inl w → ∀ (H : Heap) (locs : List Loc), Wd D A s.heap (GC cy ad w) H locs → ∀ ls : Array Slot, lv_has ls 5 [] → W p l e rm_X3_reckon_a18 s m args below meth c H locs 0 0 Q (F0 m 33 ls [])) (hE1 : ∀ w : CSt, z = .inr w → ∀ (H : Heap) (locs : List Loc), Wd D A s.heap (GC cy ad w) H locs → ∀ ls : Array Slot, lv_has ls 5 [(0, .ref (ad 19 0))] → W p l e rm_X3_reckon_a18 s m args below meth c H locs 0 0 Q (F0 m 41 ls [])) : ∀ (x : (CSt × Int32)), lpO (b_X3_reckon_a18_8 n x1 x2 x3) n x = some z → (fun (x : (CSt × Int32)) => ∀ (H : Heap) (locs : List Loc), Wd D A s.heap (GC cy ad x.1) H locs → ∀ ls : Array Slot, lv_has ls 5 [(0, .ref (ad 19 0)), (1, .ref (ad 15 x1)), (2, .ref (ad 3 x2)), (3, .ref (ad 13 x3)), (4, .int x.2)] → W p l e rm_X3_reckon_a18 s m args below meth c H locs 0 0 Q (F0 m 8 ls [])) x := by
  intro x hx0
  refine lpO_ind2 (P := fun (x : (CSt × Int32)) => ∀ (H : Heap) (locs : List Loc), Wd D A s.heap (GC cy ad x.1) H locs → ∀ ls : Array Slot, lv_has ls 5 [(0, .ref (ad 19 0)), (1, .ref (ad 15 x1)), (2, .ref (ad 3 x2)), (3, .ref (ad 13 x3)), (4, .int x.2)] → W p l e rm_X3_reckon_a18 s m args below meth c H locs 0 0 Q (F0 m 8 ls [])) (z := z) ?_ n x hx0
  clear hx0 x
  intro x out hm hg H locs hw ls hl 
  obtain ⟨hx, hb, hml, hown, hts, hr, hlo, hK, hA, hX⟩ := id K
  unfold b_X3_reckon_a18_8 at hm
  refine lv_iload hx hb dX3_reckon_8 (lv_at hl 4 rfl) ?_
  refine lv_aload_n hx hb dX3_reckon_10 rfl (lv_at hl 1 rfl) ?_
  refine g_get (ref := "MigrantHeap$Formula") (C := RX1) (T := TX1) (N := 2) (ci := 1) K in_X3_reckon_X1 hw 15 rfl hb_x1 rfl rfl 0 (by decide) (List.mem_of_getElem? (i := 2) rfl) rfl rfl dX3_reckon_11 ?_
  refine lv_icmp_ge (tgt := 41) hx hb dX3_reckon_14 (by decide) (fun c16 => ?_) (fun c16 => ?_)
  · replace hm := (if_pos c16).symm.trans hm
    obtain rfl := Option.some.inj hm
    exact hE1 _ hg.symm H locs hw ls (lv_sub hl [0] rfl)
  · replace hm := (if_neg c16).symm.trans hm
    refine lv_aload_n hx hb dX3_reckon_17 rfl (lv_at hl 0 rfl) ?_
    refine lv_aload_n hx hb dX3_reckon_18 rfl (lv_at hl 1 rfl) ?_
    refine g_get (ref := "MigrantHeap$Formula") (C := RX1) (T := TX1) (N := 2) (ci := 1) K in_X3_reckon_X1 hw 15 rfl hb_x1 rfl rfl 1 (by decide) (List.mem_of_getElem? (i := 3) rfl) rfl rfl dX3_reckon_19 ?_
    refine lv_iload hx hb dX3_reckon_22 (lv_at hl 4 rfl) ?_
    obtain ⟨h17, hm⟩ := chkS hm
    refine g_iald K hw 16 0 rfl hb_x1 rfl rfl h17 dX3_reckon_24 ?_
    refine lv_aload_n hx hb dX3_reckon_25 rfl (lv_at hl 2 rfl) ?_
    refine lv_aload_n hx hb dX3_reckon_26 rfl (lv_at hl 3 rfl) ?_
    obtain ⟨z19, hc18, hm⟩ := bindS hm
    refine g_calli (GG := GC cy ad) K hw (va_runV (As := [.int (x.1.1 21 x1 x.2.toNatClampNeg), .ref (ad 3 x2), .ref (ad 13 x3)]) (rest := []) (g_fix K) (c_X3_obey_a18 l D cy ad H.size n x.1 (x.1.1 21 x1 x.2.toNatClampNeg) x2 x3 hb_x2 hb_x3 hc18) (cwV 3 (g_hts K) gX3_reckon_X3_obey rfl rfl rfl (by decide +kernel) ⟨Nat.le_of_ble_eq_true rfl, Nat.le_of_ble_eq_true rfl⟩) ⟨g_blind rides_none, g_recv K hw 19 rfl (by decide : 0 < 1) rfl rfl, g_pre (X2 := fun _ _ => True) K hw (fun _ _ _ => trivial)⟩ rfl rfl hl.1 rfl (lv_room (Nat.le_of_ble_eq_true rfl)) dX3_reckon_27 ⟨Nat.le_of_ble_eq_true rfl, Nat.le_of_ble_eq_true rfl⟩) (fun r u H locs hp hw => ?_)
    obtain ⟨rfl, rfl⟩ : r = z19.1 ∧ u = z19.2 := by rw [hp]; exact ⟨rfl, rfl⟩
    refine lv_if_ne (tgt := 35) hx hb dX3_reckon_30 (by decide) (fun c20 => ?_) (fun c20 => ?_)
    · replace hm := (if_pos c20).symm.trans hm
      obtain ⟨x21, hx21, hm⟩ := nm_ex hm
      refine lv_iinc (v := x21) (lv' := [(4, .int x21), (0, .ref (ad 19 0)), (1, .ref (ad 15 x1)), (2, .ref (ad 3 x2)), (3, .ref (ad 13 x3))]) hx hb dX3_reckon_35 hl (k := 4) rfl (by rw [hx21]; rfl) (by decide) rfl (fun ls hl => ?_)
      refine lv_goto (tgt := 8) hx hb dX3_reckon_38 (by decide) ?_
      obtain rfl := Option.some.inj hm
      exact hg H locs hw ls (lv_sub hl [1, 2, 3, 4, 0] rfl)
    · replace hm := (if_neg (fun h => h c20)).symm.trans hm
      obtain rfl := Option.some.inj hm
      exact hE0 _ hg.symm H locs hw ls (lv_sub hl [] rfl)
set_option maxRecDepth 100000 in
set_option maxHeartbeats 4000000 in
theorem t_X3_reckon_a18_0 (K : Cx p s m args meth c D A (tysC cy) RX3 cX3_reckon 5 (some .boolean) wsX3_reckon (fun _ _ => True)) (n : Nat) (S : CSt) (x1 : Nat) (x2 : Nat) (x3 : Nat) (hb_x1 : x1 < 7) (hb_x2 : x2 < 9) (hb_x3 : x3 < 24) {out : Int32 × CSt} (hm : m_X3_reckon_a18 n S x1 x2 x3 = some out) : ∀ (H : Heap) (locs : List Loc), Wd D A s.heap (GC cy ad S) H locs → ∀ ls : Array Slot, lv_has ls 5 [(0, .ref (ad 19 0)), (1, .ref (ad 15 x1)), (2, .ref (ad 3 x2)), (3, .ref (ad 13 x3))] → W p l e rm_X3_reckon_a18 s m args below meth c H locs 0 0 (MQ below (va_Qi (fun r (u : CSt) => out = (r, u)) (fun u => Pst D (tysC cy) A (GC cy ad u)) A) args s 0 0 A) (F0 m 0 ls []) := by
  intro H locs hw ls hl
  obtain ⟨hx, hb, hml, hown, hts, hr, hlo, hK, hA, hX⟩ := id K
  unfold m_X3_reckon_a18 at hm
  refine lv_aload_n hx hb dX3_reckon_0 rfl (lv_at hl 0 rfl) ?_
  refine lv_iconst (v := 0) hx hb dX3_reckon_1 (by decide) ?_
  refine g_put (v := .int 0) (ty := .int) (ref := "MigrantHeap$Pile") (C := RX3) (T := TX3) (N := 3) (ci := 3) K in_X3_reckon_X3 tyX3 tyX3_ok nmX3 hw 19 rfl (by decide : 0 < 1) rfl rfl 0 (by decide) (List.mem_of_getElem? (i := 1) rfl) rfl rfl (by decide +kernel) rfl rfl (Nat.le_of_ble_eq_true rfl) dX3_reckon_2 (eC_27 cy ad S 0 0) (fun H locs hw => ?_)
  obtain ⟨S22, hS22, hm⟩ := nm_ex hm
  rw [← hS22] at hw
  refine lv_iconst (v := 0) hx hb dX3_reckon_5 (by decide) ?_
  refine lv_istore (lv' := [(4, .int 0), (0, .ref (ad 19 0)), (1, .ref (ad 15 x1)), (2, .ref (ad 3 x2)), (3, .ref (ad 13 x3))]) hx hb dX3_reckon_6 hl (by decide) rfl (fun ls hl => ?_)
  obtain ⟨z23, hz24, hm⟩ := bindS hm
  refine t_X3_reckon_a18_L8 K n x1 x2 x3 hb_x1 hb_x2 hb_x3 z23 (fun w25 hww25 => ?_) (fun w26 hww26 => ?_) ((S22, 0)) hz24 H locs hw ls (lv_sub hl [1, 2, 3, 4, 0] rfl)
  · intro H locs hw ls hl 
    subst hww25
    replace hm := (sumL _ _ _).symm.trans hm
    refine lv_iconst (v := 0) hx hb dX3_reckon_33 (by decide) ?_
    exact g_zret (GG := GC cy ad) K hw rfl (Option.some.inj hm).symm dX3_reckon_34
  · intro H locs hw ls hl 
    subst hww26
    replace hm := (sumR _ _ _).symm.trans hm
    refine lv_aload_n hx hb dX3_reckon_41 rfl (lv_at hl 0 rfl) ?_
    refine g_get (ref := "MigrantHeap$Pile") (C := RX3) (T := TX3) (N := 3) (ci := 3) K in_X3_reckon_X3 hw 19 rfl (by decide : 0 < 1) rfl rfl 0 (by decide) (List.mem_of_getElem? (i := 1) rfl) rfl rfl dX3_reckon_42 ?_
    refine lv_iconst (v := 1) hx hb dX3_reckon_45 (by decide) ?_
    refine lv_icmp_ne (tgt := 53) hx hb dX3_reckon_46 (by decide) (fun c27 => ?_) (fun c27 => ?_)
    · replace hm := (if_pos c27).symm.trans hm
      refine lv_iconst (v := 0) hx hb dX3_reckon_53 (by decide) ?_
      exact g_zret (GG := GC cy ad) K hw rfl (Option.some.inj hm).symm dX3_reckon_54
    · replace hm := (if_neg (fun h => h c27)).symm.trans hm
      refine lv_iconst (v := 1) hx hb dX3_reckon_49 (by decide) ?_
      refine lv_goto (tgt := 54) hx hb dX3_reckon_50 (by decide) ?_
      exact g_zret (GG := GC cy ad) K hw rfl (Option.some.inj hm).symm dX3_reckon_54
set_option maxRecDepth 100000 in
set_option maxHeartbeats 4000000 in
theorem c_X3_reckon_a18 (l : Launch) (D : va_G) (cy : Nat → ClassId) (ad : Nat → Nat → Nat) (sz n : Nat) (S : CSt) (x1 : Nat) (x2 : Nat) (x3 : Nat) (hb_x1 : x1 < 7) (hb_x2 : x2 < 9) (hb_x3 : x3 < 24) {out : Int32 × CSt} (hm : m_X3_reckon_a18 n S x1 x2 x3 = some out) : Met l yX3_reckon wsX3_reckon rm_X3_reckon_a18 (va_Pc [.ref (ad 19 0), .ref (ad 15 x1), .ref (ad 3 x2), .ref (ad 13 x3)] (Pre D (tysC cy) (GC cy ad S) (fun _ _ => True) sz)) (va_Qi (fun r (u : CSt) => out = (r, u)) (fun u => Pst D (tysC cy) (AA (adrs (GC cy ad S)) sz) (GC cy ad u)) (AA (adrs (GC cy ad S)) sz)) 0 0 (AA (adrs (GC cy ad S)) sz) := by
  refine g_met (by decide) rfl (Nat.le_of_ble_eq_true rfl) ?_
  intro p e s m args below meth c K hw ls hl
  exact t_X3_reckon_a18_0 (cy := cy) K n S x1 x2 x3 hb_x1 hb_x2 hb_x3 hm _ _ hw ls hl
end W_X3_reckon_a18
section W_X7_formulaValue
variable {p : Program} {l : Launch} {e : Env} {s : State} {m : MethodId} {args : Array Value} {below : List Frame} {meth : Method} {c : Code} {D : va_G} {A : Nat → Prop} {cy : Nat → ClassId} {ad : Nat → Nat → Nat} {Q : State → Prop}
abbrev rm_X7_formulaValue : Room := { frames := 5, cells := 0, slots := 0, locals := 129 }
theorem in_X7_formulaValue_X0 : ∀ w ∈ u_ws RX0 TX0 6, w ∈ wsX7_formulaValue := by decide +kernel
theorem in_X7_formulaValue_X2 : ∀ w ∈ u_ws RX2 TX2 4, w ∈ wsX7_formulaValue := by decide +kernel
theorem in_X7_formulaValue_X3 : ∀ w ∈ u_ws RX3 TX3 3, w ∈ wsX7_formulaValue := by decide +kernel
theorem in_X7_formulaValue_X5 : ∀ w ∈ u_ws RX5 TX5 6, w ∈ wsX7_formulaValue := by decide +kernel
theorem in_X7_formulaValue_X7 : ∀ w ∈ u_ws RX7 TX7 11, w ∈ wsX7_formulaValue := by decide +kernel
set_option maxRecDepth 100000 in
set_option maxHeartbeats 4000000 in
theorem t_X7_formulaValue_0 (K : Cx p s m args meth c D A (tysC cy) RX7 cX7_formulaValue 4 (some .int) wsX7_formulaValue (fun _ _ => True)) (n : Nat) (S : CSt) (x1 : Nat) (x2 : Nat) (hb_x1 : x1 < 6) (hb_x2 : x2 < 24) {out : Int32 × CSt} (hm : m_X7_formulaValue n S x1 x2 = some out) : ∀ (H : Heap) (locs : List Loc), Wd D A s.heap (GC cy ad S) H locs → ∀ ls : Array Slot, lv_has ls 4 [(0, .ref (ad 0 0)), (1, .ref (ad 18 x1)), (2, .ref (ad 11 x2))] → W p l e rm_X7_formulaValue s m args below meth c H locs 0 0 (MQ below (va_Qi (fun r (u : CSt) => out = (r, u)) (fun u => Pst D (tysC cy) A (GC cy ad u)) A) args s 0 0 A) (F0 m 0 ls []) := by
  intro H locs hw ls hl
  obtain ⟨hx, hb, hml, hown, hts, hr, hlo, hK, hA, hX⟩ := id K
  unfold m_X7_formulaValue at hm
  refine lv_aload_n hx hb dX7_formulaValue_0 rfl (lv_at hl 0 rfl) ?_
  refine g_get (ref := "MigrantHeap") (C := RX7) (T := TX7) (N := 11) (ci := 7) K in_X7_formulaValue_X7 hw 0 rfl (by decide : 0 < 1) rfl rfl 9 (by decide) (List.mem_of_getElem? (i := 1) rfl) rfl rfl dX7_formulaValue_1 ?_
  refine lv_aload_n hx hb dX7_formulaValue_4 rfl (lv_at hl 1 rfl) ?_
  refine g_get (ref := "MigrantHeap$Step") (C := RX5) (T := TX5) (N := 6) (ci := 5) K in_X7_formulaValue_X5 hw 18 rfl hb_x1 rfl rfl 5 (by decide) (List.mem_of_getElem? (i := 2) rfl) rfl rfl dX7_formulaValue_5 ?_
  refine lv_aload_n hx hb dX7_formulaValue_8 rfl (lv_at hl 0 rfl) ?_
  refine g_get (ref := "MigrantHeap") (C := RX7) (T := TX7) (N := 11) (ci := 7) K in_X7_formulaValue_X7 hw 0 rfl (by decide : 0 < 1) rfl rfl 0 (by decide) (List.mem_of_getElem? (i := 3) rfl) rfl rfl dX7_formulaValue_9 ?_
  refine lv_aload_n hx hb dX7_formulaValue_12 rfl (lv_at hl 2 rfl) ?_
  refine g_get (ref := "MigrantHeap$Entry") (C := RX0) (T := TX0) (N := 6) (ci := 0) K in_X7_formulaValue_X0 hw 11 rfl hb_x2 rfl rfl 1 (by decide) (List.mem_of_getElem? (i := 4) rfl) rfl rfl dX7_formulaValue_13 ?_
  obtain ⟨h9, hm⟩ := chkS hm
  refine g_aald K hw 1 4 rfl (by decide) rfl rfl h9 dX7_formulaValue_16 ?_
  refine g_get (ref := "MigrantHeap$Kind") (C := RX2) (T := TX2) (N := 4) (ci := 2) K in_X7_formulaValue_X2 hw 2 rfl (inB_lt h9) rfl rfl 3 (by decide) (List.mem_of_getElem? (i := 5) rfl) rfl rfl dX7_formulaValue_17 ?_
  refine lv_aload_n hx hb dX7_formulaValue_20 rfl (lv_at hl 2 rfl) ?_
  refine g_get (ref := "MigrantHeap$Entry") (C := RX0) (T := TX0) (N := 6) (ci := 0) K in_X7_formulaValue_X0 hw 11 rfl hb_x2 rfl rfl 5 (by decide) (List.mem_of_getElem? (i := 6) rfl) rfl rfl dX7_formulaValue_21 ?_
  obtain ⟨z11, hc10, hm⟩ := bindS hm
  refine g_calli (GG := GC cy ad) K hw (va_runV (As := [.ref (ad 15 x1), .ref (ad 3 (2 * (S.1 14 x2 0).toNatClampNeg + 1)), .ref (ad 13 x2)]) (rest := []) (g_fix K) (c_X3_reckon_a18 l D cy ad H.size n S x1 (2 * (S.1 14 x2 0).toNatClampNeg + 1) x2 (by have := hb_x1; omega : x1 < 7) (by have := (inB_lt h9); omega : (2 * (S.1 14 x2 0).toNatClampNeg + 1) < 9) hb_x2 hc10) (cwV 3 (g_hts K) gX7_formulaValue_X3_reckon rfl rfl rfl (by decide +kernel) ⟨Nat.le_of_ble_eq_true rfl, Nat.le_of_ble_eq_true rfl⟩) ⟨g_blind rides_none, g_recv K hw 19 rfl (by decide : 0 < 1) rfl rfl, g_pre (X2 := fun _ _ => True) K hw (fun _ _ _ => trivial)⟩ rfl rfl hl.1 rfl (lv_room (Nat.le_of_ble_eq_true rfl)) dX7_formulaValue_24 ⟨Nat.le_of_ble_eq_true rfl, Nat.le_of_ble_eq_true rfl⟩) (fun r u H locs hp hw => ?_)
  obtain ⟨rfl, rfl⟩ : r = z11.1 ∧ u = z11.2 := by rw [hp]; exact ⟨rfl, rfl⟩
  refine lv_istore_n (lv' := [(3, .int z11.1), (0, .ref (ad 0 0)), (1, .ref (ad 18 x1)), (2, .ref (ad 11 x2))]) hx hb dX7_formulaValue_27 rfl hl (by decide) rfl (fun ls hl => ?_)
  refine lv_iload_n hx hb dX7_formulaValue_28 rfl (lv_at hl 0 rfl) ?_
  refine lv_if_eq (tgt := 45) hx hb dX7_formulaValue_29 (by decide) (fun c12 => ?_) (fun c12 => ?_)
  · replace hm := (if_pos c12).symm.trans hm
    refine lv_aload_n hx hb dX7_formulaValue_45 rfl (lv_at hl 2 rfl) ?_
    refine g_get (ref := "MigrantHeap$Step") (C := RX5) (T := TX5) (N := 6) (ci := 5) K in_X7_formulaValue_X5 hw 18 rfl hb_x1 rfl rfl 2 (by decide) (List.mem_of_getElem? (i := 8) rfl) rfl rfl dX7_formulaValue_46 ?_
    exact g_iret (GG := GC cy ad) K hw (Option.some.inj hm).symm dX7_formulaValue_49
  · replace hm := (if_neg c12).symm.trans hm
    refine lv_aload_n hx hb dX7_formulaValue_32 rfl (lv_at hl 1 rfl) ?_
    refine g_get (ref := "MigrantHeap") (C := RX7) (T := TX7) (N := 11) (ci := 7) K in_X7_formulaValue_X7 hw 0 rfl (by decide : 0 < 1) rfl rfl 9 (by decide) (List.mem_of_getElem? (i := 1) rfl) rfl rfl dX7_formulaValue_33 ?_
    refine g_get (ref := "MigrantHeap$Pile") (C := RX3) (T := TX3) (N := 3) (ci := 3) K in_X7_formulaValue_X3 hw 19 rfl (by decide : 0 < 1) rfl rfl 1 (by decide) (List.mem_of_getElem? (i := 7) rfl) rfl rfl dX7_formulaValue_36 ?_
    refine lv_iconst (v := 0) hx hb dX7_formulaValue_39 (by decide) ?_
    obtain ⟨h13, hm⟩ := chkS hm
    refine g_lald K hw 20 1 rfl (by decide) rfl rfl h13 dX7_formulaValue_40 ?_
    refine lv_l2i hx hb dX7_formulaValue_41 rfl ?_
    refine lv_goto (tgt := 49) hx hb dX7_formulaValue_42 (by decide) ?_
    exact g_iret (GG := GC cy ad) K hw (Option.some.inj hm).symm dX7_formulaValue_49
set_option maxRecDepth 100000 in
set_option maxHeartbeats 4000000 in
theorem c_X7_formulaValue (l : Launch) (D : va_G) (cy : Nat → ClassId) (ad : Nat → Nat → Nat) (sz n : Nat) (S : CSt) (x1 : Nat) (x2 : Nat) (hb_x1 : x1 < 6) (hb_x2 : x2 < 24) {out : Int32 × CSt} (hm : m_X7_formulaValue n S x1 x2 = some out) : Met l yX7_formulaValue wsX7_formulaValue rm_X7_formulaValue (va_Pc [.ref (ad 0 0), .ref (ad 18 x1), .ref (ad 11 x2)] (Pre D (tysC cy) (GC cy ad S) (fun _ _ => True) sz)) (va_Qi (fun r (u : CSt) => out = (r, u)) (fun u => Pst D (tysC cy) (AA (adrs (GC cy ad S)) sz) (GC cy ad u)) (AA (adrs (GC cy ad S)) sz)) 0 0 (AA (adrs (GC cy ad S)) sz) := by
  refine g_met (by decide) rfl (Nat.le_of_ble_eq_true rfl) ?_
  intro p e s m args below meth c K hw ls hl
  exact t_X7_formulaValue_0 (cy := cy) K n S x1 x2 hb_x1 hb_x2 hm _ _ hw ls hl
end W_X7_formulaValue
section W_X7_move
variable {p : Program} {l : Launch} {e : Env} {s : State} {m : MethodId} {args : Array Value} {below : List Frame} {meth : Method} {c : Code} {D : va_G} {A : Nat → Prop} {cy : Nat → ClassId} {ad : Nat → Nat → Nat} {Q : State → Prop}
abbrev rm_X7_move : Room := { frames := 6, cells := 0, slots := 0, locals := 152 }
theorem in_X7_move_X0 : ∀ w ∈ u_ws RX0 TX0 6, w ∈ wsX7_move := by decide +kernel
theorem in_X7_move_X4 : ∀ w ∈ u_ws RX4 TX4 6, w ∈ wsX7_move := by decide +kernel
theorem in_X7_move_X5 : ∀ w ∈ u_ws RX5 TX5 6, w ∈ wsX7_move := by decide +kernel
theorem in_X7_move_X7 : ∀ w ∈ u_ws RX7 TX7 11, w ∈ wsX7_move := by decide +kernel
set_option maxRecDepth 100000 in
set_option maxHeartbeats 4000000 in
theorem t_X7_move_0 (K : Cx p s m args meth c D A (tysC cy) RX7 cX7_move 4 none wsX7_move EV) (n : Nat) (S : CSt) (x1 : Nat) (x2 : Nat) (hb_x1 : x1 < 6) (hb_x2 : x2 < 24) {out : CSt} (hm : m_X7_move n S x1 x2 = some out) : ∀ (H : Heap) (locs : List Loc), Wd D A s.heap (GC cy ad S) H locs → ∀ ls : Array Slot, lv_has ls 4 [(0, .ref (ad 0 0)), (1, .ref (ad 18 x1)), (2, .ref (ad 11 x2))] → W p l e rm_X7_move s m args below meth c H locs 0 0 (MQ below (va_Qv (fun (u : CSt) => out = u) (fun u => Pst D (tysC cy) A (GC cy ad u)) A) args s 0 0 A) (F0 m 0 ls []) := by
  intro H locs hw ls hl
  obtain ⟨hx, hb, hml, hown, hts, hr, hlo, hK, hA, hX⟩ := id K
  unfold m_X7_move at hm
  refine lv_aload_n hx hb dX7_move_0 rfl (lv_at hl 0 rfl) ?_
  refine g_get (ref := "MigrantHeap") (C := RX7) (T := TX7) (N := 11) (ci := 7) K in_X7_move_X7 hw 0 rfl (by decide : 0 < 1) rfl rfl 8 (by decide) (List.mem_of_getElem? (i := 1) rfl) rfl rfl dX7_move_1 ?_
  refine lv_aload_n hx hb dX7_move_4 rfl (lv_at hl 1 rfl) ?_
  refine g_get (ref := "MigrantHeap$Step") (C := RX5) (T := TX5) (N := 6) (ci := 5) K in_X7_move_X5 hw 18 rfl hb_x1 rfl rfl 1 (by decide) (List.mem_of_getElem? (i := 2) rfl) rfl rfl dX7_move_5 ?_
  obtain ⟨z56, hc55, hm⟩ := bindS hm
  refine g_calli (GG := GC cy ad) K hw (va_runV (As := [.int (S.1 23 x1 0)]) (rest := []) (g_fix K) (c_X4_placeOf l D cy ad H.size n S 8 (S.1 23 x1 0) (by decide : 8 < 9) hc55) (cwV 1 (g_hts K) gX7_move_X4_placeOf rfl rfl rfl (by decide +kernel) ⟨Nat.le_of_ble_eq_true rfl, Nat.le_of_ble_eq_true rfl⟩) ⟨g_blind rides_none, g_recv K hw 3 rfl (by decide : 8 < 9) rfl rfl, g_pre (X2 := fun _ _ => True) K hw (fun _ _ _ => trivial)⟩ rfl rfl hl.1 rfl (lv_room (Nat.le_of_ble_eq_true rfl)) dX7_move_8 ⟨Nat.le_of_ble_eq_true rfl, Nat.le_of_ble_eq_true rfl⟩) (fun r u H locs hp hw => ?_)
  obtain ⟨rfl, hu⟩ := hp
  rw [hu] at hw
  refine lv_istore_n (lv' := [(3, .int z56), (0, .ref (ad 0 0)), (1, .ref (ad 18 x1)), (2, .ref (ad 11 x2))]) hx hb dX7_move_11 rfl hl (by decide) rfl (fun ls hl => ?_)
  refine lv_aload_n hx hb dX7_move_12 rfl (lv_at hl 2 rfl) ?_
  refine g_get (ref := "MigrantHeap$Step") (C := RX5) (T := TX5) (N := 6) (ci := 5) K in_X7_move_X5 hw 18 rfl hb_x1 rfl rfl 0 (by decide) (List.mem_of_getElem? (i := 3) rfl) rfl rfl dX7_move_13 ?_
  by_cases c57 : (S.1 22 x1 0) = 0
  · replace hm := (if_pos c57).symm.trans hm
    refine lv_tableIn (off := 44) (tgt := 60) hx hb dX7_move_16 (by rw [c57]; decide) (by rw [c57]; decide) (by rw [c57]; rfl) (by decide) ?_
    refine lv_aload_n hx hb dX7_move_60 rfl (lv_at hl 1 rfl) ?_
    refine g_get (ref := "MigrantHeap") (C := RX7) (T := TX7) (N := 11) (ci := 7) K in_X7_move_X7 hw 0 rfl (by decide : 0 < 1) rfl rfl 8 (by decide) (List.mem_of_getElem? (i := 1) rfl) rfl rfl dX7_move_61 ?_
    refine lv_aload_n hx hb dX7_move_64 rfl (lv_at hl 3 rfl) ?_
    refine g_get (ref := "MigrantHeap$Entry") (C := RX0) (T := TX0) (N := 6) (ci := 0) K in_X7_move_X0 hw 11 rfl hb_x2 rfl rfl 4 (by decide) (List.mem_of_getElem? (i := 4) rfl) rfl rfl dX7_move_65 ?_
    refine lv_iconst (v := 1) hx hb dX7_move_68 (by decide) ?_
    refine lv_aload_n hx hb dX7_move_69 rfl (lv_at hl 2 rfl) ?_
    refine g_get (ref := "MigrantHeap$Step") (C := RX5) (T := TX5) (N := 6) (ci := 5) K in_X7_move_X5 hw 18 rfl hb_x1 rfl rfl 1 (by decide) (List.mem_of_getElem? (i := 2) rfl) rfl rfl dX7_move_70 ?_
    refine lv_ishl hx hb dX7_move_73 ?_
    obtain ⟨z59, hc58, hm⟩ := bindS hm
    refine g_calli (GG := GC cy ad) K hw (va_runV (As := [.ref (ad 12 x2), .int (1 <<< ((S.1 23 x1 0) &&& 31))]) (rest := []) (g_fix K) (c_X4_squeeze_a17 l D cy ad H.size n S 8 x2 (1 <<< ((S.1 23 x1 0) &&& 31)) (by decide : 8 < 9) hb_x2 hc58) (cwV 2 (g_hts K) gX7_move_X4_squeeze rfl rfl rfl (by decide +kernel) ⟨Nat.le_of_ble_eq_true rfl, Nat.le_of_ble_eq_true rfl⟩) ⟨g_blind rides_EV, g_recv K hw 3 rfl (by decide : 8 < 9) rfl rfl, g_pre K hw (g_ride rides_EV K hw)⟩ rfl rfl hl.1 rfl (lv_room (Nat.le_of_ble_eq_true rfl)) dX7_move_74 ⟨Nat.le_of_ble_eq_true rfl, Nat.le_of_ble_eq_true rfl⟩) (fun r u H locs hp hw => ?_)
    obtain ⟨rfl, rfl⟩ : r = z59.1 ∧ u = z59.2 := by rw [hp]; exact ⟨rfl, rfl⟩
    refine lv_pop hx hb dX7_move_77 rfl ?_
    refine lv_goto (tgt := 188) hx hb dX7_move_78 (by decide) ?_
    exact g_vret (GG := GC cy ad) K hw (Option.some.inj hm).symm dX7_move_188
  · replace hm := (if_neg c57).symm.trans hm
    by_cases c60 : (S.1 22 x1 0) = 1
    · replace hm := (if_pos c60).symm.trans hm
      refine lv_tableIn (off := 172) (tgt := 188) hx hb dX7_move_16 (by rw [c60]; decide) (by rw [c60]; decide) (by rw [c60]; rfl) (by decide) ?_
      exact g_vret (GG := GC cy ad) K hw (Option.some.inj hm).symm dX7_move_188
    · replace hm := (if_neg c60).symm.trans hm
      by_cases c61 : (S.1 22 x1 0) = 2
      · replace hm := (if_pos c61).symm.trans hm
        refine lv_tableIn (off := 65) (tgt := 81) hx hb dX7_move_16 (by rw [c61]; decide) (by rw [c61]; decide) (by rw [c61]; rfl) (by decide) ?_
        refine lv_aload_n hx hb dX7_move_81 rfl (lv_at hl 3 rfl) ?_
        refine lv_aload_n hx hb dX7_move_82 rfl (lv_at hl 1 rfl) ?_
        refine g_get (ref := "MigrantHeap") (C := RX7) (T := TX7) (N := 11) (ci := 7) K in_X7_move_X7 hw 0 rfl (by decide : 0 < 1) rfl rfl 8 (by decide) (List.mem_of_getElem? (i := 1) rfl) rfl rfl dX7_move_83 ?_
        refine g_get (ref := "MigrantHeap$Shape") (C := RX4) (T := TX4) (N := 6) (ci := 4) K in_X7_move_X4 hw 3 rfl (by decide : 8 < 9) rfl rfl 0 (by decide) (List.mem_of_getElem? (i := 5) rfl) rfl rfl dX7_move_86 ?_
        refine lv_aload_n hx hb dX7_move_89 rfl (lv_at hl 1 rfl) ?_
        refine lv_aload_n hx hb dX7_move_90 rfl (lv_at hl 2 rfl) ?_
        refine lv_aload_n hx hb dX7_move_91 rfl (lv_at hl 3 rfl) ?_
        obtain ⟨z63, hc62, hm⟩ := bindS hm
        refine g_calli (GG := GC cy ad) K hw (va_runV (As := [.ref (ad 18 x1), .ref (ad 11 x2)]) (rest := [.int (S.1 5 8 0), .ref (ad 11 x2)]) (g_fix K) (c_X7_formulaValue l D cy ad H.size n S x1 x2 hb_x1 hb_x2 hc62) (cwV 2 (g_hts K) gX7_move_X7_formulaValue rfl rfl rfl (by decide +kernel) ⟨Nat.le_of_ble_eq_true rfl, Nat.le_of_ble_eq_true rfl⟩) ⟨g_blind rides_none, g_recv K hw 0 rfl (by decide : 0 < 1) rfl rfl, g_pre (X2 := fun _ _ => True) K hw (fun _ _ _ => trivial)⟩ rfl rfl hl.1 rfl (lv_room (Nat.le_of_ble_eq_true rfl)) dX7_move_92 ⟨Nat.le_of_ble_eq_true rfl, Nat.le_of_ble_eq_true rfl⟩) (fun r u H locs hp hw => ?_)
        obtain ⟨rfl, rfl⟩ : r = z63.1 ∧ u = z63.2 := by rw [hp]; exact ⟨rfl, rfl⟩
        obtain ⟨z65, hc64, hm⟩ := bindS hm
        refine g_callv (GG := GC cy ad) K hw (va_runV (As := [.int (S.1 5 8 0), .int z63.1]) (rest := []) (g_fix K) (c_X0_put l D cy ad H.size n z63.2 x2 (S.1 5 8 0) z63.1 hb_x2 hc64) (cwV 2 (g_hts K) gX7_move_X0_put rfl rfl rfl (by decide +kernel) ⟨Nat.le_of_ble_eq_true rfl, Nat.le_of_ble_eq_true rfl⟩) ⟨g_blind rides_none, g_recv K hw 11 rfl hb_x2 rfl rfl, g_pre (X2 := fun _ _ => True) K hw (fun _ _ _ => trivial)⟩ rfl rfl hl.1 rfl (lv_room (Nat.le_of_ble_eq_true rfl)) dX7_move_95 ⟨Nat.le_of_ble_eq_true rfl, Nat.le_of_ble_eq_true rfl⟩) (fun u H locs hp hw => ?_)
        obtain rfl := hp
        refine lv_goto (tgt := 188) hx hb dX7_move_98 (by decide) ?_
        exact g_vret (GG := GC cy ad) K hw (Option.some.inj hm).symm dX7_move_188
      · replace hm := (if_neg c61).symm.trans hm
        by_cases c66 : (S.1 22 x1 0) = 3
        · replace hm := (if_pos c66).symm.trans hm
          refine lv_tableIn (off := 85) (tgt := 101) hx hb dX7_move_16 (by rw [c66]; decide) (by rw [c66]; decide) (by rw [c66]; rfl) (by decide) ?_
          refine lv_iload_n hx hb dX7_move_101 rfl (lv_at hl 0 rfl) ?_
          refine lv_iconst (v := (-1)) hx hb dX7_move_102 (by decide) ?_
          refine lv_icmp_eq (tgt := 188) hx hb dX7_move_103 (by decide) (fun c67 => ?_) (fun c67 => ?_)
          · replace hm := (if_pos c67).symm.trans hm
            exact g_vret (GG := GC cy ad) K hw (Option.some.inj hm).symm dX7_move_188
          · replace hm := (if_neg c67).symm.trans hm
            refine lv_aload_n hx hb dX7_move_106 rfl (lv_at hl 3 rfl) ?_
            refine lv_iload_n hx hb dX7_move_107 rfl (lv_at hl 0 rfl) ?_
            refine lv_aload_n hx hb dX7_move_108 rfl (lv_at hl 3 rfl) ?_
            refine g_get (ref := "MigrantHeap$Entry") (C := RX0) (T := TX0) (N := 6) (ci := 0) K in_X7_move_X0 hw 11 rfl hb_x2 rfl rfl 4 (by decide) (List.mem_of_getElem? (i := 4) rfl) rfl rfl dX7_move_109 ?_
            refine lv_iload_n hx hb dX7_move_112 rfl (lv_at hl 0 rfl) ?_
            obtain ⟨h68, hm⟩ := chkS hm
            refine g_iald K hw 12 0 rfl hb_x2 rfl rfl h68 dX7_move_113 ?_
            refine lv_aload_n hx hb dX7_move_114 rfl (lv_at hl 2 rfl) ?_
            refine g_get (ref := "MigrantHeap$Step") (C := RX5) (T := TX5) (N := 6) (ci := 5) K in_X7_move_X5 hw 18 rfl hb_x1 rfl rfl 2 (by decide) (List.mem_of_getElem? (i := 6) rfl) rfl rfl dX7_move_115 ?_
            refine lv_aload_n hx hb dX7_move_118 rfl (lv_at hl 2 rfl) ?_
            refine g_get (ref := "MigrantHeap$Step") (C := RX5) (T := TX5) (N := 6) (ci := 5) K in_X7_move_X5 hw 18 rfl hb_x1 rfl rfl 3 (by decide) (List.mem_of_getElem? (i := 7) rfl) rfl rfl dX7_move_119 ?_
            obtain ⟨z70, hc69, hm⟩ := bindS hm
            refine g_calli (GG := GC cy ad) K hw (va_runS (As := [.int (S.1 17 x2 z56.toNatClampNeg), .int (S.1 24 x1 0), .int (S.1 25 x1 0)]) (rest := [.int z56, .ref (ad 11 x2)]) (g_fix K) (c_X7_nearest l D cy ad H.size n S (S.1 17 x2 z56.toNatClampNeg) (S.1 24 x1 0) (S.1 25 x1 0)  hc69) (va_cwS 3 (g_hts K) gX7_move_X7_nearest rfl rfl rfl (by decide +kernel) ⟨Nat.le_of_ble_eq_true rfl, Nat.le_of_ble_eq_true rfl⟩) ⟨g_blind rides_none, g_pre (X2 := fun _ _ => True) K hw (fun _ _ _ => trivial)⟩ rfl rfl hl.1 rfl (lv_room (Nat.le_of_ble_eq_true rfl)) dX7_move_122 ⟨Nat.le_of_ble_eq_true rfl, Nat.le_of_ble_eq_true rfl⟩) (fun r u H locs hp hw => ?_)
            obtain ⟨rfl, hu⟩ := hp
            rw [hu] at hw
            obtain ⟨z72, hc71, hm⟩ := bindS hm
            refine g_callv (GG := GC cy ad) K hw (va_runV (As := [.int z56, .int z70]) (rest := []) (g_fix K) (c_X0_put l D cy ad H.size n S x2 z56 z70 hb_x2 hc71) (cwV 2 (g_hts K) gX7_move_X0_put rfl rfl rfl (by decide +kernel) ⟨Nat.le_of_ble_eq_true rfl, Nat.le_of_ble_eq_true rfl⟩) ⟨g_blind rides_none, g_recv K hw 11 rfl hb_x2 rfl rfl, g_pre (X2 := fun _ _ => True) K hw (fun _ _ _ => trivial)⟩ rfl rfl hl.1 rfl (lv_room (Nat.le_of_ble_eq_true rfl)) dX7_move_125 ⟨Nat.le_of_ble_eq_true rfl, Nat.le_of_ble_eq_true rfl⟩) (fun u H locs hp hw => ?_)
            obtain rfl := hp
            refine lv_goto (tgt := 188) hx hb dX7_move_128 (by decide) ?_
            exact g_vret (GG := GC cy ad) K hw (Option.some.inj hm).symm dX7_move_188
        · replace hm := (if_neg c66).symm.trans hm
          by_cases c73 : (S.1 22 x1 0) = 4
          · replace hm := (if_pos c73).symm.trans hm
            refine lv_tableIn (off := 115) (tgt := 131) hx hb dX7_move_16 (by rw [c73]; decide) (by rw [c73]; decide) (by rw [c73]; rfl) (by decide) ?_
            refine lv_aload_n hx hb dX7_move_131 rfl (lv_at hl 3 rfl) ?_
            refine lv_aload_n hx hb dX7_move_132 rfl (lv_at hl 1 rfl) ?_
            refine g_get (ref := "MigrantHeap") (C := RX7) (T := TX7) (N := 11) (ci := 7) K in_X7_move_X7 hw 0 rfl (by decide : 0 < 1) rfl rfl 8 (by decide) (List.mem_of_getElem? (i := 1) rfl) rfl rfl dX7_move_133 ?_
            refine g_get (ref := "MigrantHeap$Shape") (C := RX4) (T := TX4) (N := 6) (ci := 4) K in_X7_move_X4 hw 3 rfl (by decide : 8 < 9) rfl rfl 0 (by decide) (List.mem_of_getElem? (i := 5) rfl) rfl rfl dX7_move_136 ?_
            refine lv_iconst (v := 0) hx hb dX7_move_139 (by decide) ?_
            obtain ⟨z75, hc74, hm⟩ := bindS hm
            refine g_callv (GG := GC cy ad) K hw (va_runV (As := [.int (S.1 5 8 0), .int 0]) (rest := []) (g_fix K) (c_X0_put l D cy ad H.size n S x2 (S.1 5 8 0) 0 hb_x2 hc74) (cwV 2 (g_hts K) gX7_move_X0_put rfl rfl rfl (by decide +kernel) ⟨Nat.le_of_ble_eq_true rfl, Nat.le_of_ble_eq_true rfl⟩) ⟨g_blind rides_none, g_recv K hw 11 rfl hb_x2 rfl rfl, g_pre (X2 := fun _ _ => True) K hw (fun _ _ _ => trivial)⟩ rfl rfl hl.1 rfl (lv_room (Nat.le_of_ble_eq_true rfl)) dX7_move_140 ⟨Nat.le_of_ble_eq_true rfl, Nat.le_of_ble_eq_true rfl⟩) (fun u H locs hp hw => ?_)
            obtain rfl := hp
            refine lv_goto (tgt := 188) hx hb dX7_move_143 (by decide) ?_
            exact g_vret (GG := GC cy ad) K hw (Option.some.inj hm).symm dX7_move_188
          · replace hm := (if_neg c73).symm.trans hm
            by_cases c76 : (S.1 22 x1 0) = 5
            · replace hm := (if_pos c76).symm.trans hm
              refine lv_tableIn (off := 130) (tgt := 146) hx hb dX7_move_16 (by rw [c76]; decide) (by rw [c76]; decide) (by rw [c76]; rfl) (by decide) ?_
              refine lv_aload_n hx hb dX7_move_146 rfl (lv_at hl 1 rfl) ?_
              refine lv_aload_n hx hb dX7_move_147 rfl (lv_at hl 2 rfl) ?_
              refine lv_aload_n hx hb dX7_move_148 rfl (lv_at hl 3 rfl) ?_
              obtain ⟨z78, hc77, hm⟩ := bindS hm
              refine g_callv (GG := GC cy ad) K hw (va_runV (As := [.ref (ad 18 x1), .ref (ad 11 x2)]) (rest := []) (g_fix K) (c_X7_splitOff l D cy ad H.size n S x1 x2 hb_x1 hb_x2 hc77) (cwV 2 (g_hts K) gX7_move_X7_splitOff rfl rfl rfl (by decide +kernel) ⟨Nat.le_of_ble_eq_true rfl, Nat.le_of_ble_eq_true rfl⟩) ⟨g_blind rides_EV, g_recv K hw 0 rfl (by decide : 0 < 1) rfl rfl, g_pre K hw (g_ride rides_EV K hw)⟩ rfl rfl hl.1 rfl (lv_room (Nat.le_of_ble_eq_true rfl)) dX7_move_149 ⟨Nat.le_of_ble_eq_true rfl, Nat.le_of_ble_eq_true rfl⟩) (fun u H locs hp hw => ?_)
              obtain rfl := hp
              refine lv_goto (tgt := 188) hx hb dX7_move_152 (by decide) ?_
              exact g_vret (GG := GC cy ad) K hw (Option.some.inj hm).symm dX7_move_188
            · replace hm := (if_neg c76).symm.trans hm
              by_cases c79 : (S.1 22 x1 0) = 6
              · replace hm := (if_pos c79).symm.trans hm
                refine lv_tableIn (off := 139) (tgt := 155) hx hb dX7_move_16 (by rw [c79]; decide) (by rw [c79]; decide) (by rw [c79]; rfl) (by decide) ?_
                refine lv_aload_n hx hb dX7_move_155 rfl (lv_at hl 1 rfl) ?_
                refine g_get (ref := "MigrantHeap") (C := RX7) (T := TX7) (N := 11) (ci := 7) K in_X7_move_X7 hw 0 rfl (by decide : 0 < 1) rfl rfl 8 (by decide) (List.mem_of_getElem? (i := 1) rfl) rfl rfl dX7_move_156 ?_
                refine lv_iload_n hx hb dX7_move_159 rfl (lv_at hl 0 rfl) ?_
                obtain ⟨z81, hc80, hm⟩ := bindS hm
                refine g_calli (GG := GC cy ad) K hw (va_runV (As := [.int z56]) (rest := []) (g_fix K) (c_X4_isOwning l D cy ad H.size n S 8 z56 (by decide : 8 < 9) hc80) (cwV 1 (g_hts K) gX7_move_X4_isOwning rfl rfl rfl (by decide +kernel) ⟨Nat.le_of_ble_eq_true rfl, Nat.le_of_ble_eq_true rfl⟩) ⟨g_blind rides_none, g_recv K hw 3 rfl (by decide : 8 < 9) rfl rfl, g_pre (X2 := fun _ _ => True) K hw (fun _ _ _ => trivial)⟩ rfl rfl hl.1 rfl (lv_room (Nat.le_of_ble_eq_true rfl)) dX7_move_160 ⟨Nat.le_of_ble_eq_true rfl, Nat.le_of_ble_eq_true rfl⟩) (fun r u H locs hp hw => ?_)
                obtain ⟨rfl, hu⟩ := hp
                rw [hu] at hw
                refine lv_if_eq (tgt := 188) hx hb dX7_move_163 (by decide) (fun c82 => ?_) (fun c82 => ?_)
                · replace hm := (if_pos c82).symm.trans hm
                  exact g_vret (GG := GC cy ad) K hw (Option.some.inj hm).symm dX7_move_188
                · replace hm := (if_neg c82).symm.trans hm
                  refine lv_aload_n hx hb dX7_move_166 rfl (lv_at hl 1 rfl) ?_
                  refine lv_aload_n hx hb dX7_move_167 rfl (lv_at hl 2 rfl) ?_
                  refine lv_aload_n hx hb dX7_move_168 rfl (lv_at hl 3 rfl) ?_
                  refine lv_aload_n hx hb dX7_move_169 rfl (lv_at hl 1 rfl) ?_
                  refine g_get (ref := "MigrantHeap") (C := RX7) (T := TX7) (N := 11) (ci := 7) K in_X7_move_X7 hw 0 rfl (by decide : 0 < 1) rfl rfl 2 (by decide) (List.mem_of_getElem? (i := 8) rfl) rfl rfl dX7_move_170 ?_
                  refine lv_aload_n hx hb dX7_move_173 rfl (lv_at hl 3 rfl) ?_
                  refine g_get (ref := "MigrantHeap$Entry") (C := RX0) (T := TX0) (N := 6) (ci := 0) K in_X7_move_X0 hw 11 rfl hb_x2 rfl rfl 4 (by decide) (List.mem_of_getElem? (i := 4) rfl) rfl rfl dX7_move_174 ?_
                  refine lv_iload_n hx hb dX7_move_177 rfl (lv_at hl 0 rfl) ?_
                  obtain ⟨h83, hm⟩ := chkS hm
                  refine g_iald K hw 12 0 rfl hb_x2 rfl rfl h83 dX7_move_178 ?_
                  obtain ⟨z85, hc84, hm⟩ := bindS hm
                  refine g_callq (GG := GC cy ad) K hw (va_runV (As := [.int (S.1 17 x2 z56.toNatClampNeg)]) (rest := [.ref (ad 11 x2), .ref (ad 18 x1), .ref (ad 0 0)]) (g_fix K) (c_X6_find l D cy ad H.size n S (S.1 17 x2 z56.toNatClampNeg)  hc84) (cwV 1 (g_hts K) gX7_move_X6_find rfl rfl rfl (by decide +kernel) ⟨Nat.le_of_ble_eq_true rfl, Nat.le_of_ble_eq_true rfl⟩) ⟨g_blind rides_none, g_recv K hw 9 rfl (by decide : 0 < 1) rfl rfl, g_pre (X2 := fun _ _ => True) K hw (fun _ _ _ => trivial)⟩ rfl rfl hl.1 rfl (lv_room (Nat.le_of_ble_eq_true rfl)) dX7_move_179 ⟨Nat.le_of_ble_eq_true rfl, Nat.le_of_ble_eq_true rfl⟩) (fun r u H locs hp hw => ?_)
                  obtain ⟨rfl, hu⟩ := hp
                  rw [hu] at hw
                  rcases hq88 : z85 with _ | i86
                  · rw [hq88] at hm
                    replace hm := (optN _ _).symm.trans hm
                    refine W.eq (g2 := F0 m 182 ls (.null :: .ref (ad 11 x2) :: .ref (ad 18 x1) :: .ref (ad 0 0) :: [])) (by first | rfl | (rw [hq88]; rfl)) ?_
                    obtain ⟨z90, hc89, hm⟩ := bindS hm
                    refine g_callv (GG := GC cy ad) K hw (va_runV (As := [.ref (ad 18 x1), .ref (ad 11 x2), .null]) (rest := []) (g_fix K) (c_X7_joinBack_nul l D cy ad H.size n S x1 x2 hb_x1 hb_x2 hc89) (cwV 3 (g_hts K) gX7_move_X7_joinBack rfl rfl rfl (by decide +kernel) ⟨Nat.le_of_ble_eq_true rfl, Nat.le_of_ble_eq_true rfl⟩) ⟨g_blind rides_none, g_recv K hw 0 rfl (by decide : 0 < 1) rfl rfl, g_pre (X2 := fun _ _ => True) K hw (fun _ _ _ => trivial)⟩ rfl rfl hl.1 rfl (lv_room (Nat.le_of_ble_eq_true rfl)) dX7_move_182 ⟨Nat.le_of_ble_eq_true rfl, Nat.le_of_ble_eq_true rfl⟩) (fun u H locs hp hw => ?_)
                    rw [hp] at hw
                    refine lv_goto (tgt := 188) hx hb dX7_move_185 (by decide) ?_
                    exact g_vret (GG := GC cy ad) K hw (Option.some.inj hm).symm dX7_move_188
                  · rw [hq88] at hm
                    replace hm := (optS _ _ _).symm.trans hm
                    obtain ⟨h87, hm⟩ := chkS hm
                    replace h87 := of_decide_eq_true h87
                    refine W.eq (g2 := F0 m 182 ls (.ref (ad 11 i86) :: .ref (ad 11 x2) :: .ref (ad 18 x1) :: .ref (ad 0 0) :: [])) (by first | rfl | (rw [hq88]; rfl)) ?_
                    obtain ⟨z92, hc91, hm⟩ := bindS hm
                    refine g_callv (GG := GC cy ad) K hw (va_runV (As := [.ref (ad 18 x1), .ref (ad 11 x2), .ref (ad 11 i86)]) (rest := []) (g_fix K) (c_X7_joinBack l D cy ad H.size n S x1 x2 i86 hb_x1 hb_x2 h87 hc91) (cwV 3 (g_hts K) gX7_move_X7_joinBack rfl rfl rfl (by decide +kernel) ⟨Nat.le_of_ble_eq_true rfl, Nat.le_of_ble_eq_true rfl⟩) ⟨g_blind rides_EV, g_recv K hw 0 rfl (by decide : 0 < 1) rfl rfl, g_pre K hw (g_ride rides_EV K hw)⟩ rfl rfl hl.1 rfl (lv_room (Nat.le_of_ble_eq_true rfl)) dX7_move_182 ⟨Nat.le_of_ble_eq_true rfl, Nat.le_of_ble_eq_true rfl⟩) (fun u H locs hp hw => ?_)
                    obtain rfl := hp
                    refine lv_goto (tgt := 188) hx hb dX7_move_185 (by decide) ?_
                    exact g_vret (GG := GC cy ad) K hw (Option.some.inj hm).symm dX7_move_188
              · replace hm := (if_neg c79).symm.trans hm
                have hsw93 : Int32.toInt (S.1 22 x1 0) < 0 ∨ 6 < Int32.toInt (S.1 22 x1 0) := by
                  refine sw_out (fun k h1 h2 => ?_)
                  rcases (show k = 0 ∨ k = 1 ∨ k = 2 ∨ k = 3 ∨ k = 4 ∨ k = 5 ∨ k = 6 by omega) with rfl | rfl | rfl | rfl | rfl | rfl | rfl
                  · exact c57
                  · exact c60
                  · exact c61
                  · exact c66
                  · exact c73
                  · exact c76
                  · exact c79
                refine lv_tableOut (tgt := 188) hx hb dX7_move_16 hsw93 (by decide) ?_
                exact g_vret (GG := GC cy ad) K hw (Option.some.inj hm).symm dX7_move_188
set_option maxRecDepth 100000 in
set_option maxHeartbeats 4000000 in
theorem c_X7_move (l : Launch) (D : va_G) (cy : Nat → ClassId) (ad : Nat → Nat → Nat) (sz n : Nat) (S : CSt) (x1 : Nat) (x2 : Nat) (hb_x1 : x1 < 6) (hb_x2 : x2 < 24) {out : CSt} (hm : m_X7_move n S x1 x2 = some out) : Met l yX7_move wsX7_move rm_X7_move (va_Pc [.ref (ad 0 0), .ref (ad 18 x1), .ref (ad 11 x2)] (Pre D (tysC cy) (GC cy ad S) EV sz)) (va_Qv (fun (u : CSt) => out = u) (fun u => Pst D (tysC cy) (AA (adrs (GC cy ad S)) sz) (GC cy ad u)) (AA (adrs (GC cy ad S)) sz)) 0 0 (AA (adrs (GC cy ad S)) sz) := by
  refine g_met (by decide) rfl (Nat.le_of_ble_eq_true rfl) ?_
  intro p e s m args below meth c K hw ls hl
  exact t_X7_move_0 (cy := cy) K n S x1 x2 hb_x1 hb_x2 hm _ _ hw ls hl
end W_X7_move
