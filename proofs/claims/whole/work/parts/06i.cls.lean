section W_X7_firstRefused
variable {p : Program} {l : Launch} {e : Env} {s : State} {m : MethodId} {args : Array Value} {below : List Frame} {meth : Method} {c : Code} {D : va_G} {A : Nat → Prop} {cy : Nat → ClassId} {ad : Nat → Nat → Nat} {Q : State → Prop}
abbrev rm_X7_firstRefused : Room := { frames := 6, cells := 0, slots := 0, locals := 154 }
theorem in_X7_firstRefused_X2 : ∀ w ∈ u_ws RX2 TX2 4, w ∈ wsX7_firstRefused := by decide +kernel
theorem in_X7_firstRefused_X6 : ∀ w ∈ u_ws RX6 TX6 3, w ∈ wsX7_firstRefused := by decide +kernel
theorem in_X7_firstRefused_X7 : ∀ w ∈ u_ws RX7 TX7 11, w ∈ wsX7_firstRefused := by decide +kernel
set_option maxRecDepth 100000 in
set_option maxHeartbeats 4000000 in
theorem t_X7_firstRefused_L27 (K : Cx p s m args meth c D A (tysC cy) RX7 cX7_firstRefused 6 (some .int) wsX7_firstRefused EV) (n : Nat) (x1 : Int32) (x2 : Int32)  (z : ((CSt × Int32) ⊕ CSt)) (hE0 : ∀ w : (CSt × Int32), z = .inl w → ∀ (H : Heap) (locs : List Loc), Wd D A s.heap (GC cy ad w.1) H locs → ∀ ls : Array Slot, lv_has ls 6 [(4, .int w.2)] → W p l e rm_X7_firstRefused s m args below meth c H locs 0 0 Q (F0 m 60 ls [])) (hE1 : ∀ w : CSt, z = .inr w → ∀ (H : Heap) (locs : List Loc), Wd D A s.heap (GC cy ad w) H locs → ∀ ls : Array Slot, lv_has ls 6 [] → W p l e rm_X7_firstRefused s m args below meth c H locs 0 0 Q (F0 m 85 ls [])) : ∀ (x : (CSt × Int32 × Int32)), lpO (b_X7_firstRefused_27 n x1 x2) n x = some z → (fun (x : (CSt × Int32 × Int32)) => ∀ (H : Heap) (locs : List Loc), Wd D A s.heap (GC cy ad x.1) H locs → ∀ ls : Array Slot, lv_has ls 6 [(0, .ref (ad 0 0)), (1, .int x1), (2, .int x2), (3, .int x.2.1), (4, .int x.2.2)] → W p l e rm_X7_firstRefused s m args below meth c H locs 0 0 Q (F0 m 27 ls [])) x := by
  intro x hx0
  refine lpO_ind2 (P := fun (x : (CSt × Int32 × Int32)) => ∀ (H : Heap) (locs : List Loc), Wd D A s.heap (GC cy ad x.1) H locs → ∀ ls : Array Slot, lv_has ls 6 [(0, .ref (ad 0 0)), (1, .int x1), (2, .int x2), (3, .int x.2.1), (4, .int x.2.2)] → W p l e rm_X7_firstRefused s m args below meth c H locs 0 0 Q (F0 m 27 ls [])) (z := z) ?_ n x hx0
  clear hx0 x
  intro x out hm hg H locs hw ls hl 
  obtain ⟨hx, hb, hml, hown, hts, hr, hlo, hK, hA, hX⟩ := id K
  unfold b_X7_firstRefused_27 at hm
  refine lv_iload hx hb dX7_firstRefused_27 (lv_at hl 4 rfl) ?_
  refine lv_iload_n hx hb dX7_firstRefused_29 rfl (lv_at hl 2 rfl) ?_
  refine lv_icmp_ge (tgt := 85) hx hb dX7_firstRefused_30 (by decide) (fun c40 => ?_) (fun c40 => ?_)
  · replace hm := (if_pos c40).symm.trans hm
    obtain rfl := Option.some.inj hm
    exact hE1 _ hg.symm H locs hw ls (lv_sub hl [] rfl)
  · replace hm := (if_neg c40).symm.trans hm
    refine lv_iload hx hb dX7_firstRefused_33 (lv_at hl 4 rfl) ?_
    refine lv_bipush (v := 6) hx hb dX7_firstRefused_35 (by decide) ?_
    refine lv_icmp_ge (tgt := 85) hx hb dX7_firstRefused_37 (by decide) (fun c41 => ?_) (fun c41 => ?_)
    · replace hm := (if_pos c41).symm.trans hm
      obtain rfl := Option.some.inj hm
      exact hE1 _ hg.symm H locs hw ls (lv_sub hl [] rfl)
    · replace hm := (if_neg c41).symm.trans hm
      refine lv_aload_n hx hb dX7_firstRefused_40 rfl (lv_at hl 0 rfl) ?_
      refine g_get (ref := "MigrantHeap") (C := RX7) (T := TX7) (N := 11) (ci := 7) K in_X7_firstRefused_X7 hw 0 rfl (by decide : 0 < 1) rfl rfl 5 (by decide) (List.mem_of_getElem? (i := 6) rfl) rfl rfl dX7_firstRefused_41 ?_
      refine lv_iload hx hb dX7_firstRefused_44 (lv_at hl 4 rfl) ?_
      obtain ⟨h42, hm⟩ := chkS hm
      refine g_aald K hw 17 5 rfl (by decide) rfl rfl h42 dX7_firstRefused_46 ?_
      refine lv_astore (lv' := [(5, .ref (ad 18 x.2.2.toNatClampNeg)), (0, .ref (ad 0 0)), (1, .int x1), (2, .int x2), (3, .int x.2.1), (4, .int x.2.2)]) hx hb dX7_firstRefused_47 hl (by decide) rfl (fun ls hl => ?_)
      refine lv_aload_n hx hb dX7_firstRefused_49 rfl (lv_at hl 1 rfl) ?_
      refine lv_aload hx hb dX7_firstRefused_50 (lv_at hl 0 rfl) ?_
      refine lv_iload_n hx hb dX7_firstRefused_52 rfl (lv_at hl 2 rfl) ?_
      refine lv_iload_n hx hb dX7_firstRefused_53 rfl (lv_at hl 4 rfl) ?_
      obtain ⟨z44, hc43, hm⟩ := bindS hm
      refine g_calli (GG := GC cy ad) K hw (va_runV (As := [.ref (ad 18 x.2.2.toNatClampNeg), .int x1, .int x.2.1]) (rest := []) (g_fix K) (c_X7_canDo l D cy ad H.size n x.1 x.2.2.toNatClampNeg x1 x.2.1 (inB_lt h42) hc43) (cwV 3 (g_hts K) gX7_firstRefused_X7_canDo rfl rfl rfl (by decide +kernel) ⟨Nat.le_of_ble_eq_true rfl, Nat.le_of_ble_eq_true rfl⟩) ⟨g_blind rides_none, g_recv K hw 0 rfl (by decide : 0 < 1) rfl rfl, g_pre (X2 := fun _ _ => True) K hw (fun _ _ _ => trivial)⟩ rfl rfl hl.1 rfl (lv_room (Nat.le_of_ble_eq_true rfl)) dX7_firstRefused_54 ⟨Nat.le_of_ble_eq_true rfl, Nat.le_of_ble_eq_true rfl⟩) (fun r u H locs hp hw => ?_)
      obtain ⟨rfl, rfl⟩ : r = z44.1 ∧ u = z44.2 := by rw [hp]; exact ⟨rfl, rfl⟩
      refine lv_if_ne (tgt := 63) hx hb dX7_firstRefused_57 (by decide) (fun c45 => ?_) (fun c45 => ?_)
      · replace hm := (if_pos c45).symm.trans hm
        refine lv_iload_n hx hb dX7_firstRefused_63 rfl (lv_at hl 4 rfl) ?_
        refine lv_aload_n hx hb dX7_firstRefused_64 rfl (lv_at hl 1 rfl) ?_
        refine lv_aload hx hb dX7_firstRefused_65 (lv_at hl 0 rfl) ?_
        refine lv_iload_n hx hb dX7_firstRefused_67 rfl (lv_at hl 2 rfl) ?_
        obtain ⟨z47, hc46, hm⟩ := bindS hm
        refine g_calli (GG := GC cy ad) K hw (va_runV (As := [.ref (ad 18 x.2.2.toNatClampNeg), .int x1]) (rest := [.int x.2.1]) (g_fix K) (c_X7_recordsMade l D cy ad H.size n z44.2 x.2.2.toNatClampNeg x1 (inB_lt h42) hc46) (cwV 2 (g_hts K) gX7_firstRefused_X7_recordsMade rfl rfl rfl (by decide +kernel) ⟨Nat.le_of_ble_eq_true rfl, Nat.le_of_ble_eq_true rfl⟩) ⟨g_blind rides_none, g_recv K hw 0 rfl (by decide : 0 < 1) rfl rfl, g_pre (X2 := fun _ _ => True) K hw (fun _ _ _ => trivial)⟩ rfl rfl hl.1 rfl (lv_room (Nat.le_of_ble_eq_true rfl)) dX7_firstRefused_68 ⟨Nat.le_of_ble_eq_true rfl, Nat.le_of_ble_eq_true rfl⟩) (fun r u H locs hp hw => ?_)
        obtain ⟨rfl, hu⟩ := hp
        rw [hu] at hw
        refine lv_iadd hx hb dX7_firstRefused_71 ?_
        obtain ⟨x48, hx48, hm⟩ := nm_ex hm
        refine W.eq (g2 := F0 m 72 ls (.int x48 :: [])) (by rw [hx48]) ?_
        refine lv_istore_n (lv' := [(3, .int x48), (5, .ref (ad 18 x.2.2.toNatClampNeg)), (0, .ref (ad 0 0)), (1, .int x1), (2, .int x2), (4, .int x.2.2)]) hx hb dX7_firstRefused_72 rfl hl (by decide) rfl (fun ls hl => ?_)
        refine lv_aload_n hx hb dX7_firstRefused_73 rfl (lv_at hl 2 rfl) ?_
        refine lv_aload hx hb dX7_firstRefused_74 (lv_at hl 1 rfl) ?_
        obtain ⟨z50, hc49, hm⟩ := bindS hm
        refine g_callv (GG := GC cy ad) K hw (va_runV (As := [.ref (ad 18 x.2.2.toNatClampNeg)]) (rest := []) (g_fix K) (c_X7_reshape l D cy ad H.size n z44.2 x.2.2.toNatClampNeg (inB_lt h42) hc49) (cwV 1 (g_hts K) gX7_firstRefused_X7_reshape rfl rfl rfl (by decide +kernel) ⟨Nat.le_of_ble_eq_true rfl, Nat.le_of_ble_eq_true rfl⟩) ⟨g_blind rides_EV, g_recv K hw 0 rfl (by decide : 0 < 1) rfl rfl, g_pre K hw (g_ride rides_EV K hw)⟩ rfl rfl hl.1 rfl (lv_room (Nat.le_of_ble_eq_true rfl)) dX7_firstRefused_76 ⟨Nat.le_of_ble_eq_true rfl, Nat.le_of_ble_eq_true rfl⟩) (fun u H locs hp hw => ?_)
        obtain rfl := hp
        obtain ⟨x51, hx51, hm⟩ := nm_ex hm
        refine lv_iinc (v := x51) (lv' := [(4, .int x51), (3, .int x48), (5, .ref (ad 18 x.2.2.toNatClampNeg)), (0, .ref (ad 0 0)), (1, .int x1), (2, .int x2)]) hx hb dX7_firstRefused_79 hl (k := 5) rfl (by rw [hx51]; rfl) (by decide) rfl (fun ls hl => ?_)
        refine lv_goto (tgt := 27) hx hb dX7_firstRefused_82 (by decide) ?_
        obtain rfl := Option.some.inj hm
        exact hg H locs hw ls (lv_sub hl [3, 4, 5, 1, 0] rfl)
      · replace hm := (if_neg (fun h => h c45)).symm.trans hm
        obtain rfl := Option.some.inj hm
        exact hE0 _ hg.symm H locs hw ls (lv_sub hl [5] rfl)
set_option maxRecDepth 100000 in
set_option maxHeartbeats 4000000 in
theorem t_X7_firstRefused_0 (K : Cx p s m args meth c D A (tysC cy) RX7 cX7_firstRefused 6 (some .int) wsX7_firstRefused EV) (n : Nat) (S : CSt) (x1 : Int32) (x2 : Int32)  {out : Int32 × CSt} (hm : m_X7_firstRefused n S x1 x2 = some out) : ∀ (H : Heap) (locs : List Loc), Wd D A s.heap (GC cy ad S) H locs → ∀ ls : Array Slot, lv_has ls 6 [(0, .ref (ad 0 0)), (1, .int x1), (2, .int x2)] → W p l e rm_X7_firstRefused s m args below meth c H locs 0 0 (MQ below (va_Qi (fun r (u : CSt) => out = (r, u)) (fun u => Pst D (tysC cy) A (GC cy ad u)) A) args s 0 0 A) (F0 m 0 ls []) := by
  intro H locs hw ls hl
  obtain ⟨hx, hb, hml, hown, hts, hr, hlo, hK, hA, hX⟩ := id K
  unfold m_X7_firstRefused at hm
  refine lv_aload_n hx hb dX7_firstRefused_0 rfl (lv_at hl 0 rfl) ?_
  refine g_get (ref := "MigrantHeap") (C := RX7) (T := TX7) (N := 11) (ci := 7) K in_X7_firstRefused_X7 hw 0 rfl (by decide : 0 < 1) rfl rfl 8 (by decide) (List.mem_of_getElem? (i := 1) rfl) rfl rfl dX7_firstRefused_1 ?_
  refine lv_aload_n hx hb dX7_firstRefused_4 rfl (lv_at hl 0 rfl) ?_
  refine g_get (ref := "MigrantHeap") (C := RX7) (T := TX7) (N := 11) (ci := 7) K in_X7_firstRefused_X7 hw 0 rfl (by decide : 0 < 1) rfl rfl 0 (by decide) (List.mem_of_getElem? (i := 2) rfl) rfl rfl dX7_firstRefused_5 ?_
  refine lv_iload_n hx hb dX7_firstRefused_8 rfl (lv_at hl 1 rfl) ?_
  obtain ⟨h52, hm⟩ := chkS hm
  refine g_aald K hw 1 4 rfl (by decide) rfl rfl h52 dX7_firstRefused_9 ?_
  refine g_get (ref := "MigrantHeap$Kind") (C := RX2) (T := TX2) (N := 4) (ci := 2) K in_X7_firstRefused_X2 hw 2 rfl (inB_lt h52) rfl rfl 2 (by decide) (List.mem_of_getElem? (i := 3) rfl) rfl rfl dX7_firstRefused_10 ?_
  obtain ⟨z54, hc53, hm⟩ := bindS hm
  refine g_callv (GG := GC cy ad) K hw (va_runV (As := [.ref (ad 3 (2 * x1.toNatClampNeg))]) (rest := []) (g_fix K) (c_X4_startFrom l D cy ad H.size n S 8 (2 * x1.toNatClampNeg) (by decide : 8 < 9) (by have := (inB_lt h52); omega : (2 * x1.toNatClampNeg) < 9) hc53) (cwV 1 (g_hts K) gX7_firstRefused_X4_startFrom rfl rfl rfl (by decide +kernel) ⟨Nat.le_of_ble_eq_true rfl, Nat.le_of_ble_eq_true rfl⟩) ⟨g_blind rides_none, g_recv K hw 3 rfl (by decide : 8 < 9) rfl rfl, g_pre (X2 := fun _ _ => True) K hw (fun _ _ _ => trivial)⟩ rfl rfl hl.1 rfl (lv_room (Nat.le_of_ble_eq_true rfl)) dX7_firstRefused_13 ⟨Nat.le_of_ble_eq_true rfl, Nat.le_of_ble_eq_true rfl⟩) (fun u H locs hp hw => ?_)
  obtain rfl := hp
  refine lv_aload_n hx hb dX7_firstRefused_16 rfl (lv_at hl 0 rfl) ?_
  refine g_get (ref := "MigrantHeap") (C := RX7) (T := TX7) (N := 11) (ci := 7) K in_X7_firstRefused_X7 hw 0 rfl (by decide : 0 < 1) rfl rfl 2 (by decide) (List.mem_of_getElem? (i := 4) rfl) rfl rfl dX7_firstRefused_17 ?_
  refine g_get (ref := "MigrantHeap$Store") (C := RX6) (T := TX6) (N := 3) (ci := 6) K in_X7_firstRefused_X6 hw 9 rfl (by decide : 0 < 1) rfl rfl 1 (by decide) (List.mem_of_getElem? (i := 5) rfl) rfl rfl dX7_firstRefused_20 ?_
  obtain ⟨x55, hx55, hm⟩ := nm_ex hm
  refine W.eq (g2 := F0 m 23 ls (.int x55 :: [])) (by rw [hx55]) ?_
  refine lv_istore_n (lv' := [(3, .int x55), (0, .ref (ad 0 0)), (1, .int x1), (2, .int x2)]) hx hb dX7_firstRefused_23 rfl hl (by decide) rfl (fun ls hl => ?_)
  refine lv_iconst (v := 0) hx hb dX7_firstRefused_24 (by decide) ?_
  refine lv_istore (lv' := [(4, .int 0), (3, .int x55), (0, .ref (ad 0 0)), (1, .int x1), (2, .int x2)]) hx hb dX7_firstRefused_25 hl (by decide) rfl (fun ls hl => ?_)
  obtain ⟨z56, hz57, hm⟩ := bindS hm
  refine t_X7_firstRefused_L27 K n x1 x2 z56 (fun w58 hww58 => ?_) (fun w59 hww59 => ?_) ((z54, x55, 0)) hz57 H locs hw ls (lv_sub hl [2, 3, 4, 1, 0] rfl)
  · intro H locs hw ls hl 
    subst hww58
    replace hm := (sumL _ _ _).symm.trans hm
    refine lv_iload hx hb dX7_firstRefused_60 (lv_at hl 0 rfl) ?_
    exact g_iret (GG := GC cy ad) K hw (Option.some.inj hm).symm dX7_firstRefused_62
  · intro H locs hw ls hl 
    subst hww59
    replace hm := (sumR _ _ _).symm.trans hm
    refine lv_iconst (v := (-1)) hx hb dX7_firstRefused_85 (by decide) ?_
    exact g_iret (GG := GC cy ad) K hw (Option.some.inj hm).symm dX7_firstRefused_86
set_option maxRecDepth 100000 in
set_option maxHeartbeats 4000000 in
theorem c_X7_firstRefused (l : Launch) (D : va_G) (cy : Nat → ClassId) (ad : Nat → Nat → Nat) (sz n : Nat) (S : CSt) (x1 : Int32) (x2 : Int32)  {out : Int32 × CSt} (hm : m_X7_firstRefused n S x1 x2 = some out) : Met l yX7_firstRefused wsX7_firstRefused rm_X7_firstRefused (va_Pc [.ref (ad 0 0), .int x1, .int x2] (Pre D (tysC cy) (GC cy ad S) EV sz)) (va_Qi (fun r (u : CSt) => out = (r, u)) (fun u => Pst D (tysC cy) (AA (adrs (GC cy ad S)) sz) (GC cy ad u)) (AA (adrs (GC cy ad S)) sz)) 0 0 (AA (adrs (GC cy ad S)) sz) := by
  refine g_met (by decide) rfl (Nat.le_of_ble_eq_true rfl) ?_
  intro p e s m args below meth c K hw ls hl
  exact t_X7_firstRefused_0 (cy := cy) K n S x1 x2  hm _ _ hw ls hl
end W_X7_firstRefused
section W_X7_barTakeBackOfPart
variable {p : Program} {l : Launch} {e : Env} {s : State} {m : MethodId} {args : Array Value} {below : List Frame} {meth : Method} {c : Code} {D : va_G} {A : Nat → Prop} {cy : Nat → ClassId} {ad : Nat → Nat → Nat} {Q : State → Prop}
abbrev rm_X7_barTakeBackOfPart : Room := { frames := 2, cells := 0, slots := 0, locals := 42 }
theorem in_X7_barTakeBackOfPart_X2 : ∀ w ∈ u_ws RX2 TX2 4, w ∈ wsX7_barTakeBackOfPart := by decide +kernel
theorem in_X7_barTakeBackOfPart_X4 : ∀ w ∈ u_ws RX4 TX4 6, w ∈ wsX7_barTakeBackOfPart := by decide +kernel
theorem in_X7_barTakeBackOfPart_X5 : ∀ w ∈ u_ws RX5 TX5 6, w ∈ wsX7_barTakeBackOfPart := by decide +kernel
theorem in_X7_barTakeBackOfPart_X7 : ∀ w ∈ u_ws RX7 TX7 11, w ∈ wsX7_barTakeBackOfPart := by decide +kernel
set_option maxRecDepth 100000 in
set_option maxHeartbeats 4000000 in
theorem t_X7_barTakeBackOfPart_0 (K : Cx p s m args meth c D A (tysC cy) RX7 cX7_barTakeBackOfPart 3 none wsX7_barTakeBackOfPart (fun _ _ => True)) (n : Nat) (S : CSt) (x1 : Nat) (hb_x1 : x1 < 6) {out : CSt} (hm : m_X7_barTakeBackOfPart n S x1 = some out) : ∀ (H : Heap) (locs : List Loc), Wd D A s.heap (GC cy ad S) H locs → ∀ ls : Array Slot, lv_has ls 3 [(0, .ref (ad 0 0)), (1, .ref (ad 18 x1))] → W p l e rm_X7_barTakeBackOfPart s m args below meth c H locs 0 0 (MQ below (va_Qv (fun (u : CSt) => out = u) (fun u => Pst D (tysC cy) A (GC cy ad u)) A) args s 0 0 A) (F0 m 0 ls []) := by
  intro H locs hw ls hl
  obtain ⟨hx, hb, hml, hown, hts, hr, hlo, hK, hA, hX⟩ := id K
  unfold m_X7_barTakeBackOfPart at hm
  refine lv_aload_n hx hb dX7_barTakeBackOfPart_0 rfl (lv_at hl 1 rfl) ?_
  refine g_get (ref := "MigrantHeap$Step") (C := RX5) (T := TX5) (N := 6) (ci := 5) K in_X7_barTakeBackOfPart_X5 hw 18 rfl hb_x1 rfl rfl 0 (by decide) (List.mem_of_getElem? (i := 1) rfl) rfl rfl dX7_barTakeBackOfPart_1 ?_
  refine lv_iconst (v := 5) hx hb dX7_barTakeBackOfPart_4 (by decide) ?_
  refine lv_icmp_ne (tgt := 22) hx hb dX7_barTakeBackOfPart_5 (by decide) (fun c19 => ?_) (fun c19 => ?_)
  · replace hm := (if_pos c19).symm.trans hm
    refine lv_aload_n hx hb dX7_barTakeBackOfPart_22 rfl (lv_at hl 0 rfl) ?_
    refine g_get (ref := "MigrantHeap") (C := RX7) (T := TX7) (N := 11) (ci := 7) K in_X7_barTakeBackOfPart_X7 hw 0 rfl (by decide : 0 < 1) rfl rfl 8 (by decide) (List.mem_of_getElem? (i := 5) rfl) rfl rfl dX7_barTakeBackOfPart_23 ?_
    refine lv_aload_n hx hb dX7_barTakeBackOfPart_26 rfl (lv_at hl 1 rfl) ?_
    refine g_get (ref := "MigrantHeap$Step") (C := RX5) (T := TX5) (N := 6) (ci := 5) K in_X7_barTakeBackOfPart_X5 hw 18 rfl hb_x1 rfl rfl 1 (by decide) (List.mem_of_getElem? (i := 6) rfl) rfl rfl dX7_barTakeBackOfPart_27 ?_
    obtain ⟨z21, hc20, hm⟩ := bindS hm
    refine g_calli (GG := GC cy ad) K hw (va_runV (As := [.int (S.1 23 x1 0)]) (rest := []) (g_fix K) (c_X4_placeOf l D cy ad H.size n S 8 (S.1 23 x1 0) (by decide : 8 < 9) hc20) (cwV 1 (g_hts K) gX7_barTakeBackOfPart_X4_placeOf rfl rfl rfl (by decide +kernel) ⟨Nat.le_of_ble_eq_true rfl, Nat.le_of_ble_eq_true rfl⟩) ⟨g_blind rides_none, g_recv K hw 3 rfl (by decide : 8 < 9) rfl rfl, g_pre (X2 := fun _ _ => True) K hw (fun _ _ _ => trivial)⟩ rfl rfl hl.1 rfl (lv_room (Nat.le_of_ble_eq_true rfl)) dX7_barTakeBackOfPart_30 ⟨Nat.le_of_ble_eq_true rfl, Nat.le_of_ble_eq_true rfl⟩) (fun r u H locs hp hw => ?_)
    obtain ⟨rfl, hu⟩ := hp
    rw [hu] at hw
    refine lv_istore_n (lv' := [(2, .int z21), (0, .ref (ad 0 0)), (1, .ref (ad 18 x1))]) hx hb dX7_barTakeBackOfPart_33 rfl hl (by decide) rfl (fun ls hl => ?_)
    refine lv_aload_n hx hb dX7_barTakeBackOfPart_34 rfl (lv_at hl 1 rfl) ?_
    refine g_get (ref := "MigrantHeap") (C := RX7) (T := TX7) (N := 11) (ci := 7) K in_X7_barTakeBackOfPart_X7 hw 0 rfl (by decide : 0 < 1) rfl rfl 8 (by decide) (List.mem_of_getElem? (i := 5) rfl) rfl rfl dX7_barTakeBackOfPart_35 ?_
    refine lv_iload_n hx hb dX7_barTakeBackOfPart_38 rfl (lv_at hl 0 rfl) ?_
    obtain ⟨z23, hc22, hm⟩ := bindS hm
    refine g_calli (GG := GC cy ad) K hw (va_runV (As := [.int z21]) (rest := []) (g_fix K) (c_X4_isOwning l D cy ad H.size n S 8 z21 (by decide : 8 < 9) hc22) (cwV 1 (g_hts K) gX7_barTakeBackOfPart_X4_isOwning rfl rfl rfl (by decide +kernel) ⟨Nat.le_of_ble_eq_true rfl, Nat.le_of_ble_eq_true rfl⟩) ⟨g_blind rides_none, g_recv K hw 3 rfl (by decide : 8 < 9) rfl rfl, g_pre (X2 := fun _ _ => True) K hw (fun _ _ _ => trivial)⟩ rfl rfl hl.1 rfl (lv_room (Nat.le_of_ble_eq_true rfl)) dX7_barTakeBackOfPart_39 ⟨Nat.le_of_ble_eq_true rfl, Nat.le_of_ble_eq_true rfl⟩) (fun r u H locs hp hw => ?_)
    obtain ⟨rfl, hu⟩ := hp
    rw [hu] at hw
    refine lv_if_eq (tgt := 63) hx hb dX7_barTakeBackOfPart_42 (by decide) (fun c24 => ?_) (fun c24 => ?_)
    · replace hm := (if_pos c24).symm.trans hm
      exact g_vret (GG := GC cy ad) K hw (Option.some.inj hm).symm dX7_barTakeBackOfPart_63
    · replace hm := (if_neg c24).symm.trans hm
      refine lv_aload_n hx hb dX7_barTakeBackOfPart_45 rfl (lv_at hl 1 rfl) ?_
      refine g_get (ref := "MigrantHeap") (C := RX7) (T := TX7) (N := 11) (ci := 7) K in_X7_barTakeBackOfPart_X7 hw 0 rfl (by decide : 0 < 1) rfl rfl 0 (by decide) (List.mem_of_getElem? (i := 2) rfl) rfl rfl dX7_barTakeBackOfPart_46 ?_
      refine lv_aload_n hx hb dX7_barTakeBackOfPart_49 rfl (lv_at hl 1 rfl) ?_
      refine g_get (ref := "MigrantHeap") (C := RX7) (T := TX7) (N := 11) (ci := 7) K in_X7_barTakeBackOfPart_X7 hw 0 rfl (by decide : 0 < 1) rfl rfl 8 (by decide) (List.mem_of_getElem? (i := 5) rfl) rfl rfl dX7_barTakeBackOfPart_50 ?_
      refine g_get (ref := "MigrantHeap$Shape") (C := RX4) (T := TX4) (N := 6) (ci := 4) K in_X7_barTakeBackOfPart_X4 hw 3 rfl (by decide : 8 < 9) rfl rfl 3 (by decide) (List.mem_of_getElem? (i := 7) rfl) rfl rfl dX7_barTakeBackOfPart_53 ?_
      refine lv_iload_n hx hb dX7_barTakeBackOfPart_56 rfl (lv_at hl 0 rfl) ?_
      obtain ⟨h25, hm⟩ := chkS hm
      refine g_iald K hw 6 0 rfl (by decide : 8 < 9) rfl rfl h25 dX7_barTakeBackOfPart_57 ?_
      obtain ⟨h26, hm⟩ := chkS hm
      refine g_aald K hw 1 4 rfl (by decide) rfl rfl h26 dX7_barTakeBackOfPart_58 ?_
      refine lv_iconst (v := 0) hx hb dX7_barTakeBackOfPart_59 (by decide) ?_
      refine g_put (v := .int 0) (ty := .boolean) (ref := "MigrantHeap$Kind") (C := RX2) (T := TX2) (N := 4) (ci := 2) K in_X7_barTakeBackOfPart_X2 tyX2 tyX2_ok nmX2 hw 2 rfl (inB_lt h26) rfl rfl 1 (by decide) (List.mem_of_getElem? (i := 4) rfl) rfl rfl (by decide +kernel) rfl rfl (Nat.le_of_ble_eq_true rfl) dX7_barTakeBackOfPart_60 (eC_4 cy ad S ((S.1 8 8 z21.toNatClampNeg).toNatClampNeg) 0) (fun H locs hw => ?_)
      obtain ⟨S27, hS27, hm⟩ := nm_ex hm
      rw [← hS27] at hw
      exact g_vret (GG := GC cy ad) K hw (Option.some.inj hm).symm dX7_barTakeBackOfPart_63
  · replace hm := (if_neg (fun h => h c19)).symm.trans hm
    refine lv_aload_n hx hb dX7_barTakeBackOfPart_8 rfl (lv_at hl 0 rfl) ?_
    refine g_get (ref := "MigrantHeap") (C := RX7) (T := TX7) (N := 11) (ci := 7) K in_X7_barTakeBackOfPart_X7 hw 0 rfl (by decide : 0 < 1) rfl rfl 0 (by decide) (List.mem_of_getElem? (i := 2) rfl) rfl rfl dX7_barTakeBackOfPart_9 ?_
    refine lv_aload_n hx hb dX7_barTakeBackOfPart_12 rfl (lv_at hl 1 rfl) ?_
    refine g_get (ref := "MigrantHeap$Step") (C := RX5) (T := TX5) (N := 6) (ci := 5) K in_X7_barTakeBackOfPart_X5 hw 18 rfl hb_x1 rfl rfl 2 (by decide) (List.mem_of_getElem? (i := 3) rfl) rfl rfl dX7_barTakeBackOfPart_13 ?_
    obtain ⟨h28, hm⟩ := chkS hm
    refine g_aald K hw 1 4 rfl (by decide) rfl rfl h28 dX7_barTakeBackOfPart_16 ?_
    refine lv_iconst (v := 0) hx hb dX7_barTakeBackOfPart_17 (by decide) ?_
    refine g_put (v := .int 0) (ty := .boolean) (ref := "MigrantHeap$Kind") (C := RX2) (T := TX2) (N := 4) (ci := 2) K in_X7_barTakeBackOfPart_X2 tyX2 tyX2_ok nmX2 hw 2 rfl (inB_lt h28) rfl rfl 1 (by decide) (List.mem_of_getElem? (i := 4) rfl) rfl rfl (by decide +kernel) rfl rfl (Nat.le_of_ble_eq_true rfl) dX7_barTakeBackOfPart_18 (eC_4 cy ad S ((S.1 24 x1 0).toNatClampNeg) 0) (fun H locs hw => ?_)
    obtain ⟨S29, hS29, hm⟩ := nm_ex hm
    rw [← hS29] at hw
    exact g_vret (GG := GC cy ad) K hw (Option.some.inj hm).symm dX7_barTakeBackOfPart_21
set_option maxRecDepth 100000 in
set_option maxHeartbeats 4000000 in
theorem c_X7_barTakeBackOfPart (l : Launch) (D : va_G) (cy : Nat → ClassId) (ad : Nat → Nat → Nat) (sz n : Nat) (S : CSt) (x1 : Nat) (hb_x1 : x1 < 6) {out : CSt} (hm : m_X7_barTakeBackOfPart n S x1 = some out) : Met l yX7_barTakeBackOfPart wsX7_barTakeBackOfPart rm_X7_barTakeBackOfPart (va_Pc [.ref (ad 0 0), .ref (ad 18 x1)] (Pre D (tysC cy) (GC cy ad S) (fun _ _ => True) sz)) (va_Qv (fun (u : CSt) => out = u) (fun u => Pst D (tysC cy) (AA (adrs (GC cy ad S)) sz) (GC cy ad u)) (AA (adrs (GC cy ad S)) sz)) 0 0 (AA (adrs (GC cy ad S)) sz) := by
  refine g_met (by decide) rfl (Nat.le_of_ble_eq_true rfl) ?_
  intro p e s m args below meth c K hw ls hl
  exact t_X7_barTakeBackOfPart_0 (cy := cy) K n S x1 hb_x1 hm _ _ hw ls hl
end W_X7_barTakeBackOfPart
section W_X4_squeeze_a17
variable {p : Program} {l : Launch} {e : Env} {s : State} {m : MethodId} {args : Array Value} {below : List Frame} {meth : Method} {c : Code} {D : va_G} {A : Nat → Prop} {cy : Nat → ClassId} {ad : Nat → Nat → Nat} {Q : State → Prop}
abbrev rm_X4_squeeze_a17 : Room := { frames := 1, cells := 0, slots := 0, locals := 21 }
set_option maxRecDepth 100000 in
set_option maxHeartbeats 4000000 in
theorem t_X4_squeeze_a17_L5 (K : Cx p s m args meth c D A (tysC cy) RX4 cX4_squeeze 5 (some .int) wsX4_squeeze EV) (n : Nat) (x0 : Nat) (x1 : Nat) (x2 : Int32) (hb_x0 : x0 < 9) (hb_x1 : x1 < 24) (z : (CSt × Int32)) (hE0 : ∀ w : (CSt × Int32), z = w → ∀ (H : Heap) (locs : List Loc), Wd D A s.heap (GC cy ad w.1) H locs → ∀ ls : Array Slot, lv_has ls 5 [(3, .int w.2)] → W p l e rm_X4_squeeze_a17 s m args below meth c H locs 0 0 Q (F0 m 44 ls [])) : ∀ (x : (CSt × Int32 × Int32)), lpO (b_X4_squeeze_a17_5 n x0 x1 x2) n x = some z → (fun (x : (CSt × Int32 × Int32)) => ∀ (H : Heap) (locs : List Loc), Wd D A s.heap (GC cy ad x.1) H locs → ∀ ls : Array Slot, lv_has ls 5 [(0, .ref (ad 3 x0)), (1, .ref (ad 12 x1)), (2, .int x2), (3, .int x.2.1), (4, .int x.2.2)] → W p l e rm_X4_squeeze_a17 s m args below meth c H locs 0 0 Q (F0 m 5 ls [])) x := by
  intro x hx0
  refine lpO_ind2 (P := fun (x : (CSt × Int32 × Int32)) => ∀ (H : Heap) (locs : List Loc), Wd D A s.heap (GC cy ad x.1) H locs → ∀ ls : Array Slot, lv_has ls 5 [(0, .ref (ad 3 x0)), (1, .ref (ad 12 x1)), (2, .int x2), (3, .int x.2.1), (4, .int x.2.2)] → W p l e rm_X4_squeeze_a17 s m args below meth c H locs 0 0 Q (F0 m 5 ls [])) (z := z) ?_ n x hx0
  clear hx0 x
  intro x out hm hg H locs hw ls hl 
  obtain ⟨hx, hb, hml, hown, hts, hr, hlo, hK, hA, hX⟩ := id K
  unfold b_X4_squeeze_a17_5 at hm
  refine lv_iload hx hb dX4_squeeze_5 (lv_at hl 4 rfl) ?_
  refine lv_aload_n hx hb dX4_squeeze_7 rfl (lv_at hl 0 rfl) ?_
  refine g_get (ref := "MigrantHeap$Shape") (C := RX4) (T := TX4) (N := 6) (ci := 4) K in_X4_squeeze_X4 hw 3 rfl hb_x0 rfl rfl 0 (by decide) (List.mem_of_getElem? (i := 1) rfl) rfl rfl dX4_squeeze_8 ?_
  refine lv_icmp_ge (tgt := 44) hx hb dX4_squeeze_11 (by decide) (fun c27 => ?_) (fun c27 => ?_)
  · replace hm := (if_pos c27).symm.trans hm
    obtain rfl := Option.some.inj hm
    exact hE0 _ hg.symm H locs hw ls (lv_sub hl [3] rfl)
  · replace hm := (if_neg c27).symm.trans hm
    refine lv_aload_n hx hb dX4_squeeze_14 rfl (lv_at hl 0 rfl) ?_
    refine g_get (ref := "MigrantHeap$Shape") (C := RX4) (T := TX4) (N := 6) (ci := 4) K in_X4_squeeze_X4 hw 3 rfl hb_x0 rfl rfl 1 (by decide) (List.mem_of_getElem? (i := 2) rfl) rfl rfl dX4_squeeze_15 ?_
    refine lv_iload hx hb dX4_squeeze_18 (lv_at hl 4 rfl) ?_
    obtain ⟨h28, hm⟩ := chkS hm
    refine g_iald K hw 4 0 rfl hb_x0 rfl rfl h28 dX4_squeeze_20 ?_
    refine lv_iload_n hx hb dX4_squeeze_21 rfl (lv_at hl 2 rfl) ?_
    obtain ⟨z30, hc29, hm⟩ := bindS hm
    refine g_calli (GG := GC cy ad) K hw (va_runSN (host := RX7) (As := [.int (x.1.1 6 x0 x.2.2.toNatClampNeg), .int x2]) (rest := []) (g_fix K) (c_X7_isIn l D cy ad H.size n x.1 (x.1.1 6 x0 x.2.2.toNatClampNeg) x2  hc29) ⟨va_cnB 2 (g_hts K) gX4_squeeze_X7_isIn_n43 rfl rfl rfl hX.1 (hts _ (List.mem_of_getElem? (i := 4) rfl)) (by decide +kernel) ⟨Nat.le_of_ble_eq_true rfl, Nat.le_of_ble_eq_true rfl⟩, hts _ (List.mem_of_getElem? (i := 3) rfl), trivial⟩ ⟨g_blind rides_none, g_pre (X2 := fun _ _ => True) K hw (fun _ _ _ => trivial)⟩ rfl rfl hl.1 rfl (lv_room (Nat.le_of_ble_eq_true rfl)) dX4_squeeze_22 ⟨Nat.le_of_ble_eq_true rfl, Nat.le_of_ble_eq_true rfl⟩) (fun r u H locs hp hw => ?_)
    obtain ⟨rfl, hu⟩ := hp
    rw [hu] at hw
    refine lv_if_ne (tgt := 38) hx hb dX4_squeeze_25 (by decide) (fun c31 => ?_) (fun c31 => ?_)
    · replace hm := (if_pos c31).symm.trans hm
      obtain ⟨x32, hx32, hm⟩ := nm_ex hm
      refine lv_iinc (v := x32) (lv' := [(4, .int x32), (0, .ref (ad 3 x0)), (1, .ref (ad 12 x1)), (2, .int x2), (3, .int x.2.1)]) hx hb dX4_squeeze_38 hl (k := 4) rfl (by rw [hx32]; rfl) (by decide) rfl (fun ls hl => ?_)
      refine lv_goto (tgt := 5) hx hb dX4_squeeze_41 (by decide) ?_
      obtain rfl := Option.some.inj hm
      exact hg H locs hw ls (lv_sub hl [1, 2, 3, 4, 0] rfl)
    · replace hm := (if_neg (fun h => h c31)).symm.trans hm
      refine lv_aload_n hx hb dX4_squeeze_28 rfl (lv_at hl 1 rfl) ?_
      refine lv_iload_n hx hb dX4_squeeze_29 rfl (lv_at hl 3 rfl) ?_
      refine lv_aload_n hx hb dX4_squeeze_30 rfl (lv_at hl 1 rfl) ?_
      refine lv_iload hx hb dX4_squeeze_31 (lv_at hl 4 rfl) ?_
      obtain ⟨h33, hm⟩ := chkS hm
      refine g_iald K hw 12 0 rfl hb_x1 rfl rfl h33 dX4_squeeze_33 ?_
      obtain ⟨h34, hm⟩ := chkS hm
      refine g_iast K hw 12 0 rfl hb_x1 rfl rfl h34 dX4_squeeze_34 (eC_17 cy ad x.1 x1 x.2.1.toNatClampNeg (x.1.1 17 x1 x.2.2.toNatClampNeg)) (fun H locs hw => ?_)
      obtain ⟨S35, hS35, hm⟩ := nm_ex hm
      rw [← hS35] at hw
      obtain ⟨x36, hx36, hm⟩ := nm_ex hm
      refine lv_iinc (v := x36) (lv' := [(3, .int x36), (0, .ref (ad 3 x0)), (1, .ref (ad 12 x1)), (2, .int x2), (4, .int x.2.2)]) hx hb dX4_squeeze_35 hl (k := 3) rfl (by rw [hx36]; rfl) (by decide) rfl (fun ls hl => ?_)
      obtain ⟨x37, hx37, hm⟩ := nm_ex hm
      refine lv_iinc (v := x37) (lv' := [(4, .int x37), (3, .int x36), (0, .ref (ad 3 x0)), (1, .ref (ad 12 x1)), (2, .int x2)]) hx hb dX4_squeeze_38 hl (k := 4) rfl (by rw [hx37]; rfl) (by decide) rfl (fun ls hl => ?_)
      refine lv_goto (tgt := 5) hx hb dX4_squeeze_41 (by decide) ?_
      obtain rfl := Option.some.inj hm
      exact hg H locs hw ls (lv_sub hl [2, 3, 4, 1, 0] rfl)
set_option maxRecDepth 100000 in
set_option maxHeartbeats 4000000 in
theorem t_X4_squeeze_a17_0 (K : Cx p s m args meth c D A (tysC cy) RX4 cX4_squeeze 5 (some .int) wsX4_squeeze EV) (n : Nat) (S : CSt) (x0 : Nat) (x1 : Nat) (x2 : Int32) (hb_x0 : x0 < 9) (hb_x1 : x1 < 24) {out : Int32 × CSt} (hm : m_X4_squeeze_a17 n S x0 x1 x2 = some out) : ∀ (H : Heap) (locs : List Loc), Wd D A s.heap (GC cy ad S) H locs → ∀ ls : Array Slot, lv_has ls 5 [(0, .ref (ad 3 x0)), (1, .ref (ad 12 x1)), (2, .int x2)] → W p l e rm_X4_squeeze_a17 s m args below meth c H locs 0 0 (MQ below (va_Qi (fun r (u : CSt) => out = (r, u)) (fun u => Pst D (tysC cy) A (GC cy ad u)) A) args s 0 0 A) (F0 m 0 ls []) := by
  intro H locs hw ls hl
  obtain ⟨hx, hb, hml, hown, hts, hr, hlo, hK, hA, hX⟩ := id K
  unfold m_X4_squeeze_a17 at hm
  refine lv_iconst (v := 0) hx hb dX4_squeeze_0 (by decide) ?_
  refine lv_istore_n (lv' := [(3, .int 0), (0, .ref (ad 3 x0)), (1, .ref (ad 12 x1)), (2, .int x2)]) hx hb dX4_squeeze_1 rfl hl (by decide) rfl (fun ls hl => ?_)
  refine lv_iconst (v := 0) hx hb dX4_squeeze_2 (by decide) ?_
  refine lv_istore (lv' := [(4, .int 0), (3, .int 0), (0, .ref (ad 3 x0)), (1, .ref (ad 12 x1)), (2, .int x2)]) hx hb dX4_squeeze_3 hl (by decide) rfl (fun ls hl => ?_)
  obtain ⟨z38, hz39, hm⟩ := bindS hm
  refine t_X4_squeeze_a17_L5 K n x0 x1 x2 hb_x0 hb_x1 z38 (fun w40 hww40 => ?_) ((S, 0, 0)) hz39 H locs hw ls (lv_sub hl [2, 3, 4, 1, 0] rfl)
  · intro H locs hw ls hl 
    try rw [hww40] at hm
    refine lv_iload_n hx hb dX4_squeeze_44 rfl (lv_at hl 0 rfl) ?_
    exact g_iret (GG := GC cy ad) K hw (Option.some.inj hm).symm dX4_squeeze_45
set_option maxRecDepth 100000 in
set_option maxHeartbeats 4000000 in
theorem c_X4_squeeze_a17 (l : Launch) (D : va_G) (cy : Nat → ClassId) (ad : Nat → Nat → Nat) (sz n : Nat) (S : CSt) (x0 : Nat) (x1 : Nat) (x2 : Int32) (hb_x0 : x0 < 9) (hb_x1 : x1 < 24) {out : Int32 × CSt} (hm : m_X4_squeeze_a17 n S x0 x1 x2 = some out) : Met l yX4_squeeze wsX4_squeeze rm_X4_squeeze_a17 (va_Pc [.ref (ad 3 x0), .ref (ad 12 x1), .int x2] (Pre D (tysC cy) (GC cy ad S) EV sz)) (va_Qi (fun r (u : CSt) => out = (r, u)) (fun u => Pst D (tysC cy) (AA (adrs (GC cy ad S)) sz) (GC cy ad u)) (AA (adrs (GC cy ad S)) sz)) 0 0 (AA (adrs (GC cy ad S)) sz) := by
  refine g_met (by decide) rfl (Nat.le_of_ble_eq_true rfl) ?_
  intro p e s m args below meth c K hw ls hl
  exact t_X4_squeeze_a17_0 (cy := cy) K n S x0 x1 x2 hb_x0 hb_x1 hm _ _ hw ls hl
end W_X4_squeeze_a17
section W_X7_joinBack_nul
variable {p : Program} {l : Launch} {e : Env} {s : State} {m : MethodId} {args : Array Value} {below : List Frame} {meth : Method} {c : Code} {D : va_G} {A : Nat → Prop} {cy : Nat → ClassId} {ad : Nat → Nat → Nat} {Q : State → Prop}
abbrev rm_X7_joinBack_nul : Room := { frames := 0, cells := 0, slots := 0, locals := 0 }
set_option maxRecDepth 100000 in
set_option maxHeartbeats 4000000 in
theorem t_X7_joinBack_nul_0 (K : Cx p s m args meth c D A (tysC cy) RX7 cX7_joinBack 7 none wsX7_joinBack (fun _ _ => True)) (n : Nat) (S : CSt) (x1 : Nat) (x2 : Nat) (hb_x1 : x1 < 6) (hb_x2 : x2 < 24) {out : Unit} (hm : m_X7_joinBack_nul n S x1 x2 = some out) : ∀ (H : Heap) (locs : List Loc), Wd D A s.heap (GC cy ad S) H locs → ∀ ls : Array Slot, lv_has ls 7 [(0, .ref (ad 0 0)), (1, .ref (ad 18 x1)), (2, .ref (ad 11 x2)), (3, .null)] → W p l e rm_X7_joinBack_nul s m args below meth c H locs 0 0 (MQ below (va_Qv (fun (u : CSt) => u = S) (fun u => Pst D (tysC cy) A (GC cy ad u)) A) args s 0 0 A) (F0 m 0 ls []) := by
  intro H locs hw ls hl
  obtain ⟨hx, hb, hml, hown, hts, hr, hlo, hK, hA, hX⟩ := id K
  unfold m_X7_joinBack_nul at hm
  refine lv_aload_nN hx hb dX7_joinBack_0 rfl (lv_at hl 3 rfl) ?_
  refine lv_ifnonnullN hx hb dX7_joinBack_1 ?_
  exact g_vret (GG := GC cy ad) K hw rfl dX7_joinBack_4
set_option maxRecDepth 100000 in
set_option maxHeartbeats 4000000 in
theorem c_X7_joinBack_nul (l : Launch) (D : va_G) (cy : Nat → ClassId) (ad : Nat → Nat → Nat) (sz n : Nat) (S : CSt) (x1 : Nat) (x2 : Nat) (hb_x1 : x1 < 6) (hb_x2 : x2 < 24) {out : Unit} (hm : m_X7_joinBack_nul n S x1 x2 = some out) : Met l yX7_joinBack wsX7_joinBack rm_X7_joinBack_nul (va_Pc [.ref (ad 0 0), .ref (ad 18 x1), .ref (ad 11 x2), .null] (Pre D (tysC cy) (GC cy ad S) (fun _ _ => True) sz)) (va_Qv (fun (u : CSt) => u = S) (fun u => Pst D (tysC cy) (AA (adrs (GC cy ad S)) sz) (GC cy ad u)) (AA (adrs (GC cy ad S)) sz)) 0 0 (AA (adrs (GC cy ad S)) sz) := by
  refine g_met (by decide) rfl (Nat.le_of_ble_eq_true rfl) ?_
  intro p e s m args below meth c K hw ls hl
  exact t_X7_joinBack_nul_0 (cy := cy) K n S x1 x2 hb_x1 hb_x2 hm _ _ hw ls hl
end W_X7_joinBack_nul
section W_X6_remove
variable {p : Program} {l : Launch} {e : Env} {s : State} {m : MethodId} {args : Array Value} {below : List Frame} {meth : Method} {c : Code} {D : va_G} {A : Nat → Prop} {cy : Nat → ClassId} {ad : Nat → Nat → Nat} {Q : State → Prop}
abbrev rm_X6_remove : Room := { frames := 0, cells := 0, slots := 0, locals := 0 }
theorem in_X6_remove_X0 : ∀ w ∈ u_ws RX0 TX0 6, w ∈ wsX6_remove := by decide +kernel
theorem in_X6_remove_X6 : ∀ w ∈ u_ws RX6 TX6 3, w ∈ wsX6_remove := by decide +kernel
set_option maxRecDepth 100000 in
set_option maxHeartbeats 4000000 in
theorem t_X6_remove_0 (K : Cx p s m args meth c D A (tysC cy) RX6 cX6_remove 2 none wsX6_remove (fun _ _ => True)) (n : Nat) (S : CSt) (x1 : Nat) (hb_x1 : x1 < 24) {out : CSt} (hm : m_X6_remove n S x1 = some out) : ∀ (H : Heap) (locs : List Loc), Wd D A s.heap (GC cy ad S) H locs → ∀ ls : Array Slot, lv_has ls 2 [(0, .ref (ad 9 0)), (1, .ref (ad 11 x1))] → W p l e rm_X6_remove s m args below meth c H locs 0 0 (MQ below (va_Qv (fun (u : CSt) => out = u) (fun u => Pst D (tysC cy) A (GC cy ad u)) A) args s 0 0 A) (F0 m 0 ls []) := by
  intro H locs hw ls hl
  obtain ⟨hx, hb, hml, hown, hts, hr, hlo, hK, hA, hX⟩ := id K
  unfold m_X6_remove at hm
  refine lv_aload_n hx hb dX6_remove_0 rfl (lv_at hl 1 rfl) ?_
  refine lv_iconst (v := 0) hx hb dX6_remove_1 (by decide) ?_
  refine g_put (v := .int 0) (ty := .int) (ref := "MigrantHeap$Entry") (C := RX0) (T := TX0) (N := 6) (ci := 0) K in_X6_remove_X0 tyX0 tyX0_ok nmX0 hw 11 rfl hb_x1 rfl rfl 0 (by decide) (List.mem_of_getElem? (i := 1) rfl) rfl rfl (by decide +kernel) rfl rfl (Nat.le_of_ble_eq_true rfl) dX6_remove_2 (eC_13 cy ad S x1 0) (fun H locs hw => ?_)
  obtain ⟨S5, hS5, hm⟩ := nm_ex hm
  rw [← hS5] at hw
  refine lv_aload_n hx hb dX6_remove_5 rfl (lv_at hl 0 rfl) ?_
  refine lv_dup hx hb dX6_remove_6 rfl ?_
  refine g_get (ref := "MigrantHeap$Store") (C := RX6) (T := TX6) (N := 3) (ci := 6) K in_X6_remove_X6 hw 9 rfl (by decide : 0 < 1) rfl rfl 1 (by decide) (List.mem_of_getElem? (i := 2) rfl) rfl rfl dX6_remove_7 ?_
  refine lv_iconst (v := 1) hx hb dX6_remove_10 (by decide) ?_
  refine lv_isub hx hb dX6_remove_11 ?_
  refine g_put (v := .int ((S5.1 11 0 0) - 1)) (ty := .int) (ref := "MigrantHeap$Store") (C := RX6) (T := TX6) (N := 3) (ci := 6) K in_X6_remove_X6 tyX6 tyX6_ok nmX6 hw 9 rfl (by decide : 0 < 1) rfl rfl 1 (by decide) (List.mem_of_getElem? (i := 2) rfl) rfl rfl (by decide +kernel) rfl rfl (Nat.le_of_ble_eq_true rfl) dX6_remove_12 (eC_11 cy ad S5 0 ((S5.1 11 0 0) - 1)) (fun H locs hw => ?_)
  obtain ⟨S6, hS6, hm⟩ := nm_ex hm
  rw [← hS6] at hw
  exact g_vret (GG := GC cy ad) K hw (Option.some.inj hm).symm dX6_remove_15
set_option maxRecDepth 100000 in
set_option maxHeartbeats 4000000 in
theorem c_X6_remove (l : Launch) (D : va_G) (cy : Nat → ClassId) (ad : Nat → Nat → Nat) (sz n : Nat) (S : CSt) (x1 : Nat) (hb_x1 : x1 < 24) {out : CSt} (hm : m_X6_remove n S x1 = some out) : Met l yX6_remove wsX6_remove rm_X6_remove (va_Pc [.ref (ad 9 0), .ref (ad 11 x1)] (Pre D (tysC cy) (GC cy ad S) (fun _ _ => True) sz)) (va_Qv (fun (u : CSt) => out = u) (fun u => Pst D (tysC cy) (AA (adrs (GC cy ad S)) sz) (GC cy ad u)) (AA (adrs (GC cy ad S)) sz)) 0 0 (AA (adrs (GC cy ad S)) sz) := by
  refine g_met (by decide) rfl (Nat.le_of_ble_eq_true rfl) ?_
  intro p e s m args below meth c K hw ls hl
  exact t_X6_remove_0 (cy := cy) K n S x1 hb_x1 hm _ _ hw ls hl
end W_X6_remove
section W_X7_joinBack
variable {p : Program} {l : Launch} {e : Env} {s : State} {m : MethodId} {args : Array Value} {below : List Frame} {meth : Method} {c : Code} {D : va_G} {A : Nat → Prop} {cy : Nat → ClassId} {ad : Nat → Nat → Nat} {Q : State → Prop}
abbrev rm_X7_joinBack : Room := { frames := 2, cells := 0, slots := 0, locals := 45 }
theorem in_X7_joinBack_X0 : ∀ w ∈ u_ws RX0 TX0 6, w ∈ wsX7_joinBack := by decide +kernel
theorem in_X7_joinBack_X2 : ∀ w ∈ u_ws RX2 TX2 4, w ∈ wsX7_joinBack := by decide +kernel
theorem in_X7_joinBack_X4 : ∀ w ∈ u_ws RX4 TX4 6, w ∈ wsX7_joinBack := by decide +kernel
theorem in_X7_joinBack_X5 : ∀ w ∈ u_ws RX5 TX5 6, w ∈ wsX7_joinBack := by decide +kernel
theorem in_X7_joinBack_X7 : ∀ w ∈ u_ws RX7 TX7 11, w ∈ wsX7_joinBack := by decide +kernel
set_option maxRecDepth 100000 in
set_option maxHeartbeats 4000000 in
theorem t_X7_joinBack_L44 (K : Cx p s m args meth c D A (tysC cy) RX7 cX7_joinBack 7 none wsX7_joinBack EV) (n : Nat) (x2 : Nat) (x3 : Nat) (x4 : Int32) (x5 : Int32) (hb_x2 : x2 < 24) (hb_x3 : x3 < 24) (z : CSt) (hE0 : ∀ w : CSt, z = w → ∀ (H : Heap) (locs : List Loc), Wd D A s.heap (GC cy ad w) H locs → ∀ ls : Array Slot, lv_has ls 7 [(0, .ref (ad 0 0)), (3, .ref (ad 11 x3))] → W p l e rm_X7_joinBack s m args below meth c H locs 0 0 Q (F0 m 73 ls [])) : ∀ (x : (CSt × Int32)), lpO (b_X7_joinBack_44 n x2 x3 x4 x5) n x = some z → (fun (x : (CSt × Int32)) => ∀ (H : Heap) (locs : List Loc), Wd D A s.heap (GC cy ad x.1) H locs → ∀ ls : Array Slot, lv_has ls 7 [(0, .ref (ad 0 0)), (2, .ref (ad 11 x2)), (3, .ref (ad 11 x3)), (4, .int x4), (5, .int x5), (6, .int x.2)] → W p l e rm_X7_joinBack s m args below meth c H locs 0 0 Q (F0 m 44 ls [])) x := by
  intro x hx0
  refine lpO_ind2 (P := fun (x : (CSt × Int32)) => ∀ (H : Heap) (locs : List Loc), Wd D A s.heap (GC cy ad x.1) H locs → ∀ ls : Array Slot, lv_has ls 7 [(0, .ref (ad 0 0)), (2, .ref (ad 11 x2)), (3, .ref (ad 11 x3)), (4, .int x4), (5, .int x5), (6, .int x.2)] → W p l e rm_X7_joinBack s m args below meth c H locs 0 0 Q (F0 m 44 ls [])) (z := z) ?_ n x hx0
  clear hx0 x
  intro x out hm hg H locs hw ls hl 
  obtain ⟨hx, hb, hml, hown, hts, hr, hlo, hK, hA, hX⟩ := id K
  unfold b_X7_joinBack_44 at hm
  refine lv_iload hx hb dX7_joinBack_44 (lv_at hl 5 rfl) ?_
  refine lv_iload hx hb dX7_joinBack_46 (lv_at hl 4 rfl) ?_
  refine lv_icmp_ge (tgt := 73) hx hb dX7_joinBack_48 (by decide) (fun c31 => ?_) (fun c31 => ?_)
  · replace hm := (if_pos c31).symm.trans hm
    obtain rfl := Option.some.inj hm
    exact hE0 _ hg.symm H locs hw ls (lv_sub hl [0, 2] rfl)
  · replace hm := (if_neg c31).symm.trans hm
    refine lv_aload_n hx hb dX7_joinBack_51 rfl (lv_at hl 1 rfl) ?_
    refine lv_iload hx hb dX7_joinBack_52 (lv_at hl 3 rfl) ?_
    refine lv_iload hx hb dX7_joinBack_54 (lv_at hl 5 rfl) ?_
    refine lv_iadd hx hb dX7_joinBack_56 ?_
    refine lv_aload_n hx hb dX7_joinBack_57 rfl (lv_at hl 2 rfl) ?_
    refine g_get (ref := "MigrantHeap$Entry") (C := RX0) (T := TX0) (N := 6) (ci := 0) K in_X7_joinBack_X0 hw 11 rfl hb_x3 rfl rfl 4 (by decide) (List.mem_of_getElem? (i := 2) rfl) rfl rfl dX7_joinBack_58 ?_
    refine lv_iload hx hb dX7_joinBack_61 (lv_at hl 5 rfl) ?_
    obtain ⟨h32, hm⟩ := chkS hm
    refine g_iald K hw 12 0 rfl hb_x3 rfl rfl h32 dX7_joinBack_63 ?_
    obtain ⟨z34, hc33, hm⟩ := bindS hm
    refine g_callv (GG := GC cy ad) K hw (va_runV (As := [.int (x4 + x.2), .int (x.1.1 17 x3 x.2.toNatClampNeg)]) (rest := []) (g_fix K) (c_X0_put l D cy ad H.size n x.1 x2 (x4 + x.2) (x.1.1 17 x3 x.2.toNatClampNeg) hb_x2 hc33) (cwV 2 (g_hts K) gX7_joinBack_X0_put rfl rfl rfl (by decide +kernel) ⟨Nat.le_of_ble_eq_true rfl, Nat.le_of_ble_eq_true rfl⟩) ⟨g_blind rides_none, g_recv K hw 11 rfl hb_x2 rfl rfl, g_pre (X2 := fun _ _ => True) K hw (fun _ _ _ => trivial)⟩ rfl rfl hl.1 rfl (lv_room (Nat.le_of_ble_eq_true rfl)) dX7_joinBack_64 ⟨Nat.le_of_ble_eq_true rfl, Nat.le_of_ble_eq_true rfl⟩) (fun u H locs hp hw => ?_)
    obtain rfl := hp
    obtain ⟨x35, hx35, hm⟩ := nm_ex hm
    refine lv_iinc (v := x35) (lv' := [(6, .int x35), (0, .ref (ad 0 0)), (2, .ref (ad 11 x2)), (3, .ref (ad 11 x3)), (4, .int x4), (5, .int x5)]) hx hb dX7_joinBack_67 hl (k := 5) rfl (by rw [hx35]; rfl) (by decide) rfl (fun ls hl => ?_)
    refine lv_goto (tgt := 44) hx hb dX7_joinBack_70 (by decide) ?_
    obtain rfl := Option.some.inj hm
    exact hg H locs hw ls (lv_sub hl [1, 2, 3, 4, 5, 0] rfl)
set_option maxRecDepth 100000 in
set_option maxHeartbeats 4000000 in
theorem t_X7_joinBack_0 (K : Cx p s m args meth c D A (tysC cy) RX7 cX7_joinBack 7 none wsX7_joinBack EV) (n : Nat) (S : CSt) (x1 : Nat) (x2 : Nat) (x3 : Nat) (hb_x1 : x1 < 6) (hb_x2 : x2 < 24) (hb_x3 : x3 < 24) {out : CSt} (hm : m_X7_joinBack n S x1 x2 x3 = some out) : ∀ (H : Heap) (locs : List Loc), Wd D A s.heap (GC cy ad S) H locs → ∀ ls : Array Slot, lv_has ls 7 [(0, .ref (ad 0 0)), (1, .ref (ad 18 x1)), (2, .ref (ad 11 x2)), (3, .ref (ad 11 x3))] → W p l e rm_X7_joinBack s m args below meth c H locs 0 0 (MQ below (va_Qv (fun (u : CSt) => out = u) (fun u => Pst D (tysC cy) A (GC cy ad u)) A) args s 0 0 A) (F0 m 0 ls []) := by
  intro H locs hw ls hl
  obtain ⟨hx, hb, hml, hown, hts, hr, hlo, hK, hA, hX⟩ := id K
  unfold m_X7_joinBack at hm
  refine lv_aload_n hx hb dX7_joinBack_0 rfl (lv_at hl 3 rfl) ?_
  refine lv_ifnonnull (tgt := 5) hx hb dX7_joinBack_1 (by decide) ?_
  refine lv_aload_n hx hb dX7_joinBack_5 rfl (lv_at hl 0 rfl) ?_
  refine g_get (ref := "MigrantHeap") (C := RX7) (T := TX7) (N := 11) (ci := 7) K in_X7_joinBack_X7 hw 0 rfl (by decide : 0 < 1) rfl rfl 8 (by decide) (List.mem_of_getElem? (i := 1) rfl) rfl rfl dX7_joinBack_6 ?_
  refine lv_aload_n hx hb dX7_joinBack_9 rfl (lv_at hl 2 rfl) ?_
  refine g_get (ref := "MigrantHeap$Entry") (C := RX0) (T := TX0) (N := 6) (ci := 0) K in_X7_joinBack_X0 hw 11 rfl hb_x2 rfl rfl 4 (by decide) (List.mem_of_getElem? (i := 2) rfl) rfl rfl dX7_joinBack_10 ?_
  refine lv_iconst (v := 1) hx hb dX7_joinBack_13 (by decide) ?_
  refine lv_aload_n hx hb dX7_joinBack_14 rfl (lv_at hl 1 rfl) ?_
  refine g_get (ref := "MigrantHeap$Step") (C := RX5) (T := TX5) (N := 6) (ci := 5) K in_X7_joinBack_X5 hw 18 rfl hb_x1 rfl rfl 1 (by decide) (List.mem_of_getElem? (i := 3) rfl) rfl rfl dX7_joinBack_15 ?_
  refine lv_ishl hx hb dX7_joinBack_18 ?_
  obtain ⟨z37, hc36, hm⟩ := bindS hm
  refine g_calli (GG := GC cy ad) K hw (va_runV (As := [.ref (ad 12 x2), .int (1 <<< ((S.1 23 x1 0) &&& 31))]) (rest := []) (g_fix K) (c_X4_squeeze_a17 l D cy ad H.size n S 8 x2 (1 <<< ((S.1 23 x1 0) &&& 31)) (by decide : 8 < 9) hb_x2 hc36) (cwV 2 (g_hts K) gX7_joinBack_X4_squeeze rfl rfl rfl (by decide +kernel) ⟨Nat.le_of_ble_eq_true rfl, Nat.le_of_ble_eq_true rfl⟩) ⟨g_blind rides_EV, g_recv K hw 3 rfl (by decide : 8 < 9) rfl rfl, g_pre K hw (g_ride rides_EV K hw)⟩ rfl rfl hl.1 rfl (lv_room (Nat.le_of_ble_eq_true rfl)) dX7_joinBack_19 ⟨Nat.le_of_ble_eq_true rfl, Nat.le_of_ble_eq_true rfl⟩) (fun r u H locs hp hw => ?_)
  obtain ⟨rfl, rfl⟩ : r = z37.1 ∧ u = z37.2 := by rw [hp]; exact ⟨rfl, rfl⟩
  refine lv_istore (lv' := [(4, .int z37.1), (0, .ref (ad 0 0)), (1, .ref (ad 18 x1)), (2, .ref (ad 11 x2)), (3, .ref (ad 11 x3))]) hx hb dX7_joinBack_22 hl (by decide) rfl (fun ls hl => ?_)
  refine lv_aload_n hx hb dX7_joinBack_24 rfl (lv_at hl 1 rfl) ?_
  refine g_get (ref := "MigrantHeap") (C := RX7) (T := TX7) (N := 11) (ci := 7) K in_X7_joinBack_X7 hw 0 rfl (by decide : 0 < 1) rfl rfl 0 (by decide) (List.mem_of_getElem? (i := 4) rfl) rfl rfl dX7_joinBack_25 ?_
  refine lv_aload_n hx hb dX7_joinBack_28 rfl (lv_at hl 4 rfl) ?_
  refine g_get (ref := "MigrantHeap$Entry") (C := RX0) (T := TX0) (N := 6) (ci := 0) K in_X7_joinBack_X0 hw 11 rfl hb_x3 rfl rfl 1 (by decide) (List.mem_of_getElem? (i := 5) rfl) rfl rfl dX7_joinBack_29 ?_
  obtain ⟨h38, hm⟩ := chkS hm
  refine g_aald K hw 1 4 rfl (by decide) rfl rfl h38 dX7_joinBack_32 ?_
  refine g_get (ref := "MigrantHeap$Kind") (C := RX2) (T := TX2) (N := 4) (ci := 2) K in_X7_joinBack_X2 hw 2 rfl (inB_lt h38) rfl rfl 2 (by decide) (List.mem_of_getElem? (i := 6) rfl) rfl rfl dX7_joinBack_33 ?_
  refine g_get (ref := "MigrantHeap$Shape") (C := RX4) (T := TX4) (N := 6) (ci := 4) K in_X7_joinBack_X4 hw 3 rfl (by have := (inB_lt h38); omega : (2 * (z37.2.1 14 x3 0).toNatClampNeg) < 9) rfl rfl 0 (by decide) (List.mem_of_getElem? (i := 7) rfl) rfl rfl dX7_joinBack_36 ?_
  obtain ⟨x39, hx39, hm⟩ := nm_ex hm
  refine W.eq (g2 := F0 m 39 ls (.int x39 :: [])) (by rw [hx39]) ?_
  refine lv_istore (lv' := [(5, .int x39), (4, .int z37.1), (0, .ref (ad 0 0)), (1, .ref (ad 18 x1)), (2, .ref (ad 11 x2)), (3, .ref (ad 11 x3))]) hx hb dX7_joinBack_39 hl (by decide) rfl (fun ls hl => ?_)
  refine lv_iconst (v := 0) hx hb dX7_joinBack_41 (by decide) ?_
  refine lv_istore (lv' := [(6, .int 0), (5, .int x39), (4, .int z37.1), (0, .ref (ad 0 0)), (1, .ref (ad 18 x1)), (2, .ref (ad 11 x2)), (3, .ref (ad 11 x3))]) hx hb dX7_joinBack_42 hl (by decide) rfl (fun ls hl => ?_)
  obtain ⟨z40, hz41, hm⟩ := bindS hm
  refine t_X7_joinBack_L44 K n x2 x3 z37.1 x39 hb_x2 hb_x3 z40 (fun w42 hww42 => ?_) ((z37.2, 0)) hz41 H locs hw ls (lv_sub hl [3, 5, 6, 2, 1, 0] rfl)
  · intro H locs hw ls hl 
    try rw [hww42] at hm
    refine lv_aload_n hx hb dX7_joinBack_73 rfl (lv_at hl 0 rfl) ?_
    refine g_get (ref := "MigrantHeap") (C := RX7) (T := TX7) (N := 11) (ci := 7) K in_X7_joinBack_X7 hw 0 rfl (by decide : 0 < 1) rfl rfl 2 (by decide) (List.mem_of_getElem? (i := 8) rfl) rfl rfl dX7_joinBack_74 ?_
    refine lv_aload_n hx hb dX7_joinBack_77 rfl (lv_at hl 1 rfl) ?_
    obtain ⟨z44, hc43, hm⟩ := bindS hm
    refine g_callv (GG := GC cy ad) K hw (va_runV (As := [.ref (ad 11 x3)]) (rest := []) (g_fix K) (c_X6_remove l D cy ad H.size n w42 x3 hb_x3 hc43) (cwV 1 (g_hts K) gX7_joinBack_X6_remove rfl rfl rfl (by decide +kernel) ⟨Nat.le_of_ble_eq_true rfl, Nat.le_of_ble_eq_true rfl⟩) ⟨g_blind rides_none, g_recv K hw 9 rfl (by decide : 0 < 1) rfl rfl, g_pre (X2 := fun _ _ => True) K hw (fun _ _ _ => trivial)⟩ rfl rfl hl.1 rfl (lv_room (Nat.le_of_ble_eq_true rfl)) dX7_joinBack_78 ⟨Nat.le_of_ble_eq_true rfl, Nat.le_of_ble_eq_true rfl⟩) (fun u H locs hp hw => ?_)
    obtain rfl := hp
    exact g_vret (GG := GC cy ad) K hw (Option.some.inj hm).symm dX7_joinBack_81
set_option maxRecDepth 100000 in
set_option maxHeartbeats 4000000 in
theorem c_X7_joinBack (l : Launch) (D : va_G) (cy : Nat → ClassId) (ad : Nat → Nat → Nat) (sz n : Nat) (S : CSt) (x1 : Nat) (x2 : Nat) (x3 : Nat) (hb_x1 : x1 < 6) (hb_x2 : x2 < 24) (hb_x3 : x3 < 24) {out : CSt} (hm : m_X7_joinBack n S x1 x2 x3 = some out) : Met l yX7_joinBack wsX7_joinBack rm_X7_joinBack (va_Pc [.ref (ad 0 0), .ref (ad 18 x1), .ref (ad 11 x2), .ref (ad 11 x3)] (Pre D (tysC cy) (GC cy ad S) EV sz)) (va_Qv (fun (u : CSt) => out = u) (fun u => Pst D (tysC cy) (AA (adrs (GC cy ad S)) sz) (GC cy ad u)) (AA (adrs (GC cy ad S)) sz)) 0 0 (AA (adrs (GC cy ad S)) sz) := by
  refine g_met (by decide) rfl (Nat.le_of_ble_eq_true rfl) ?_
  intro p e s m args below meth c K hw ls hl
  exact t_X7_joinBack_0 (cy := cy) K n S x1 x2 x3 hb_x1 hb_x2 hb_x3 hm _ _ hw ls hl
end W_X7_joinBack
section W_X7_splitOff
variable {p : Program} {l : Launch} {e : Env} {s : State} {m : MethodId} {args : Array Value} {below : List Frame} {meth : Method} {c : Code} {D : va_G} {A : Nat → Prop} {cy : Nat → ClassId} {ad : Nat → Nat → Nat} {Q : State → Prop}
abbrev rm_X7_splitOff : Room := { frames := 3, cells := 0, slots := 0, locals := 67 }
theorem in_X7_splitOff_X0 : ∀ w ∈ u_ws RX0 TX0 6, w ∈ wsX7_splitOff := by decide +kernel
theorem in_X7_splitOff_X2 : ∀ w ∈ u_ws RX2 TX2 4, w ∈ wsX7_splitOff := by decide +kernel
theorem in_X7_splitOff_X4 : ∀ w ∈ u_ws RX4 TX4 6, w ∈ wsX7_splitOff := by decide +kernel
theorem in_X7_splitOff_X5 : ∀ w ∈ u_ws RX5 TX5 6, w ∈ wsX7_splitOff := by decide +kernel
theorem in_X7_splitOff_X7 : ∀ w ∈ u_ws RX7 TX7 11, w ∈ wsX7_splitOff := by decide +kernel
set_option maxRecDepth 100000 in
set_option maxHeartbeats 4000000 in
theorem t_X7_splitOff_L31 (K : Cx p s m args meth c D A (tysC cy) RX7 cX7_splitOff 7 none wsX7_splitOff EV) (n : Nat) (x1 : Nat) (x2 : Nat) (x3 : Nat) (x4 : Nat) (hb_x1 : x1 < 6) (hb_x2 : x2 < 24) (hb_x3 : x3 < 24) (hb_x4 : x4 < 9) (z : CSt) (hE0 : ∀ w : CSt, z = w → ∀ (H : Heap) (locs : List Loc), Wd D A s.heap (GC cy ad w) H locs → ∀ ls : Array Slot, lv_has ls 7 [(0, .ref (ad 0 0)), (1, .ref (ad 18 x1)), (2, .ref (ad 11 x2)), (3, .ref (ad 11 x3))] → W p l e rm_X7_splitOff s m args below meth c H locs 0 0 Q (F0 m 84 ls [])) : ∀ (x : (CSt × Int32)), lpO (b_X7_splitOff_31 n x1 x2 x3 x4) n x = some z → (fun (x : (CSt × Int32)) => ∀ (H : Heap) (locs : List Loc), Wd D A s.heap (GC cy ad x.1) H locs → ∀ ls : Array Slot, lv_has ls 7 [(0, .ref (ad 0 0)), (1, .ref (ad 18 x1)), (2, .ref (ad 11 x2)), (3, .ref (ad 11 x3)), (4, .ref (ad 3 x4)), (5, .int x.2)] → W p l e rm_X7_splitOff s m args below meth c H locs 0 0 Q (F0 m 31 ls [])) x := by
  intro x hx0
  refine lpO_ind2 (P := fun (x : (CSt × Int32)) => ∀ (H : Heap) (locs : List Loc), Wd D A s.heap (GC cy ad x.1) H locs → ∀ ls : Array Slot, lv_has ls 7 [(0, .ref (ad 0 0)), (1, .ref (ad 18 x1)), (2, .ref (ad 11 x2)), (3, .ref (ad 11 x3)), (4, .ref (ad 3 x4)), (5, .int x.2)] → W p l e rm_X7_splitOff s m args below meth c H locs 0 0 Q (F0 m 31 ls [])) (z := z) ?_ n x hx0
  clear hx0 x
  intro x out hm hg H locs hw ls hl 
  obtain ⟨hx, hb, hml, hown, hts, hr, hlo, hK, hA, hX⟩ := id K
  unfold b_X7_splitOff_31 at hm
  refine lv_iload hx hb dX7_splitOff_31 (lv_at hl 5 rfl) ?_
  refine lv_aload hx hb dX7_splitOff_33 (lv_at hl 4 rfl) ?_
  refine g_get (ref := "MigrantHeap$Shape") (C := RX4) (T := TX4) (N := 6) (ci := 4) K in_X7_splitOff_X4 hw 3 rfl hb_x4 rfl rfl 0 (by decide) (List.mem_of_getElem? (i := 4) rfl) rfl rfl dX7_splitOff_35 ?_
  refine lv_icmp_ge (tgt := 84) hx hb dX7_splitOff_38 (by decide) (fun c48 => ?_) (fun c48 => ?_)
  · replace hm := (if_pos c48).symm.trans hm
    obtain rfl := Option.some.inj hm
    exact hE0 _ hg.symm H locs hw ls (lv_sub hl [0, 1, 2, 3] rfl)
  · replace hm := (if_neg c48).symm.trans hm
    refine lv_aload_n hx hb dX7_splitOff_41 rfl (lv_at hl 0 rfl) ?_
    refine g_get (ref := "MigrantHeap") (C := RX7) (T := TX7) (N := 11) (ci := 7) K in_X7_splitOff_X7 hw 0 rfl (by decide : 0 < 1) rfl rfl 8 (by decide) (List.mem_of_getElem? (i := 5) rfl) rfl rfl dX7_splitOff_42 ?_
    refine lv_aload hx hb dX7_splitOff_45 (lv_at hl 4 rfl) ?_
    refine g_get (ref := "MigrantHeap$Shape") (C := RX4) (T := TX4) (N := 6) (ci := 4) K in_X7_splitOff_X4 hw 3 rfl hb_x4 rfl rfl 1 (by decide) (List.mem_of_getElem? (i := 6) rfl) rfl rfl dX7_splitOff_47 ?_
    refine lv_iload hx hb dX7_splitOff_50 (lv_at hl 5 rfl) ?_
    obtain ⟨h49, hm⟩ := chkS hm
    refine g_iald K hw 4 0 rfl hb_x4 rfl rfl h49 dX7_splitOff_52 ?_
    obtain ⟨z51, hc50, hm⟩ := bindS hm
    refine g_calli (GG := GC cy ad) K hw (va_runV (As := [.int (x.1.1 6 x4 x.2.toNatClampNeg)]) (rest := []) (g_fix K) (c_X4_placeOf l D cy ad H.size n x.1 8 (x.1.1 6 x4 x.2.toNatClampNeg) (by decide : 8 < 9) hc50) (cwV 1 (g_hts K) gX7_splitOff_X4_placeOf rfl rfl rfl (by decide +kernel) ⟨Nat.le_of_ble_eq_true rfl, Nat.le_of_ble_eq_true rfl⟩) ⟨g_blind rides_none, g_recv K hw 3 rfl (by decide : 8 < 9) rfl rfl, g_pre (X2 := fun _ _ => True) K hw (fun _ _ _ => trivial)⟩ rfl rfl hl.1 rfl (lv_room (Nat.le_of_ble_eq_true rfl)) dX7_splitOff_53 ⟨Nat.le_of_ble_eq_true rfl, Nat.le_of_ble_eq_true rfl⟩) (fun r u H locs hp hw => ?_)
    obtain ⟨rfl, hu⟩ := hp
    rw [hu] at hw
    refine lv_istore (lv' := [(6, .int z51), (0, .ref (ad 0 0)), (1, .ref (ad 18 x1)), (2, .ref (ad 11 x2)), (3, .ref (ad 11 x3)), (4, .ref (ad 3 x4)), (5, .int x.2)]) hx hb dX7_splitOff_56 hl (by decide) rfl (fun ls hl => ?_)
    refine lv_iload hx hb dX7_splitOff_58 (lv_at hl 0 rfl) ?_
    refine lv_iconst (v := (-1)) hx hb dX7_splitOff_60 (by decide) ?_
    refine lv_icmp_eq (tgt := 78) hx hb dX7_splitOff_61 (by decide) (fun c52 => ?_) (fun c52 => ?_)
    · replace hm := (if_pos c52).symm.trans hm
      obtain ⟨x53, hx53, hm⟩ := nm_ex hm
      refine lv_iinc (v := x53) (lv' := [(5, .int x53), (6, .int z51), (0, .ref (ad 0 0)), (1, .ref (ad 18 x1)), (2, .ref (ad 11 x2)), (3, .ref (ad 11 x3)), (4, .ref (ad 3 x4))]) hx hb dX7_splitOff_78 hl (k := 6) rfl (by rw [hx53]; rfl) (by decide) rfl (fun ls hl => ?_)
      refine lv_goto (tgt := 31) hx hb dX7_splitOff_81 (by decide) ?_
      obtain rfl := Option.some.inj hm
      exact hg H locs hw ls (lv_sub hl [2, 3, 4, 5, 6, 0] rfl)
    · replace hm := (if_neg c52).symm.trans hm
      refine lv_aload_n hx hb dX7_splitOff_64 rfl (lv_at hl 4 rfl) ?_
      refine g_get (ref := "MigrantHeap$Entry") (C := RX0) (T := TX0) (N := 6) (ci := 0) K in_X7_splitOff_X0 hw 11 rfl hb_x3 rfl rfl 4 (by decide) (List.mem_of_getElem? (i := 7) rfl) rfl rfl dX7_splitOff_65 ?_
      refine lv_iload hx hb dX7_splitOff_68 (lv_at hl 6 rfl) ?_
      refine lv_aload_n hx hb dX7_splitOff_70 rfl (lv_at hl 3 rfl) ?_
      refine g_get (ref := "MigrantHeap$Entry") (C := RX0) (T := TX0) (N := 6) (ci := 0) K in_X7_splitOff_X0 hw 11 rfl hb_x2 rfl rfl 4 (by decide) (List.mem_of_getElem? (i := 7) rfl) rfl rfl dX7_splitOff_71 ?_
      refine lv_iload hx hb dX7_splitOff_74 (lv_at hl 0 rfl) ?_
      obtain ⟨h54, hm⟩ := chkS hm
      refine g_iald K hw 12 0 rfl hb_x2 rfl rfl h54 dX7_splitOff_76 ?_
      obtain ⟨h55, hm⟩ := chkS hm
      refine g_iast K hw 12 0 rfl hb_x3 rfl rfl h55 dX7_splitOff_77 (eC_17 cy ad x.1 x3 x.2.toNatClampNeg (x.1.1 17 x2 z51.toNatClampNeg)) (fun H locs hw => ?_)
      obtain ⟨S56, hS56, hm⟩ := nm_ex hm
      rw [← hS56] at hw
      obtain ⟨x57, hx57, hm⟩ := nm_ex hm
      refine lv_iinc (v := x57) (lv' := [(5, .int x57), (6, .int z51), (0, .ref (ad 0 0)), (1, .ref (ad 18 x1)), (2, .ref (ad 11 x2)), (3, .ref (ad 11 x3)), (4, .ref (ad 3 x4))]) hx hb dX7_splitOff_78 hl (k := 6) rfl (by rw [hx57]; rfl) (by decide) rfl (fun ls hl => ?_)
      refine lv_goto (tgt := 31) hx hb dX7_splitOff_81 (by decide) ?_
      obtain rfl := Option.some.inj hm
      exact hg H locs hw ls (lv_sub hl [2, 3, 4, 5, 6, 0] rfl)
set_option maxRecDepth 100000 in
set_option maxHeartbeats 4000000 in
theorem t_X7_splitOff_0 (K : Cx p s m args meth c D A (tysC cy) RX7 cX7_splitOff 7 none wsX7_splitOff EV) (n : Nat) (S : CSt) (x1 : Nat) (x2 : Nat) (hb_x1 : x1 < 6) (hb_x2 : x2 < 24) {out : CSt} (hm : m_X7_splitOff n S x1 x2 = some out) : ∀ (H : Heap) (locs : List Loc), Wd D A s.heap (GC cy ad S) H locs → ∀ ls : Array Slot, lv_has ls 7 [(0, .ref (ad 0 0)), (1, .ref (ad 18 x1)), (2, .ref (ad 11 x2))] → W p l e rm_X7_splitOff s m args below meth c H locs 0 0 (MQ below (va_Qv (fun (u : CSt) => out = u) (fun u => Pst D (tysC cy) A (GC cy ad u)) A) args s 0 0 A) (F0 m 0 ls []) := by
  intro H locs hw ls hl
  obtain ⟨hx, hb, hml, hown, hts, hr, hlo, hK, hA, hX⟩ := id K
  unfold m_X7_splitOff at hm
  refine lv_aload_n hx hb dX7_splitOff_0 rfl (lv_at hl 0 rfl) ?_
  refine lv_aload_n hx hb dX7_splitOff_1 rfl (lv_at hl 1 rfl) ?_
  refine g_get (ref := "MigrantHeap$Step") (C := RX5) (T := TX5) (N := 6) (ci := 5) K in_X7_splitOff_X5 hw 18 rfl hb_x1 rfl rfl 2 (by decide) (List.mem_of_getElem? (i := 1) rfl) rfl rfl dX7_splitOff_2 ?_
  obtain ⟨z59, hc58, hm⟩ := bindS hm
  refine g_callq (GG := GC cy ad) K hw (va_runV (As := [.int (S.1 24 x1 0)]) (rest := []) (g_fix K) (c_X7_newRecord l D cy ad H.size n S (S.1 24 x1 0)  hc58) (cwV 1 (g_hts K) gX7_splitOff_X7_newRecord rfl rfl rfl (by decide +kernel) ⟨Nat.le_of_ble_eq_true rfl, Nat.le_of_ble_eq_true rfl⟩) ⟨g_blind rides_none, g_recv K hw 0 rfl (by decide : 0 < 1) rfl rfl, g_pre (X2 := fun _ _ => True) K hw (fun _ _ _ => trivial)⟩ rfl rfl hl.1 rfl (lv_room (Nat.le_of_ble_eq_true rfl)) dX7_splitOff_5 ⟨Nat.le_of_ble_eq_true rfl, Nat.le_of_ble_eq_true rfl⟩) (fun r u H locs hp hw => ?_)
  obtain ⟨rfl, rfl⟩ := hp
  rcases hq62 : z59.1 with _ | i60
  · rw [hq62] at hm
    replace hm := (optN _ _).symm.trans hm
    refine W.eq (g2 := F0 m 8 ls (.null :: [])) (by first | rfl | (rw [hq62]; rfl)) ?_
    refine lv_astore_nN (lv' := [(3, .null), (0, .ref (ad 0 0)), (1, .ref (ad 18 x1)), (2, .ref (ad 11 x2))]) hx hb dX7_splitOff_8 rfl hl (by decide) rfl (fun ls hl => ?_)
    refine lv_aload_nN hx hb dX7_splitOff_9 rfl (lv_at hl 0 rfl) ?_
    refine lv_ifnonnullN hx hb dX7_splitOff_10 ?_
    exact g_vret (GG := GC cy ad) K hw (Option.some.inj hm).symm dX7_splitOff_13
  · rw [hq62] at hm
    replace hm := (optS _ _ _).symm.trans hm
    obtain ⟨h61, hm⟩ := chkS hm
    replace h61 := of_decide_eq_true h61
    refine W.eq (g2 := F0 m 8 ls (.ref (ad 11 i60) :: [])) (by first | rfl | (rw [hq62]; rfl)) ?_
    refine lv_astore_n (lv' := [(3, .ref (ad 11 i60)), (0, .ref (ad 0 0)), (1, .ref (ad 18 x1)), (2, .ref (ad 11 x2))]) hx hb dX7_splitOff_8 rfl hl (by decide) rfl (fun ls hl => ?_)
    refine lv_aload_n hx hb dX7_splitOff_9 rfl (lv_at hl 0 rfl) ?_
    refine lv_ifnonnull (tgt := 14) hx hb dX7_splitOff_10 (by decide) ?_
    refine lv_aload_n hx hb dX7_splitOff_14 rfl (lv_at hl 1 rfl) ?_
    refine g_get (ref := "MigrantHeap") (C := RX7) (T := TX7) (N := 11) (ci := 7) K in_X7_splitOff_X7 hw 0 rfl (by decide : 0 < 1) rfl rfl 0 (by decide) (List.mem_of_getElem? (i := 2) rfl) rfl rfl dX7_splitOff_15 ?_
    refine lv_aload_n hx hb dX7_splitOff_18 rfl (lv_at hl 2 rfl) ?_
    refine g_get (ref := "MigrantHeap$Step") (C := RX5) (T := TX5) (N := 6) (ci := 5) K in_X7_splitOff_X5 hw 18 rfl hb_x1 rfl rfl 2 (by decide) (List.mem_of_getElem? (i := 1) rfl) rfl rfl dX7_splitOff_19 ?_
    obtain ⟨h63, hm⟩ := chkS hm
    refine g_aald K hw 1 4 rfl (by decide) rfl rfl h63 dX7_splitOff_22 ?_
    refine g_get (ref := "MigrantHeap$Kind") (C := RX2) (T := TX2) (N := 4) (ci := 2) K in_X7_splitOff_X2 hw 2 rfl (inB_lt h63) rfl rfl 2 (by decide) (List.mem_of_getElem? (i := 3) rfl) rfl rfl dX7_splitOff_23 ?_
    refine lv_astore (lv' := [(4, .ref (ad 3 (2 * (z59.2.1 24 x1 0).toNatClampNeg))), (3, .ref (ad 11 i60)), (0, .ref (ad 0 0)), (1, .ref (ad 18 x1)), (2, .ref (ad 11 x2))]) hx hb dX7_splitOff_26 hl (by decide) rfl (fun ls hl => ?_)
    refine lv_iconst (v := 0) hx hb dX7_splitOff_28 (by decide) ?_
    refine lv_istore (lv' := [(5, .int 0), (4, .ref (ad 3 (2 * (z59.2.1 24 x1 0).toNatClampNeg))), (3, .ref (ad 11 i60)), (0, .ref (ad 0 0)), (1, .ref (ad 18 x1)), (2, .ref (ad 11 x2))]) hx hb dX7_splitOff_29 hl (by decide) rfl (fun ls hl => ?_)
    obtain ⟨z64, hz65, hm⟩ := bindS hm
    refine t_X7_splitOff_L31 K n x1 x2 i60 (2 * (z59.2.1 24 x1 0).toNatClampNeg) hb_x1 hb_x2 h61 (by have := (inB_lt h63); omega : (2 * (z59.2.1 24 x1 0).toNatClampNeg) < 9) z64 (fun w66 hww66 => ?_) ((z59.2, 0)) hz65 H locs hw ls (lv_sub hl [3, 4, 5, 2, 1, 0] rfl)
    · intro H locs hw ls hl 
      try rw [hww66] at hm
      refine lv_aload_n hx hb dX7_splitOff_84 rfl (lv_at hl 0 rfl) ?_
      refine g_get (ref := "MigrantHeap") (C := RX7) (T := TX7) (N := 11) (ci := 7) K in_X7_splitOff_X7 hw 0 rfl (by decide : 0 < 1) rfl rfl 8 (by decide) (List.mem_of_getElem? (i := 5) rfl) rfl rfl dX7_splitOff_85 ?_
      refine lv_aload_n hx hb dX7_splitOff_88 rfl (lv_at hl 2 rfl) ?_
      refine g_get (ref := "MigrantHeap$Entry") (C := RX0) (T := TX0) (N := 6) (ci := 0) K in_X7_splitOff_X0 hw 11 rfl hb_x2 rfl rfl 4 (by decide) (List.mem_of_getElem? (i := 7) rfl) rfl rfl dX7_splitOff_89 ?_
      refine lv_aload_n hx hb dX7_splitOff_92 rfl (lv_at hl 1 rfl) ?_
      refine g_get (ref := "MigrantHeap$Step") (C := RX5) (T := TX5) (N := 6) (ci := 5) K in_X7_splitOff_X5 hw 18 rfl hb_x1 rfl rfl 3 (by decide) (List.mem_of_getElem? (i := 8) rfl) rfl rfl dX7_splitOff_93 ?_
      obtain ⟨z68, hc67, hm⟩ := bindS hm
      refine g_calli (GG := GC cy ad) K hw (va_runV (As := [.ref (ad 12 x2), .int (w66.1 25 x1 0)]) (rest := []) (g_fix K) (c_X4_squeeze_a17 l D cy ad H.size n w66 8 x2 (w66.1 25 x1 0) (by decide : 8 < 9) hb_x2 hc67) (cwV 2 (g_hts K) gX7_splitOff_X4_squeeze rfl rfl rfl (by decide +kernel) ⟨Nat.le_of_ble_eq_true rfl, Nat.le_of_ble_eq_true rfl⟩) ⟨g_blind rides_EV, g_recv K hw 3 rfl (by decide : 8 < 9) rfl rfl, g_pre K hw (g_ride rides_EV K hw)⟩ rfl rfl hl.1 rfl (lv_room (Nat.le_of_ble_eq_true rfl)) dX7_splitOff_96 ⟨Nat.le_of_ble_eq_true rfl, Nat.le_of_ble_eq_true rfl⟩) (fun r u H locs hp hw => ?_)
      obtain ⟨rfl, rfl⟩ : r = z68.1 ∧ u = z68.2 := by rw [hp]; exact ⟨rfl, rfl⟩
      refine lv_istore (lv' := [(5, .int z68.1), (0, .ref (ad 0 0)), (1, .ref (ad 18 x1)), (2, .ref (ad 11 x2)), (3, .ref (ad 11 i60))]) hx hb dX7_splitOff_99 hl (by decide) rfl (fun ls hl => ?_)
      refine lv_aload_n hx hb dX7_splitOff_101 rfl (lv_at hl 3 rfl) ?_
      refine lv_iload hx hb dX7_splitOff_102 (lv_at hl 0 rfl) ?_
      refine lv_aload_n hx hb dX7_splitOff_104 rfl (lv_at hl 4 rfl) ?_
      refine g_get (ref := "MigrantHeap$Entry") (C := RX0) (T := TX0) (N := 6) (ci := 0) K in_X7_splitOff_X0 hw 11 rfl h61 rfl rfl 0 (by decide) (List.mem_of_getElem? (i := 9) rfl) rfl rfl dX7_splitOff_105 ?_
      obtain ⟨z70, hc69, hm⟩ := bindS hm
      refine g_callv (GG := GC cy ad) K hw (va_runV (As := [.int z68.1, .int (z68.2.1 13 i60 0)]) (rest := []) (g_fix K) (c_X0_put l D cy ad H.size n z68.2 x2 z68.1 (z68.2.1 13 i60 0) hb_x2 hc69) (cwV 2 (g_hts K) gX7_splitOff_X0_put rfl rfl rfl (by decide +kernel) ⟨Nat.le_of_ble_eq_true rfl, Nat.le_of_ble_eq_true rfl⟩) ⟨g_blind rides_none, g_recv K hw 11 rfl hb_x2 rfl rfl, g_pre (X2 := fun _ _ => True) K hw (fun _ _ _ => trivial)⟩ rfl rfl hl.1 rfl (lv_room (Nat.le_of_ble_eq_true rfl)) dX7_splitOff_108 ⟨Nat.le_of_ble_eq_true rfl, Nat.le_of_ble_eq_true rfl⟩) (fun u H locs hp hw => ?_)
      obtain rfl := hp
      exact g_vret (GG := GC cy ad) K hw (Option.some.inj hm).symm dX7_splitOff_111
set_option maxRecDepth 100000 in
set_option maxHeartbeats 4000000 in
theorem c_X7_splitOff (l : Launch) (D : va_G) (cy : Nat → ClassId) (ad : Nat → Nat → Nat) (sz n : Nat) (S : CSt) (x1 : Nat) (x2 : Nat) (hb_x1 : x1 < 6) (hb_x2 : x2 < 24) {out : CSt} (hm : m_X7_splitOff n S x1 x2 = some out) : Met l yX7_splitOff wsX7_splitOff rm_X7_splitOff (va_Pc [.ref (ad 0 0), .ref (ad 18 x1), .ref (ad 11 x2)] (Pre D (tysC cy) (GC cy ad S) EV sz)) (va_Qv (fun (u : CSt) => out = u) (fun u => Pst D (tysC cy) (AA (adrs (GC cy ad S)) sz) (GC cy ad u)) (AA (adrs (GC cy ad S)) sz)) 0 0 (AA (adrs (GC cy ad S)) sz) := by
  refine g_met (by decide) rfl (Nat.le_of_ble_eq_true rfl) ?_
  intro p e s m args below meth c K hw ls hl
  exact t_X7_splitOff_0 (cy := cy) K n S x1 x2 hb_x1 hb_x2 hm _ _ hw ls hl
end W_X7_splitOff
section W_X3_layField_a18
variable {p : Program} {l : Launch} {e : Env} {s : State} {m : MethodId} {args : Array Value} {below : List Frame} {meth : Method} {c : Code} {D : va_G} {A : Nat → Prop} {cy : Nat → ClassId} {ad : Nat → Nat → Nat} {Q : State → Prop}
abbrev rm_X3_layField_a18 : Room := { frames := 2, cells := 0, slots := 0, locals := 42 }
set_option maxRecDepth 100000 in
set_option maxHeartbeats 4000000 in
theorem t_X3_layField_a18_0 (K : Cx p s m args meth c D A (tysC cy) RX3 cX3_layField 4 (some .boolean) wsX3_layField (fun _ _ => True)) (n : Nat) (S : CSt) (x1 : Nat) (x2 : Int32) (x3 : Nat) (hb_x1 : x1 < 9) (hb_x3 : x3 < 24) {out : Int32 × CSt} (hm : m_X3_layField_a18 n S x1 x2 x3 = some out) : ∀ (H : Heap) (locs : List Loc), Wd D A s.heap (GC cy ad S) H locs → ∀ ls : Array Slot, lv_has ls 4 [(0, .ref (ad 19 0)), (1, .ref (ad 3 x1)), (2, .int x2), (3, .ref (ad 13 x3))] → W p l e rm_X3_layField_a18 s m args below meth c H locs 0 0 (MQ below (va_Qi (fun r (u : CSt) => out = (r, u)) (fun u => Pst D (tysC cy) A (GC cy ad u)) A) args s 0 0 A) (F0 m 0 ls []) := by
  intro H locs hw ls hl
  obtain ⟨hx, hb, hml, hown, hts, hr, hlo, hK, hA, hX⟩ := id K
  unfold m_X3_layField_a18 at hm
  refine lv_aload_n hx hb dX3_layField_0 rfl (lv_at hl 1 rfl) ?_
  refine lv_iload_n hx hb dX3_layField_1 rfl (lv_at hl 2 rfl) ?_
  obtain ⟨z14, hc13, hm⟩ := bindS hm
  refine g_calli (GG := GC cy ad) K hw (va_runV (As := [.int x2]) (rest := []) (g_fix K) (c_X4_isNumber l D cy ad H.size n S x1 x2 hb_x1 hc13) (cwV 1 (g_hts K) gX3_layField_X4_isNumber rfl rfl rfl (by decide +kernel) ⟨Nat.le_of_ble_eq_true rfl, Nat.le_of_ble_eq_true rfl⟩) ⟨g_blind rides_none, g_recv K hw 3 rfl hb_x1 rfl rfl, g_pre (X2 := fun _ _ => True) K hw (fun _ _ _ => trivial)⟩ rfl rfl hl.1 rfl (lv_room (Nat.le_of_ble_eq_true rfl)) dX3_layField_2 ⟨Nat.le_of_ble_eq_true rfl, Nat.le_of_ble_eq_true rfl⟩) (fun r u H locs hp hw => ?_)
  obtain ⟨rfl, hu⟩ := hp
  rw [hu] at hw
  refine lv_if_ne (tgt := 10) hx hb dX3_layField_5 (by decide) (fun c15 => ?_) (fun c15 => ?_)
  · replace hm := (if_pos c15).symm.trans hm
    refine lv_aload_n hx hb dX3_layField_10 rfl (lv_at hl 3 rfl) ?_
    refine lv_ifnonnull (tgt := 33) hx hb dX3_layField_11 (by decide) ?_
    refine lv_aload_n hx hb dX3_layField_33 rfl (lv_at hl 0 rfl) ?_
    refine lv_aload_n hx hb dX3_layField_34 rfl (lv_at hl 3 rfl) ?_
    refine lv_iload_n hx hb dX3_layField_35 rfl (lv_at hl 2 rfl) ?_
    obtain ⟨h16, hm⟩ := chkS hm
    refine g_iald K hw 13 0 rfl hb_x3 rfl rfl h16 dX3_layField_36 ?_
    refine lv_i2l hx hb dX3_layField_37 rfl ?_
    refine lv_aload_n hx hb dX3_layField_38 rfl (lv_at hl 3 rfl) ?_
    refine lv_iload_n hx hb dX3_layField_39 rfl (lv_at hl 2 rfl) ?_
    obtain ⟨h17, hm⟩ := chkS hm
    refine g_iald K hw 13 0 rfl hb_x3 rfl rfl h17 dX3_layField_40 ?_
    refine lv_i2l hx hb dX3_layField_41 rfl ?_
    obtain ⟨z19, hc18, hm⟩ := bindS hm
    refine g_calli (GG := GC cy ad) K hw (va_runV (As := [.long ((S.1 18 x3 x2.toNatClampNeg).toInt64), .long ((S.1 18 x3 x2.toNatClampNeg).toInt64)]) (rest := []) (g_fix K) (c_X3_lay l D cy ad H.size n S ((S.1 18 x3 x2.toNatClampNeg).toInt64) ((S.1 18 x3 x2.toNatClampNeg).toInt64)  hc18) (cwV 2 (g_hts K) gX3_layField_X3_lay rfl rfl rfl (by decide +kernel) ⟨Nat.le_of_ble_eq_true rfl, Nat.le_of_ble_eq_true rfl⟩) ⟨g_blind rides_none, g_recv K hw 19 rfl (by decide : 0 < 1) rfl rfl, g_pre (X2 := fun _ _ => True) K hw (fun _ _ _ => trivial)⟩ rfl rfl hl.1 rfl (lv_room (Nat.le_of_ble_eq_true rfl)) dX3_layField_42 ⟨Nat.le_of_ble_eq_true rfl, Nat.le_of_ble_eq_true rfl⟩) (fun r u H locs hp hw => ?_)
    obtain ⟨rfl, rfl⟩ : r = z19.1 ∧ u = z19.2 := by rw [hp]; exact ⟨rfl, rfl⟩
    obtain ⟨h20, hm⟩ := chkS hm
    exact g_zret (GG := GC cy ad) K hw h20 (Option.some.inj hm).symm dX3_layField_45
  · replace hm := (if_neg (fun h => h c15)).symm.trans hm
    refine lv_iconst (v := 0) hx hb dX3_layField_8 (by decide) ?_
    exact g_zret (GG := GC cy ad) K hw rfl (Option.some.inj hm).symm dX3_layField_9
set_option maxRecDepth 100000 in
set_option maxHeartbeats 4000000 in
theorem c_X3_layField_a18 (l : Launch) (D : va_G) (cy : Nat → ClassId) (ad : Nat → Nat → Nat) (sz n : Nat) (S : CSt) (x1 : Nat) (x2 : Int32) (x3 : Nat) (hb_x1 : x1 < 9) (hb_x3 : x3 < 24) {out : Int32 × CSt} (hm : m_X3_layField_a18 n S x1 x2 x3 = some out) : Met l yX3_layField wsX3_layField rm_X3_layField_a18 (va_Pc [.ref (ad 19 0), .ref (ad 3 x1), .int x2, .ref (ad 13 x3)] (Pre D (tysC cy) (GC cy ad S) (fun _ _ => True) sz)) (va_Qi (fun r (u : CSt) => out = (r, u)) (fun u => Pst D (tysC cy) (AA (adrs (GC cy ad S)) sz) (GC cy ad u)) (AA (adrs (GC cy ad S)) sz)) 0 0 (AA (adrs (GC cy ad S)) sz) := by
  refine g_met (by decide) rfl (Nat.le_of_ble_eq_true rfl) ?_
  intro p e s m args below meth c K hw ls hl
  exact t_X3_layField_a18_0 (cy := cy) K n S x1 x2 x3 hb_x1 hb_x3 hm _ _ hw ls hl
end W_X3_layField_a18
section W_X3_reckon_a18
variable {p : Program} {l : Launch} {e : Env} {s : State} {m : MethodId} {args : Array Value} {below : List Frame} {meth : Method} {c : Code} {D : va_G} {A : Nat → Prop} {cy : Nat → ClassId} {ad : Nat → Nat → Nat} {Q : State → Prop}
abbrev rm_X3_reckon_a18 : Room := { frames := 3, cells := 0, slots := 0, locals := 82 }
set_option maxRecDepth 100000 in
set_option maxHeartbeats 4000000 in
theorem t_X3_reckon_a18_L11 (K : Cx p s m args meth c D A (tysC cy) RX3 cX3_reckon 7 (some .boolean) wsX3_reckon (fun _ _ => True)) (n : Nat) (x1 : Nat) (x2 : Nat) (x3 : Nat) (hb_x1 : x1 < 7) (hb_x2 : x2 < 9) (hb_x3 : x3 < 24) (z : (CSt × Int32)) (hE0 : ∀ w : (CSt × Int32), z = w → ∀ (H : Heap) (locs : List Loc), Wd D A s.heap (GC cy ad w.1) H locs → ∀ ls : Array Slot, lv_has ls 7 [(0, .ref (ad 19 0)), (4, .int w.2)] → W p l e rm_X3_reckon_a18 s m args below meth c H locs 0 0 Q (F0 m 116 ls [])) : ∀ (x : (CSt × Int32 × Int32)), lpO (b_X3_reckon_a18_11 n x1 x2 x3) n x = some z → (fun (x : (CSt × Int32 × Int32)) => ∀ (H : Heap) (locs : List Loc), Wd D A s.heap (GC cy ad x.1) H locs → ∀ ls : Array Slot, lv_has ls 7 [(0, .ref (ad 19 0)), (1, .ref (ad 15 x1)), (2, .ref (ad 3 x2)), (3, .ref (ad 13 x3)), (4, .int x.2.1), (5, .int x.2.2)] → W p l e rm_X3_reckon_a18 s m args below meth c H locs 0 0 Q (F0 m 11 ls [])) x := by
  intro x hx0
  refine lpO_ind2 (P := fun (x : (CSt × Int32 × Int32)) => ∀ (H : Heap) (locs : List Loc), Wd D A s.heap (GC cy ad x.1) H locs → ∀ ls : Array Slot, lv_has ls 7 [(0, .ref (ad 19 0)), (1, .ref (ad 15 x1)), (2, .ref (ad 3 x2)), (3, .ref (ad 13 x3)), (4, .int x.2.1), (5, .int x.2.2)] → W p l e rm_X3_reckon_a18 s m args below meth c H locs 0 0 Q (F0 m 11 ls [])) (z := z) ?_ n x hx0
  clear hx0 x
  intro x out hm hg H locs hw ls hl 
  obtain ⟨hx, hb, hml, hown, hts, hr, hlo, hK, hA, hX⟩ := id K
  unfold b_X3_reckon_a18_11 at hm
  refine lv_iload hx hb dX3_reckon_11 (lv_at hl 5 rfl) ?_
  refine lv_aload_n hx hb dX3_reckon_13 rfl (lv_at hl 1 rfl) ?_
  refine g_get (ref := "MigrantHeap$Formula") (C := RX1) (T := TX1) (N := 2) (ci := 1) K in_X3_reckon_X1 hw 15 rfl hb_x1 rfl rfl 0 (by decide) (List.mem_of_getElem? (i := 2) rfl) rfl rfl dX3_reckon_14 ?_
  refine lv_icmp_ge (tgt := 116) hx hb dX3_reckon_17 (by decide) (fun c49 => ?_) (fun c49 => ?_)
  · replace hm := (if_pos c49).symm.trans hm
    obtain rfl := Option.some.inj hm
    exact hE0 _ hg.symm H locs hw ls (lv_sub hl [0, 4] rfl)
  · replace hm := (if_neg c49).symm.trans hm
    refine lv_iload hx hb dX3_reckon_20 (lv_at hl 4 rfl) ?_
    refine lv_if_eq (tgt := 116) hx hb dX3_reckon_22 (by decide) (fun c50 => ?_) (fun c50 => ?_)
    · replace hm := (if_pos c50).symm.trans hm
      obtain rfl := Option.some.inj hm
      exact hE0 _ hg.symm H locs hw ls (lv_sub hl [0, 4] rfl)
    · replace hm := (if_neg c50).symm.trans hm
      refine lv_aload_n hx hb dX3_reckon_25 rfl (lv_at hl 1 rfl) ?_
      refine g_get (ref := "MigrantHeap$Formula") (C := RX1) (T := TX1) (N := 2) (ci := 1) K in_X3_reckon_X1 hw 15 rfl hb_x1 rfl rfl 1 (by decide) (List.mem_of_getElem? (i := 3) rfl) rfl rfl dX3_reckon_26 ?_
      refine lv_iload hx hb dX3_reckon_29 (lv_at hl 5 rfl) ?_
      obtain ⟨h51, hm⟩ := chkS hm
      refine g_iald K hw 16 0 rfl hb_x1 rfl rfl h51 dX3_reckon_31 ?_
      obtain ⟨x52, hx52, hm⟩ := nm_ex hm
      refine W.eq (g2 := F0 m 32 ls (.int x52 :: [])) (by rw [hx52]) ?_
      refine lv_istore (lv' := [(6, .int x52), (0, .ref (ad 19 0)), (1, .ref (ad 15 x1)), (2, .ref (ad 3 x2)), (3, .ref (ad 13 x3)), (4, .int x.2.1), (5, .int x.2.2)]) hx hb dX3_reckon_32 hl (by decide) rfl (fun ls hl => ?_)
      refine lv_iload hx hb dX3_reckon_34 (lv_at hl 0 rfl) ?_
      refine lv_bipush (v := 10) hx hb dX3_reckon_36 (by decide) ?_
      refine lv_icmp_ge (tgt := 58) hx hb dX3_reckon_38 (by decide) (fun c53 => ?_) (fun c53 => ?_)
      · replace hm := (if_pos c53).symm.trans hm
        refine lv_iload hx hb dX3_reckon_58 (lv_at hl 0 rfl) ?_
        refine lv_bipush (v := 100) hx hb dX3_reckon_60 (by decide) ?_
        refine lv_icmp_lt (tgt := 88) hx hb dX3_reckon_62 (by decide) (fun c54 => ?_) (fun c54 => ?_)
        · replace hm := (if_pos c54).symm.trans hm
          refine lv_iload hx hb dX3_reckon_88 (lv_at hl 0 rfl) ?_
          refine lv_bipush (v := 16) hx hb dX3_reckon_90 (by decide) ?_
          refine lv_icmp_ne (tgt := 102) hx hb dX3_reckon_92 (by decide) (fun c55 => ?_) (fun c55 => ?_)
          · replace hm := (if_pos c55).symm.trans hm
            refine lv_aload_n hx hb dX3_reckon_102 rfl (lv_at hl 1 rfl) ?_
            refine lv_iload hx hb dX3_reckon_103 (lv_at hl 0 rfl) ?_
            obtain ⟨z57, hc56, hm⟩ := bindS hm
            refine g_calli (GG := GC cy ad) K hw (va_runV (As := [.int x52]) (rest := []) (g_fix K) (c_X3_combine l D cy ad H.size n x.1 x52  hc56) (cwV 1 (g_hts K) gX3_reckon_X3_combine rfl rfl rfl (by decide +kernel) ⟨Nat.le_of_ble_eq_true rfl, Nat.le_of_ble_eq_true rfl⟩) ⟨g_blind rides_none, g_recv K hw 19 rfl (by decide : 0 < 1) rfl rfl, g_pre (X2 := fun _ _ => True) K hw (fun _ _ _ => trivial)⟩ rfl rfl hl.1 rfl (lv_room (Nat.le_of_ble_eq_true rfl)) dX3_reckon_105 ⟨Nat.le_of_ble_eq_true rfl, Nat.le_of_ble_eq_true rfl⟩) (fun r u H locs hp hw => ?_)
            obtain ⟨rfl, rfl⟩ : r = z57.1 ∧ u = z57.2 := by rw [hp]; exact ⟨rfl, rfl⟩
            refine lv_istore (lv' := [(4, .int z57.1), (6, .int x52), (0, .ref (ad 19 0)), (1, .ref (ad 15 x1)), (2, .ref (ad 3 x2)), (3, .ref (ad 13 x3)), (5, .int x.2.2)]) hx hb dX3_reckon_108 hl (by decide) rfl (fun ls hl => ?_)
            obtain ⟨x58, hx58, hm⟩ := nm_ex hm
            refine lv_iinc (v := x58) (lv' := [(5, .int x58), (4, .int z57.1), (6, .int x52), (0, .ref (ad 19 0)), (1, .ref (ad 15 x1)), (2, .ref (ad 3 x2)), (3, .ref (ad 13 x3))]) hx hb dX3_reckon_110 hl (k := 6) rfl (by rw [hx58]; rfl) (by decide) rfl (fun ls hl => ?_)
            refine lv_goto (tgt := 11) hx hb dX3_reckon_113 (by decide) ?_
            obtain rfl := Option.some.inj hm
            exact hg H locs hw ls (lv_sub hl [3, 4, 5, 6, 1, 0] rfl)
          · replace hm := (if_neg (fun h => h c55)).symm.trans hm
            refine lv_aload_n hx hb dX3_reckon_95 rfl (lv_at hl 1 rfl) ?_
            obtain ⟨z60, hc59, hm⟩ := bindS hm
            refine g_calli (GG := GC cy ad) K hw (va_runV (As := []) (rest := []) (g_fix K) (c_X3_negate l D cy ad H.size n x.1   hc59) (cwV 0 (g_hts K) gX3_reckon_X3_negate rfl rfl rfl (by decide +kernel) ⟨Nat.le_of_ble_eq_true rfl, Nat.le_of_ble_eq_true rfl⟩) ⟨g_blind rides_none, g_recv K hw 19 rfl (by decide : 0 < 1) rfl rfl, g_pre (X2 := fun _ _ => True) K hw (fun _ _ _ => trivial)⟩ rfl rfl hl.1 rfl (lv_room (Nat.le_of_ble_eq_true rfl)) dX3_reckon_96 ⟨Nat.le_of_ble_eq_true rfl, Nat.le_of_ble_eq_true rfl⟩) (fun r u H locs hp hw => ?_)
            obtain ⟨rfl, rfl⟩ : r = z60.1 ∧ u = z60.2 := by rw [hp]; exact ⟨rfl, rfl⟩
            refine lv_goto (tgt := 108) hx hb dX3_reckon_99 (by decide) ?_
            refine lv_istore (lv' := [(4, .int z60.1), (6, .int x52), (0, .ref (ad 19 0)), (1, .ref (ad 15 x1)), (2, .ref (ad 3 x2)), (3, .ref (ad 13 x3)), (5, .int x.2.2)]) hx hb dX3_reckon_108 hl (by decide) rfl (fun ls hl => ?_)
            obtain ⟨x61, hx61, hm⟩ := nm_ex hm
            refine lv_iinc (v := x61) (lv' := [(5, .int x61), (4, .int z60.1), (6, .int x52), (0, .ref (ad 19 0)), (1, .ref (ad 15 x1)), (2, .ref (ad 3 x2)), (3, .ref (ad 13 x3))]) hx hb dX3_reckon_110 hl (k := 6) rfl (by rw [hx61]; rfl) (by decide) rfl (fun ls hl => ?_)
            refine lv_goto (tgt := 11) hx hb dX3_reckon_113 (by decide) ?_
            obtain rfl := Option.some.inj hm
            exact hg H locs hw ls (lv_sub hl [3, 4, 5, 6, 1, 0] rfl)
        · replace hm := (if_neg c54).symm.trans hm
          refine lv_aload_n hx hb dX3_reckon_65 rfl (lv_at hl 1 rfl) ?_
          refine lv_iload hx hb dX3_reckon_66 (lv_at hl 0 rfl) ?_
          refine lv_sipush (v := 200) hx hb dX3_reckon_68 (by decide) ?_
          refine lv_isub hx hb dX3_reckon_71 ?_
          refine lv_i2l hx hb dX3_reckon_72 rfl ?_
          refine lv_iload hx hb dX3_reckon_73 (lv_at hl 0 rfl) ?_
          refine lv_sipush (v := 200) hx hb dX3_reckon_75 (by decide) ?_
          refine lv_isub hx hb dX3_reckon_78 ?_
          refine lv_i2l hx hb dX3_reckon_79 rfl ?_
          obtain ⟨z63, hc62, hm⟩ := bindS hm
          refine g_calli (GG := GC cy ad) K hw (va_runV (As := [.long ((x52 - 200).toInt64), .long ((x52 - 200).toInt64)]) (rest := []) (g_fix K) (c_X3_lay l D cy ad H.size n x.1 ((x52 - 200).toInt64) ((x52 - 200).toInt64)  hc62) (cwV 2 (g_hts K) gX3_reckon_X3_lay rfl rfl rfl (by decide +kernel) ⟨Nat.le_of_ble_eq_true rfl, Nat.le_of_ble_eq_true rfl⟩) ⟨g_blind rides_none, g_recv K hw 19 rfl (by decide : 0 < 1) rfl rfl, g_pre (X2 := fun _ _ => True) K hw (fun _ _ _ => trivial)⟩ rfl rfl hl.1 rfl (lv_room (Nat.le_of_ble_eq_true rfl)) dX3_reckon_80 ⟨Nat.le_of_ble_eq_true rfl, Nat.le_of_ble_eq_true rfl⟩) (fun r u H locs hp hw => ?_)
          obtain ⟨rfl, rfl⟩ : r = z63.1 ∧ u = z63.2 := by rw [hp]; exact ⟨rfl, rfl⟩
          refine lv_istore (lv' := [(4, .int z63.1), (6, .int x52), (0, .ref (ad 19 0)), (1, .ref (ad 15 x1)), (2, .ref (ad 3 x2)), (3, .ref (ad 13 x3)), (5, .int x.2.2)]) hx hb dX3_reckon_83 hl (by decide) rfl (fun ls hl => ?_)
          refine lv_goto (tgt := 110) hx hb dX3_reckon_85 (by decide) ?_
          obtain ⟨x64, hx64, hm⟩ := nm_ex hm
          refine lv_iinc (v := x64) (lv' := [(5, .int x64), (4, .int z63.1), (6, .int x52), (0, .ref (ad 19 0)), (1, .ref (ad 15 x1)), (2, .ref (ad 3 x2)), (3, .ref (ad 13 x3))]) hx hb dX3_reckon_110 hl (k := 6) rfl (by rw [hx64]; rfl) (by decide) rfl (fun ls hl => ?_)
          refine lv_goto (tgt := 11) hx hb dX3_reckon_113 (by decide) ?_
          obtain rfl := Option.some.inj hm
          exact hg H locs hw ls (lv_sub hl [3, 4, 5, 6, 1, 0] rfl)
      · replace hm := (if_neg c53).symm.trans hm
        refine lv_aload_n hx hb dX3_reckon_41 rfl (lv_at hl 1 rfl) ?_
        refine lv_aload_n hx hb dX3_reckon_42 rfl (lv_at hl 3 rfl) ?_
        refine lv_aload_n hx hb dX3_reckon_43 rfl (lv_at hl 3 rfl) ?_
        refine lv_iload hx hb dX3_reckon_44 (lv_at hl 0 rfl) ?_
        obtain ⟨z66, hc65, hm⟩ := bindS hm
        refine g_calli (GG := GC cy ad) K hw (va_runV (As := [.int x52]) (rest := [.ref (ad 3 x2), .ref (ad 19 0)]) (g_fix K) (c_X4_placeOf l D cy ad H.size n x.1 x2 x52 hb_x2 hc65) (cwV 1 (g_hts K) gX3_reckon_X4_placeOf rfl rfl rfl (by decide +kernel) ⟨Nat.le_of_ble_eq_true rfl, Nat.le_of_ble_eq_true rfl⟩) ⟨g_blind rides_none, g_recv K hw 3 rfl hb_x2 rfl rfl, g_pre (X2 := fun _ _ => True) K hw (fun _ _ _ => trivial)⟩ rfl rfl hl.1 rfl (lv_room (Nat.le_of_ble_eq_true rfl)) dX3_reckon_46 ⟨Nat.le_of_ble_eq_true rfl, Nat.le_of_ble_eq_true rfl⟩) (fun r u H locs hp hw => ?_)
        obtain ⟨rfl, hu⟩ := hp
        rw [hu] at hw
        refine lv_aload_n hx hb dX3_reckon_49 rfl (lv_at hl 4 rfl) ?_
        obtain ⟨z68, hc67, hm⟩ := bindS hm
        refine g_calli (GG := GC cy ad) K hw (va_runV (As := [.ref (ad 3 x2), .int z66, .ref (ad 13 x3)]) (rest := []) (g_fix K) (c_X3_layField_a18 l D cy ad H.size n x.1 x2 z66 x3 hb_x2 hb_x3 hc67) (cwV 3 (g_hts K) gX3_reckon_X3_layField rfl rfl rfl (by decide +kernel) ⟨Nat.le_of_ble_eq_true rfl, Nat.le_of_ble_eq_true rfl⟩) ⟨g_blind rides_none, g_recv K hw 19 rfl (by decide : 0 < 1) rfl rfl, g_pre (X2 := fun _ _ => True) K hw (fun _ _ _ => trivial)⟩ rfl rfl hl.1 rfl (lv_room (Nat.le_of_ble_eq_true rfl)) dX3_reckon_50 ⟨Nat.le_of_ble_eq_true rfl, Nat.le_of_ble_eq_true rfl⟩) (fun r u H locs hp hw => ?_)
        obtain ⟨rfl, rfl⟩ : r = z68.1 ∧ u = z68.2 := by rw [hp]; exact ⟨rfl, rfl⟩
        refine lv_istore (lv' := [(4, .int z68.1), (6, .int x52), (0, .ref (ad 19 0)), (1, .ref (ad 15 x1)), (2, .ref (ad 3 x2)), (3, .ref (ad 13 x3)), (5, .int x.2.2)]) hx hb dX3_reckon_53 hl (by decide) rfl (fun ls hl => ?_)
        refine lv_goto (tgt := 110) hx hb dX3_reckon_55 (by decide) ?_
        obtain ⟨x69, hx69, hm⟩ := nm_ex hm
        refine lv_iinc (v := x69) (lv' := [(5, .int x69), (4, .int z68.1), (6, .int x52), (0, .ref (ad 19 0)), (1, .ref (ad 15 x1)), (2, .ref (ad 3 x2)), (3, .ref (ad 13 x3))]) hx hb dX3_reckon_110 hl (k := 6) rfl (by rw [hx69]; rfl) (by decide) rfl (fun ls hl => ?_)
        refine lv_goto (tgt := 11) hx hb dX3_reckon_113 (by decide) ?_
        obtain rfl := Option.some.inj hm
        exact hg H locs hw ls (lv_sub hl [3, 4, 5, 6, 1, 0] rfl)
set_option maxRecDepth 100000 in
set_option maxHeartbeats 4000000 in
theorem t_X3_reckon_a18_0 (K : Cx p s m args meth c D A (tysC cy) RX3 cX3_reckon 7 (some .boolean) wsX3_reckon (fun _ _ => True)) (n : Nat) (S : CSt) (x1 : Nat) (x2 : Nat) (x3 : Nat) (hb_x1 : x1 < 7) (hb_x2 : x2 < 9) (hb_x3 : x3 < 24) {out : Int32 × CSt} (hm : m_X3_reckon_a18 n S x1 x2 x3 = some out) : ∀ (H : Heap) (locs : List Loc), Wd D A s.heap (GC cy ad S) H locs → ∀ ls : Array Slot, lv_has ls 7 [(0, .ref (ad 19 0)), (1, .ref (ad 15 x1)), (2, .ref (ad 3 x2)), (3, .ref (ad 13 x3))] → W p l e rm_X3_reckon_a18 s m args below meth c H locs 0 0 (MQ below (va_Qi (fun r (u : CSt) => out = (r, u)) (fun u => Pst D (tysC cy) A (GC cy ad u)) A) args s 0 0 A) (F0 m 0 ls []) := by
  intro H locs hw ls hl
  obtain ⟨hx, hb, hml, hown, hts, hr, hlo, hK, hA, hX⟩ := id K
  unfold m_X3_reckon_a18 at hm
  refine lv_aload_n hx hb dX3_reckon_0 rfl (lv_at hl 0 rfl) ?_
  refine lv_iconst (v := 0) hx hb dX3_reckon_1 (by decide) ?_
  refine g_put (v := .int 0) (ty := .int) (ref := "MigrantHeap$Pile") (C := RX3) (T := TX3) (N := 3) (ci := 3) K in_X3_reckon_X3 tyX3 tyX3_ok nmX3 hw 19 rfl (by decide : 0 < 1) rfl rfl 0 (by decide) (List.mem_of_getElem? (i := 1) rfl) rfl rfl (by decide +kernel) rfl rfl (Nat.le_of_ble_eq_true rfl) dX3_reckon_2 (eC_27 cy ad S 0 0) (fun H locs hw => ?_)
  obtain ⟨S70, hS70, hm⟩ := nm_ex hm
  rw [← hS70] at hw
  refine lv_iconst (v := 1) hx hb dX3_reckon_5 (by decide) ?_
  refine lv_istore (lv' := [(4, .int 1), (0, .ref (ad 19 0)), (1, .ref (ad 15 x1)), (2, .ref (ad 3 x2)), (3, .ref (ad 13 x3))]) hx hb dX3_reckon_6 hl (by decide) rfl (fun ls hl => ?_)
  refine lv_iconst (v := 0) hx hb dX3_reckon_8 (by decide) ?_
  refine lv_istore (lv' := [(5, .int 0), (4, .int 1), (0, .ref (ad 19 0)), (1, .ref (ad 15 x1)), (2, .ref (ad 3 x2)), (3, .ref (ad 13 x3))]) hx hb dX3_reckon_9 hl (by decide) rfl (fun ls hl => ?_)
  obtain ⟨z71, hz72, hm⟩ := bindS hm
  refine t_X3_reckon_a18_L11 K n x1 x2 x3 hb_x1 hb_x2 hb_x3 z71 (fun w73 hww73 => ?_) ((S70, 1, 0)) hz72 H locs hw ls (lv_sub hl [2, 3, 4, 5, 1, 0] rfl)
  · intro H locs hw ls hl 
    try rw [hww73] at hm
    refine lv_iload hx hb dX3_reckon_116 (lv_at hl 1 rfl) ?_
    refine lv_if_eq (tgt := 133) hx hb dX3_reckon_118 (by decide) (fun c74 => ?_) (fun c74 => ?_)
    · replace hm := (if_pos c74).symm.trans hm
      refine lv_iconst (v := 0) hx hb dX3_reckon_133 (by decide) ?_
      exact g_zret (GG := GC cy ad) K hw rfl (Option.some.inj hm).symm dX3_reckon_134
    · replace hm := (if_neg c74).symm.trans hm
      refine lv_aload_n hx hb dX3_reckon_121 rfl (lv_at hl 0 rfl) ?_
      refine g_get (ref := "MigrantHeap$Pile") (C := RX3) (T := TX3) (N := 3) (ci := 3) K in_X3_reckon_X3 hw 19 rfl (by decide : 0 < 1) rfl rfl 0 (by decide) (List.mem_of_getElem? (i := 1) rfl) rfl rfl dX3_reckon_122 ?_
      refine lv_iconst (v := 1) hx hb dX3_reckon_125 (by decide) ?_
      refine lv_icmp_ne (tgt := 133) hx hb dX3_reckon_126 (by decide) (fun c75 => ?_) (fun c75 => ?_)
      · replace hm := (if_pos c75).symm.trans hm
        refine lv_iconst (v := 0) hx hb dX3_reckon_133 (by decide) ?_
        exact g_zret (GG := GC cy ad) K hw rfl (Option.some.inj hm).symm dX3_reckon_134
      · replace hm := (if_neg (fun h => h c75)).symm.trans hm
        refine lv_iconst (v := 1) hx hb dX3_reckon_129 (by decide) ?_
        refine lv_goto (tgt := 134) hx hb dX3_reckon_130 (by decide) ?_
        exact g_zret (GG := GC cy ad) K hw rfl (Option.some.inj hm).symm dX3_reckon_134
set_option maxRecDepth 100000 in
set_option maxHeartbeats 4000000 in
theorem c_X3_reckon_a18 (l : Launch) (D : va_G) (cy : Nat → ClassId) (ad : Nat → Nat → Nat) (sz n : Nat) (S : CSt) (x1 : Nat) (x2 : Nat) (x3 : Nat) (hb_x1 : x1 < 7) (hb_x2 : x2 < 9) (hb_x3 : x3 < 24) {out : Int32 × CSt} (hm : m_X3_reckon_a18 n S x1 x2 x3 = some out) : Met l yX3_reckon wsX3_reckon rm_X3_reckon_a18 (va_Pc [.ref (ad 19 0), .ref (ad 15 x1), .ref (ad 3 x2), .ref (ad 13 x3)] (Pre D (tysC cy) (GC cy ad S) (fun _ _ => True) sz)) (va_Qi (fun r (u : CSt) => out = (r, u)) (fun u => Pst D (tysC cy) (AA (adrs (GC cy ad S)) sz) (GC cy ad u)) (AA (adrs (GC cy ad S)) sz)) 0 0 (AA (adrs (GC cy ad S)) sz) := by
  refine g_met (by decide) rfl (Nat.le_of_ble_eq_true rfl) ?_
  intro p e s m args below meth c K hw ls hl
  exact t_X3_reckon_a18_0 (cy := cy) K n S x1 x2 x3 hb_x1 hb_x2 hb_x3 hm _ _ hw ls hl
end W_X3_reckon_a18
