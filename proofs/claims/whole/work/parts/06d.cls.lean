section W_X7_familySize_d3
variable {p : Program} {l : Launch} {e : Env} {s : State} {m : MethodId} {args : Array Value} {below : List Frame} {meth : Method} {c : Code} {D : va_G} {A : Nat → Prop} {cy : Nat → ClassId} {ad : Nat → Nat → Nat} {Q : State → Prop}
abbrev rm_X7_familySize_d3 : Room := { frames := 3, cells := 0, slots := 0, locals := 67 }
set_option maxRecDepth 100000 in
set_option maxHeartbeats 4000000 in
theorem t_X7_familySize_d3_L23 (K : Cx p s m args meth c D A (tysC cy) RX7 cX7_familySize 6 (some .int) wsX7_familySize (fun _ _ => True)) (n : Nat) (S : CSt) (x2 : Int32) (x3 : Nat) (hb_x3 : x3 < 9) (z : Int32) (hE0 : ∀ w : Int32, z = w → ∀ (H : Heap) (locs : List Loc), Wd D A s.heap (GC cy ad S) H locs → ∀ ls : Array Slot, lv_has ls 6 [(4, .int w)] → W p l e rm_X7_familySize_d3 s m args below meth c H locs 0 0 Q (F0 m 66 ls [])) : ∀ (x : (Int32 × Int32)), lpO (b_X7_familySize_d3_23 n S x2 x3) n x = some z → (fun (x : (Int32 × Int32)) => ∀ (H : Heap) (locs : List Loc), Wd D A s.heap (GC cy ad S) H locs → ∀ ls : Array Slot, lv_has ls 6 [(0, .ref (ad 0 0)), (2, .int x2), (3, .ref (ad 3 x3)), (4, .int x.1), (5, .int x.2)] → W p l e rm_X7_familySize_d3 s m args below meth c H locs 0 0 Q (F0 m 23 ls [])) x := by
  intro x hx0
  refine lpO_ind2 (P := fun (x : (Int32 × Int32)) => ∀ (H : Heap) (locs : List Loc), Wd D A s.heap (GC cy ad S) H locs → ∀ ls : Array Slot, lv_has ls 6 [(0, .ref (ad 0 0)), (2, .int x2), (3, .ref (ad 3 x3)), (4, .int x.1), (5, .int x.2)] → W p l e rm_X7_familySize_d3 s m args below meth c H locs 0 0 Q (F0 m 23 ls [])) (z := z) ?_ n x hx0
  clear hx0 x
  intro x out hm hg H locs hw ls hl 
  obtain ⟨hx, hb, hml, hown, hts, hr, hlo, hK, hA, hX⟩ := id K
  unfold b_X7_familySize_d3_23 at hm
  refine lv_iload hx hb dX7_familySize_23 (lv_at hl 4 rfl) ?_
  refine lv_aload_n hx hb dX7_familySize_25 rfl (lv_at hl 2 rfl) ?_
  refine g_get (ref := "MigrantHeap$Shape") (C := RX4) (T := TX4) (N := 6) (ci := 4) K in_X7_familySize_X4 hw 3 rfl hb_x3 rfl rfl 0 (by decide) (List.mem_of_getElem? (i := 3) rfl) rfl rfl dX7_familySize_26 ?_
  refine lv_icmp_ge (tgt := 66) hx hb dX7_familySize_29 (by decide) (fun c27 => ?_) (fun c27 => ?_)
  · replace hm := (if_pos c27).symm.trans hm
    obtain rfl := Option.some.inj hm
    exact hE0 _ hg.symm H locs hw ls (lv_sub hl [3] rfl)
  · replace hm := (if_neg c27).symm.trans hm
    refine lv_aload_n hx hb dX7_familySize_32 rfl (lv_at hl 2 rfl) ?_
    refine lv_iload hx hb dX7_familySize_33 (lv_at hl 4 rfl) ?_
    obtain ⟨z29, hc28, hm⟩ := bindS hm
    refine g_calli (GG := GC cy ad) K hw (va_runV (As := [.int x.2]) (rest := []) (g_fix K) (c_X4_isOwning l D cy ad H.size n S x3 x.2 hb_x3 hc28) (cwV 1 (g_hts K) gX7_familySize_X4_isOwning rfl rfl rfl (by decide +kernel) ⟨Nat.le_of_ble_eq_true rfl, Nat.le_of_ble_eq_true rfl⟩) ⟨g_blind rides_none, g_recv K hw 3 rfl hb_x3 rfl rfl, g_pre (X2 := fun _ _ => True) K hw (fun _ _ _ => trivial)⟩ rfl rfl hl.1 rfl (lv_room (Nat.le_of_ble_eq_true rfl)) dX7_familySize_35 ⟨Nat.le_of_ble_eq_true rfl, Nat.le_of_ble_eq_true rfl⟩) (fun r u H locs hp hw => ?_)
    obtain ⟨rfl, hu⟩ := hp
    rw [hu] at hw
    refine lv_if_eq (tgt := 60) hx hb dX7_familySize_38 (by decide) (fun c30 => ?_) (fun c30 => ?_)
    · replace hm := (if_pos c30).symm.trans hm
      obtain ⟨x31, hx31, hm⟩ := nm_ex hm
      refine lv_iinc (v := x31) (lv' := [(5, .int x31), (0, .ref (ad 0 0)), (2, .int x2), (3, .ref (ad 3 x3)), (4, .int x.1)]) hx hb dX7_familySize_60 hl (k := 4) rfl (by rw [hx31]; rfl) (by decide) rfl (fun ls hl => ?_)
      refine lv_goto (tgt := 23) hx hb dX7_familySize_63 (by decide) ?_
      obtain rfl := Option.some.inj hm
      exact hg H locs hw ls (lv_sub hl [1, 2, 3, 4, 0] rfl)
    · replace hm := (if_neg c30).symm.trans hm
      refine lv_iload hx hb dX7_familySize_41 (lv_at hl 3 rfl) ?_
      refine lv_aload_n hx hb dX7_familySize_43 rfl (lv_at hl 0 rfl) ?_
      refine lv_aload_n hx hb dX7_familySize_44 rfl (lv_at hl 2 rfl) ?_
      refine g_get (ref := "MigrantHeap$Shape") (C := RX4) (T := TX4) (N := 6) (ci := 4) K in_X7_familySize_X4 hw 3 rfl hb_x3 rfl rfl 3 (by decide) (List.mem_of_getElem? (i := 4) rfl) rfl rfl dX7_familySize_45 ?_
      refine lv_iload hx hb dX7_familySize_48 (lv_at hl 4 rfl) ?_
      obtain ⟨h32, hm⟩ := chkS hm
      refine g_iald K hw 6 0 rfl hb_x3 rfl rfl h32 dX7_familySize_50 ?_
      refine lv_iload_n hx hb dX7_familySize_51 rfl (lv_at hl 1 rfl) ?_
      refine lv_iconst (v := 1) hx hb dX7_familySize_52 (by decide) ?_
      refine lv_iadd hx hb dX7_familySize_53 ?_
      obtain ⟨z34, hc33, hm⟩ := bindS hm
      refine g_calli (GG := GC cy ad) K hw (va_runV (As := [.int (S.1 8 x3 x.2.toNatClampNeg), .int (x2 + 1)]) (rest := [.int x.1]) (g_fix K) (c_X7_familySize_d4 l D cy ad H.size n S (S.1 8 x3 x.2.toNatClampNeg) (x2 + 1)  hc33) (cwV 2 (g_hts K) gX7_familySize_X7_familySize rfl rfl rfl (by decide +kernel) ⟨Nat.le_of_ble_eq_true rfl, Nat.le_of_ble_eq_true rfl⟩) ⟨g_blind rides_none, g_recv K hw 0 rfl (by decide : 0 < 1) rfl rfl, g_pre (X2 := fun _ _ => True) K hw (fun _ _ _ => trivial)⟩ rfl rfl hl.1 rfl (lv_room (Nat.le_of_ble_eq_true rfl)) dX7_familySize_54 ⟨Nat.le_of_ble_eq_true rfl, Nat.le_of_ble_eq_true rfl⟩) (fun r u H locs hp hw => ?_)
      obtain ⟨rfl, hu⟩ := hp
      rw [hu] at hw
      refine lv_iadd hx hb dX7_familySize_57 ?_
      obtain ⟨x35, hx35, hm⟩ := nm_ex hm
      refine W.eq (g2 := F0 m 58 ls (.int x35 :: [])) (by rw [hx35]) ?_
      refine lv_istore (lv' := [(4, .int x35), (0, .ref (ad 0 0)), (2, .int x2), (3, .ref (ad 3 x3)), (5, .int x.2)]) hx hb dX7_familySize_58 hl (by decide) rfl (fun ls hl => ?_)
      obtain ⟨x36, hx36, hm⟩ := nm_ex hm
      refine lv_iinc (v := x36) (lv' := [(5, .int x36), (4, .int x35), (0, .ref (ad 0 0)), (2, .int x2), (3, .ref (ad 3 x3))]) hx hb dX7_familySize_60 hl (k := 4) rfl (by rw [hx36]; rfl) (by decide) rfl (fun ls hl => ?_)
      refine lv_goto (tgt := 23) hx hb dX7_familySize_63 (by decide) ?_
      obtain rfl := Option.some.inj hm
      exact hg H locs hw ls (lv_sub hl [2, 3, 4, 1, 0] rfl)
set_option maxRecDepth 100000 in
set_option maxHeartbeats 4000000 in
theorem t_X7_familySize_d3_0 (K : Cx p s m args meth c D A (tysC cy) RX7 cX7_familySize 6 (some .int) wsX7_familySize (fun _ _ => True)) (n : Nat) (S : CSt) (x1 : Int32) (x2 : Int32)  {out : Int32} (hm : m_X7_familySize_d3 n S x1 x2 = some out) : ∀ (H : Heap) (locs : List Loc), Wd D A s.heap (GC cy ad S) H locs → ∀ ls : Array Slot, lv_has ls 6 [(0, .ref (ad 0 0)), (1, .int x1), (2, .int x2)] → W p l e rm_X7_familySize_d3 s m args below meth c H locs 0 0 (MQ below (va_Qi (fun r (u : CSt) => out = r ∧ u = S) (fun u => Pst D (tysC cy) A (GC cy ad u)) A) args s 0 0 A) (F0 m 0 ls []) := by
  intro H locs hw ls hl
  obtain ⟨hx, hb, hml, hown, hts, hr, hlo, hK, hA, hX⟩ := id K
  unfold m_X7_familySize_d3 at hm
  refine lv_iload_n hx hb dX7_familySize_0 rfl (lv_at hl 2 rfl) ?_
  refine lv_iconst (v := 4) hx hb dX7_familySize_1 (by decide) ?_
  refine lv_icmp_lt (tgt := 7) hx hb dX7_familySize_2 (by decide) (fun c37 => ?_) (fun c37 => ?_)
  · replace hm := (if_pos c37).symm.trans hm
    refine lv_aload_n hx hb dX7_familySize_7 rfl (lv_at hl 0 rfl) ?_
    refine g_get (ref := "MigrantHeap") (C := RX7) (T := TX7) (N := 11) (ci := 7) K in_X7_familySize_X7 hw 0 rfl (by decide : 0 < 1) rfl rfl 0 (by decide) (List.mem_of_getElem? (i := 1) rfl) rfl rfl dX7_familySize_8 ?_
    refine lv_iload_n hx hb dX7_familySize_11 rfl (lv_at hl 1 rfl) ?_
    obtain ⟨h38, hm⟩ := chkS hm
    refine g_aald K hw 1 4 rfl (by decide) rfl rfl h38 dX7_familySize_12 ?_
    refine g_get (ref := "MigrantHeap$Kind") (C := RX2) (T := TX2) (N := 4) (ci := 2) K in_X7_familySize_X2 hw 2 rfl (inB_lt h38) rfl rfl 2 (by decide) (List.mem_of_getElem? (i := 2) rfl) rfl rfl dX7_familySize_13 ?_
    refine lv_astore_n (lv' := [(3, .ref (ad 3 (2 * x1.toNatClampNeg))), (0, .ref (ad 0 0)), (1, .int x1), (2, .int x2)]) hx hb dX7_familySize_16 rfl hl (by decide) rfl (fun ls hl => ?_)
    refine lv_iconst (v := 1) hx hb dX7_familySize_17 (by decide) ?_
    refine lv_istore (lv' := [(4, .int 1), (3, .ref (ad 3 (2 * x1.toNatClampNeg))), (0, .ref (ad 0 0)), (1, .int x1), (2, .int x2)]) hx hb dX7_familySize_18 hl (by decide) rfl (fun ls hl => ?_)
    refine lv_iconst (v := 0) hx hb dX7_familySize_20 (by decide) ?_
    refine lv_istore (lv' := [(5, .int 0), (4, .int 1), (3, .ref (ad 3 (2 * x1.toNatClampNeg))), (0, .ref (ad 0 0)), (1, .int x1), (2, .int x2)]) hx hb dX7_familySize_21 hl (by decide) rfl (fun ls hl => ?_)
    obtain ⟨z39, hz40, hm⟩ := bindS hm
    refine t_X7_familySize_d3_L23 K n S x2 (2 * x1.toNatClampNeg) (by have := (inB_lt h38); omega : (2 * x1.toNatClampNeg) < 9) z39 (fun w41 hww41 => ?_) ((1, 0)) hz40 H locs hw ls (lv_sub hl [3, 5, 2, 1, 0] rfl)
    · intro H locs hw ls hl 
      try rw [hww41] at hm
      refine lv_iload hx hb dX7_familySize_66 (lv_at hl 0 rfl) ?_
      exact g_iret (GG := GC cy ad) K hw ⟨(Option.some.inj hm).symm, rfl⟩ dX7_familySize_68
  · replace hm := (if_neg c37).symm.trans hm
    refine lv_iconst (v := 0) hx hb dX7_familySize_5 (by decide) ?_
    exact g_iret (GG := GC cy ad) K hw ⟨(Option.some.inj hm).symm, rfl⟩ dX7_familySize_6
set_option maxRecDepth 100000 in
set_option maxHeartbeats 4000000 in
theorem c_X7_familySize_d3 (l : Launch) (D : va_G) (cy : Nat → ClassId) (ad : Nat → Nat → Nat) (sz n : Nat) (S : CSt) (x1 : Int32) (x2 : Int32)  {out : Int32} (hm : m_X7_familySize_d3 n S x1 x2 = some out) : Met l yX7_familySize wsX7_familySize rm_X7_familySize_d3 (va_Pc [.ref (ad 0 0), .int x1, .int x2] (Pre D (tysC cy) (GC cy ad S) (fun _ _ => True) sz)) (va_Qi (fun r (u : CSt) => out = r ∧ u = S) (fun u => Pst D (tysC cy) (AA (adrs (GC cy ad S)) sz) (GC cy ad u)) (AA (adrs (GC cy ad S)) sz)) 0 0 (AA (adrs (GC cy ad S)) sz) := by
  refine g_met (by decide) rfl (Nat.le_of_ble_eq_true rfl) ?_
  intro p e s m args below meth c K hw ls hl
  exact t_X7_familySize_d3_0 (cy := cy) K n S x1 x2  hm _ _ hw ls hl
end W_X7_familySize_d3
section W_X7_familySize_d2
variable {p : Program} {l : Launch} {e : Env} {s : State} {m : MethodId} {args : Array Value} {below : List Frame} {meth : Method} {c : Code} {D : va_G} {A : Nat → Prop} {cy : Nat → ClassId} {ad : Nat → Nat → Nat} {Q : State → Prop}
abbrev rm_X7_familySize_d2 : Room := { frames := 4, cells := 0, slots := 0, locals := 92 }
set_option maxRecDepth 100000 in
set_option maxHeartbeats 4000000 in
theorem t_X7_familySize_d2_L23 (K : Cx p s m args meth c D A (tysC cy) RX7 cX7_familySize 6 (some .int) wsX7_familySize (fun _ _ => True)) (n : Nat) (S : CSt) (x2 : Int32) (x3 : Nat) (hb_x3 : x3 < 9) (z : Int32) (hE0 : ∀ w : Int32, z = w → ∀ (H : Heap) (locs : List Loc), Wd D A s.heap (GC cy ad S) H locs → ∀ ls : Array Slot, lv_has ls 6 [(4, .int w)] → W p l e rm_X7_familySize_d2 s m args below meth c H locs 0 0 Q (F0 m 66 ls [])) : ∀ (x : (Int32 × Int32)), lpO (b_X7_familySize_d2_23 n S x2 x3) n x = some z → (fun (x : (Int32 × Int32)) => ∀ (H : Heap) (locs : List Loc), Wd D A s.heap (GC cy ad S) H locs → ∀ ls : Array Slot, lv_has ls 6 [(0, .ref (ad 0 0)), (2, .int x2), (3, .ref (ad 3 x3)), (4, .int x.1), (5, .int x.2)] → W p l e rm_X7_familySize_d2 s m args below meth c H locs 0 0 Q (F0 m 23 ls [])) x := by
  intro x hx0
  refine lpO_ind2 (P := fun (x : (Int32 × Int32)) => ∀ (H : Heap) (locs : List Loc), Wd D A s.heap (GC cy ad S) H locs → ∀ ls : Array Slot, lv_has ls 6 [(0, .ref (ad 0 0)), (2, .int x2), (3, .ref (ad 3 x3)), (4, .int x.1), (5, .int x.2)] → W p l e rm_X7_familySize_d2 s m args below meth c H locs 0 0 Q (F0 m 23 ls [])) (z := z) ?_ n x hx0
  clear hx0 x
  intro x out hm hg H locs hw ls hl 
  obtain ⟨hx, hb, hml, hown, hts, hr, hlo, hK, hA, hX⟩ := id K
  unfold b_X7_familySize_d2_23 at hm
  refine lv_iload hx hb dX7_familySize_23 (lv_at hl 4 rfl) ?_
  refine lv_aload_n hx hb dX7_familySize_25 rfl (lv_at hl 2 rfl) ?_
  refine g_get (ref := "MigrantHeap$Shape") (C := RX4) (T := TX4) (N := 6) (ci := 4) K in_X7_familySize_X4 hw 3 rfl hb_x3 rfl rfl 0 (by decide) (List.mem_of_getElem? (i := 3) rfl) rfl rfl dX7_familySize_26 ?_
  refine lv_icmp_ge (tgt := 66) hx hb dX7_familySize_29 (by decide) (fun c27 => ?_) (fun c27 => ?_)
  · replace hm := (if_pos c27).symm.trans hm
    obtain rfl := Option.some.inj hm
    exact hE0 _ hg.symm H locs hw ls (lv_sub hl [3] rfl)
  · replace hm := (if_neg c27).symm.trans hm
    refine lv_aload_n hx hb dX7_familySize_32 rfl (lv_at hl 2 rfl) ?_
    refine lv_iload hx hb dX7_familySize_33 (lv_at hl 4 rfl) ?_
    obtain ⟨z29, hc28, hm⟩ := bindS hm
    refine g_calli (GG := GC cy ad) K hw (va_runV (As := [.int x.2]) (rest := []) (g_fix K) (c_X4_isOwning l D cy ad H.size n S x3 x.2 hb_x3 hc28) (cwV 1 (g_hts K) gX7_familySize_X4_isOwning rfl rfl rfl (by decide +kernel) ⟨Nat.le_of_ble_eq_true rfl, Nat.le_of_ble_eq_true rfl⟩) ⟨g_blind rides_none, g_recv K hw 3 rfl hb_x3 rfl rfl, g_pre (X2 := fun _ _ => True) K hw (fun _ _ _ => trivial)⟩ rfl rfl hl.1 rfl (lv_room (Nat.le_of_ble_eq_true rfl)) dX7_familySize_35 ⟨Nat.le_of_ble_eq_true rfl, Nat.le_of_ble_eq_true rfl⟩) (fun r u H locs hp hw => ?_)
    obtain ⟨rfl, hu⟩ := hp
    rw [hu] at hw
    refine lv_if_eq (tgt := 60) hx hb dX7_familySize_38 (by decide) (fun c30 => ?_) (fun c30 => ?_)
    · replace hm := (if_pos c30).symm.trans hm
      obtain ⟨x31, hx31, hm⟩ := nm_ex hm
      refine lv_iinc (v := x31) (lv' := [(5, .int x31), (0, .ref (ad 0 0)), (2, .int x2), (3, .ref (ad 3 x3)), (4, .int x.1)]) hx hb dX7_familySize_60 hl (k := 4) rfl (by rw [hx31]; rfl) (by decide) rfl (fun ls hl => ?_)
      refine lv_goto (tgt := 23) hx hb dX7_familySize_63 (by decide) ?_
      obtain rfl := Option.some.inj hm
      exact hg H locs hw ls (lv_sub hl [1, 2, 3, 4, 0] rfl)
    · replace hm := (if_neg c30).symm.trans hm
      refine lv_iload hx hb dX7_familySize_41 (lv_at hl 3 rfl) ?_
      refine lv_aload_n hx hb dX7_familySize_43 rfl (lv_at hl 0 rfl) ?_
      refine lv_aload_n hx hb dX7_familySize_44 rfl (lv_at hl 2 rfl) ?_
      refine g_get (ref := "MigrantHeap$Shape") (C := RX4) (T := TX4) (N := 6) (ci := 4) K in_X7_familySize_X4 hw 3 rfl hb_x3 rfl rfl 3 (by decide) (List.mem_of_getElem? (i := 4) rfl) rfl rfl dX7_familySize_45 ?_
      refine lv_iload hx hb dX7_familySize_48 (lv_at hl 4 rfl) ?_
      obtain ⟨h32, hm⟩ := chkS hm
      refine g_iald K hw 6 0 rfl hb_x3 rfl rfl h32 dX7_familySize_50 ?_
      refine lv_iload_n hx hb dX7_familySize_51 rfl (lv_at hl 1 rfl) ?_
      refine lv_iconst (v := 1) hx hb dX7_familySize_52 (by decide) ?_
      refine lv_iadd hx hb dX7_familySize_53 ?_
      obtain ⟨z34, hc33, hm⟩ := bindS hm
      refine g_calli (GG := GC cy ad) K hw (va_runV (As := [.int (S.1 8 x3 x.2.toNatClampNeg), .int (x2 + 1)]) (rest := [.int x.1]) (g_fix K) (c_X7_familySize_d3 l D cy ad H.size n S (S.1 8 x3 x.2.toNatClampNeg) (x2 + 1)  hc33) (cwV 2 (g_hts K) gX7_familySize_X7_familySize rfl rfl rfl (by decide +kernel) ⟨Nat.le_of_ble_eq_true rfl, Nat.le_of_ble_eq_true rfl⟩) ⟨g_blind rides_none, g_recv K hw 0 rfl (by decide : 0 < 1) rfl rfl, g_pre (X2 := fun _ _ => True) K hw (fun _ _ _ => trivial)⟩ rfl rfl hl.1 rfl (lv_room (Nat.le_of_ble_eq_true rfl)) dX7_familySize_54 ⟨Nat.le_of_ble_eq_true rfl, Nat.le_of_ble_eq_true rfl⟩) (fun r u H locs hp hw => ?_)
      obtain ⟨rfl, hu⟩ := hp
      rw [hu] at hw
      refine lv_iadd hx hb dX7_familySize_57 ?_
      obtain ⟨x35, hx35, hm⟩ := nm_ex hm
      refine W.eq (g2 := F0 m 58 ls (.int x35 :: [])) (by rw [hx35]) ?_
      refine lv_istore (lv' := [(4, .int x35), (0, .ref (ad 0 0)), (2, .int x2), (3, .ref (ad 3 x3)), (5, .int x.2)]) hx hb dX7_familySize_58 hl (by decide) rfl (fun ls hl => ?_)
      obtain ⟨x36, hx36, hm⟩ := nm_ex hm
      refine lv_iinc (v := x36) (lv' := [(5, .int x36), (4, .int x35), (0, .ref (ad 0 0)), (2, .int x2), (3, .ref (ad 3 x3))]) hx hb dX7_familySize_60 hl (k := 4) rfl (by rw [hx36]; rfl) (by decide) rfl (fun ls hl => ?_)
      refine lv_goto (tgt := 23) hx hb dX7_familySize_63 (by decide) ?_
      obtain rfl := Option.some.inj hm
      exact hg H locs hw ls (lv_sub hl [2, 3, 4, 1, 0] rfl)
set_option maxRecDepth 100000 in
set_option maxHeartbeats 4000000 in
theorem t_X7_familySize_d2_0 (K : Cx p s m args meth c D A (tysC cy) RX7 cX7_familySize 6 (some .int) wsX7_familySize (fun _ _ => True)) (n : Nat) (S : CSt) (x1 : Int32) (x2 : Int32)  {out : Int32} (hm : m_X7_familySize_d2 n S x1 x2 = some out) : ∀ (H : Heap) (locs : List Loc), Wd D A s.heap (GC cy ad S) H locs → ∀ ls : Array Slot, lv_has ls 6 [(0, .ref (ad 0 0)), (1, .int x1), (2, .int x2)] → W p l e rm_X7_familySize_d2 s m args below meth c H locs 0 0 (MQ below (va_Qi (fun r (u : CSt) => out = r ∧ u = S) (fun u => Pst D (tysC cy) A (GC cy ad u)) A) args s 0 0 A) (F0 m 0 ls []) := by
  intro H locs hw ls hl
  obtain ⟨hx, hb, hml, hown, hts, hr, hlo, hK, hA, hX⟩ := id K
  unfold m_X7_familySize_d2 at hm
  refine lv_iload_n hx hb dX7_familySize_0 rfl (lv_at hl 2 rfl) ?_
  refine lv_iconst (v := 4) hx hb dX7_familySize_1 (by decide) ?_
  refine lv_icmp_lt (tgt := 7) hx hb dX7_familySize_2 (by decide) (fun c37 => ?_) (fun c37 => ?_)
  · replace hm := (if_pos c37).symm.trans hm
    refine lv_aload_n hx hb dX7_familySize_7 rfl (lv_at hl 0 rfl) ?_
    refine g_get (ref := "MigrantHeap") (C := RX7) (T := TX7) (N := 11) (ci := 7) K in_X7_familySize_X7 hw 0 rfl (by decide : 0 < 1) rfl rfl 0 (by decide) (List.mem_of_getElem? (i := 1) rfl) rfl rfl dX7_familySize_8 ?_
    refine lv_iload_n hx hb dX7_familySize_11 rfl (lv_at hl 1 rfl) ?_
    obtain ⟨h38, hm⟩ := chkS hm
    refine g_aald K hw 1 4 rfl (by decide) rfl rfl h38 dX7_familySize_12 ?_
    refine g_get (ref := "MigrantHeap$Kind") (C := RX2) (T := TX2) (N := 4) (ci := 2) K in_X7_familySize_X2 hw 2 rfl (inB_lt h38) rfl rfl 2 (by decide) (List.mem_of_getElem? (i := 2) rfl) rfl rfl dX7_familySize_13 ?_
    refine lv_astore_n (lv' := [(3, .ref (ad 3 (2 * x1.toNatClampNeg))), (0, .ref (ad 0 0)), (1, .int x1), (2, .int x2)]) hx hb dX7_familySize_16 rfl hl (by decide) rfl (fun ls hl => ?_)
    refine lv_iconst (v := 1) hx hb dX7_familySize_17 (by decide) ?_
    refine lv_istore (lv' := [(4, .int 1), (3, .ref (ad 3 (2 * x1.toNatClampNeg))), (0, .ref (ad 0 0)), (1, .int x1), (2, .int x2)]) hx hb dX7_familySize_18 hl (by decide) rfl (fun ls hl => ?_)
    refine lv_iconst (v := 0) hx hb dX7_familySize_20 (by decide) ?_
    refine lv_istore (lv' := [(5, .int 0), (4, .int 1), (3, .ref (ad 3 (2 * x1.toNatClampNeg))), (0, .ref (ad 0 0)), (1, .int x1), (2, .int x2)]) hx hb dX7_familySize_21 hl (by decide) rfl (fun ls hl => ?_)
    obtain ⟨z39, hz40, hm⟩ := bindS hm
    refine t_X7_familySize_d2_L23 K n S x2 (2 * x1.toNatClampNeg) (by have := (inB_lt h38); omega : (2 * x1.toNatClampNeg) < 9) z39 (fun w41 hww41 => ?_) ((1, 0)) hz40 H locs hw ls (lv_sub hl [3, 5, 2, 1, 0] rfl)
    · intro H locs hw ls hl 
      try rw [hww41] at hm
      refine lv_iload hx hb dX7_familySize_66 (lv_at hl 0 rfl) ?_
      exact g_iret (GG := GC cy ad) K hw ⟨(Option.some.inj hm).symm, rfl⟩ dX7_familySize_68
  · replace hm := (if_neg c37).symm.trans hm
    refine lv_iconst (v := 0) hx hb dX7_familySize_5 (by decide) ?_
    exact g_iret (GG := GC cy ad) K hw ⟨(Option.some.inj hm).symm, rfl⟩ dX7_familySize_6
set_option maxRecDepth 100000 in
set_option maxHeartbeats 4000000 in
theorem c_X7_familySize_d2 (l : Launch) (D : va_G) (cy : Nat → ClassId) (ad : Nat → Nat → Nat) (sz n : Nat) (S : CSt) (x1 : Int32) (x2 : Int32)  {out : Int32} (hm : m_X7_familySize_d2 n S x1 x2 = some out) : Met l yX7_familySize wsX7_familySize rm_X7_familySize_d2 (va_Pc [.ref (ad 0 0), .int x1, .int x2] (Pre D (tysC cy) (GC cy ad S) (fun _ _ => True) sz)) (va_Qi (fun r (u : CSt) => out = r ∧ u = S) (fun u => Pst D (tysC cy) (AA (adrs (GC cy ad S)) sz) (GC cy ad u)) (AA (adrs (GC cy ad S)) sz)) 0 0 (AA (adrs (GC cy ad S)) sz) := by
  refine g_met (by decide) rfl (Nat.le_of_ble_eq_true rfl) ?_
  intro p e s m args below meth c K hw ls hl
  exact t_X7_familySize_d2_0 (cy := cy) K n S x1 x2  hm _ _ hw ls hl
end W_X7_familySize_d2
section W_X7_familySize_d1
variable {p : Program} {l : Launch} {e : Env} {s : State} {m : MethodId} {args : Array Value} {below : List Frame} {meth : Method} {c : Code} {D : va_G} {A : Nat → Prop} {cy : Nat → ClassId} {ad : Nat → Nat → Nat} {Q : State → Prop}
abbrev rm_X7_familySize_d1 : Room := { frames := 5, cells := 0, slots := 0, locals := 117 }
set_option maxRecDepth 100000 in
set_option maxHeartbeats 4000000 in
theorem t_X7_familySize_d1_L23 (K : Cx p s m args meth c D A (tysC cy) RX7 cX7_familySize 6 (some .int) wsX7_familySize (fun _ _ => True)) (n : Nat) (S : CSt) (x2 : Int32) (x3 : Nat) (hb_x3 : x3 < 9) (z : Int32) (hE0 : ∀ w : Int32, z = w → ∀ (H : Heap) (locs : List Loc), Wd D A s.heap (GC cy ad S) H locs → ∀ ls : Array Slot, lv_has ls 6 [(4, .int w)] → W p l e rm_X7_familySize_d1 s m args below meth c H locs 0 0 Q (F0 m 66 ls [])) : ∀ (x : (Int32 × Int32)), lpO (b_X7_familySize_d1_23 n S x2 x3) n x = some z → (fun (x : (Int32 × Int32)) => ∀ (H : Heap) (locs : List Loc), Wd D A s.heap (GC cy ad S) H locs → ∀ ls : Array Slot, lv_has ls 6 [(0, .ref (ad 0 0)), (2, .int x2), (3, .ref (ad 3 x3)), (4, .int x.1), (5, .int x.2)] → W p l e rm_X7_familySize_d1 s m args below meth c H locs 0 0 Q (F0 m 23 ls [])) x := by
  intro x hx0
  refine lpO_ind2 (P := fun (x : (Int32 × Int32)) => ∀ (H : Heap) (locs : List Loc), Wd D A s.heap (GC cy ad S) H locs → ∀ ls : Array Slot, lv_has ls 6 [(0, .ref (ad 0 0)), (2, .int x2), (3, .ref (ad 3 x3)), (4, .int x.1), (5, .int x.2)] → W p l e rm_X7_familySize_d1 s m args below meth c H locs 0 0 Q (F0 m 23 ls [])) (z := z) ?_ n x hx0
  clear hx0 x
  intro x out hm hg H locs hw ls hl 
  obtain ⟨hx, hb, hml, hown, hts, hr, hlo, hK, hA, hX⟩ := id K
  unfold b_X7_familySize_d1_23 at hm
  refine lv_iload hx hb dX7_familySize_23 (lv_at hl 4 rfl) ?_
  refine lv_aload_n hx hb dX7_familySize_25 rfl (lv_at hl 2 rfl) ?_
  refine g_get (ref := "MigrantHeap$Shape") (C := RX4) (T := TX4) (N := 6) (ci := 4) K in_X7_familySize_X4 hw 3 rfl hb_x3 rfl rfl 0 (by decide) (List.mem_of_getElem? (i := 3) rfl) rfl rfl dX7_familySize_26 ?_
  refine lv_icmp_ge (tgt := 66) hx hb dX7_familySize_29 (by decide) (fun c27 => ?_) (fun c27 => ?_)
  · replace hm := (if_pos c27).symm.trans hm
    obtain rfl := Option.some.inj hm
    exact hE0 _ hg.symm H locs hw ls (lv_sub hl [3] rfl)
  · replace hm := (if_neg c27).symm.trans hm
    refine lv_aload_n hx hb dX7_familySize_32 rfl (lv_at hl 2 rfl) ?_
    refine lv_iload hx hb dX7_familySize_33 (lv_at hl 4 rfl) ?_
    obtain ⟨z29, hc28, hm⟩ := bindS hm
    refine g_calli (GG := GC cy ad) K hw (va_runV (As := [.int x.2]) (rest := []) (g_fix K) (c_X4_isOwning l D cy ad H.size n S x3 x.2 hb_x3 hc28) (cwV 1 (g_hts K) gX7_familySize_X4_isOwning rfl rfl rfl (by decide +kernel) ⟨Nat.le_of_ble_eq_true rfl, Nat.le_of_ble_eq_true rfl⟩) ⟨g_blind rides_none, g_recv K hw 3 rfl hb_x3 rfl rfl, g_pre (X2 := fun _ _ => True) K hw (fun _ _ _ => trivial)⟩ rfl rfl hl.1 rfl (lv_room (Nat.le_of_ble_eq_true rfl)) dX7_familySize_35 ⟨Nat.le_of_ble_eq_true rfl, Nat.le_of_ble_eq_true rfl⟩) (fun r u H locs hp hw => ?_)
    obtain ⟨rfl, hu⟩ := hp
    rw [hu] at hw
    refine lv_if_eq (tgt := 60) hx hb dX7_familySize_38 (by decide) (fun c30 => ?_) (fun c30 => ?_)
    · replace hm := (if_pos c30).symm.trans hm
      obtain ⟨x31, hx31, hm⟩ := nm_ex hm
      refine lv_iinc (v := x31) (lv' := [(5, .int x31), (0, .ref (ad 0 0)), (2, .int x2), (3, .ref (ad 3 x3)), (4, .int x.1)]) hx hb dX7_familySize_60 hl (k := 4) rfl (by rw [hx31]; rfl) (by decide) rfl (fun ls hl => ?_)
      refine lv_goto (tgt := 23) hx hb dX7_familySize_63 (by decide) ?_
      obtain rfl := Option.some.inj hm
      exact hg H locs hw ls (lv_sub hl [1, 2, 3, 4, 0] rfl)
    · replace hm := (if_neg c30).symm.trans hm
      refine lv_iload hx hb dX7_familySize_41 (lv_at hl 3 rfl) ?_
      refine lv_aload_n hx hb dX7_familySize_43 rfl (lv_at hl 0 rfl) ?_
      refine lv_aload_n hx hb dX7_familySize_44 rfl (lv_at hl 2 rfl) ?_
      refine g_get (ref := "MigrantHeap$Shape") (C := RX4) (T := TX4) (N := 6) (ci := 4) K in_X7_familySize_X4 hw 3 rfl hb_x3 rfl rfl 3 (by decide) (List.mem_of_getElem? (i := 4) rfl) rfl rfl dX7_familySize_45 ?_
      refine lv_iload hx hb dX7_familySize_48 (lv_at hl 4 rfl) ?_
      obtain ⟨h32, hm⟩ := chkS hm
      refine g_iald K hw 6 0 rfl hb_x3 rfl rfl h32 dX7_familySize_50 ?_
      refine lv_iload_n hx hb dX7_familySize_51 rfl (lv_at hl 1 rfl) ?_
      refine lv_iconst (v := 1) hx hb dX7_familySize_52 (by decide) ?_
      refine lv_iadd hx hb dX7_familySize_53 ?_
      obtain ⟨z34, hc33, hm⟩ := bindS hm
      refine g_calli (GG := GC cy ad) K hw (va_runV (As := [.int (S.1 8 x3 x.2.toNatClampNeg), .int (x2 + 1)]) (rest := [.int x.1]) (g_fix K) (c_X7_familySize_d2 l D cy ad H.size n S (S.1 8 x3 x.2.toNatClampNeg) (x2 + 1)  hc33) (cwV 2 (g_hts K) gX7_familySize_X7_familySize rfl rfl rfl (by decide +kernel) ⟨Nat.le_of_ble_eq_true rfl, Nat.le_of_ble_eq_true rfl⟩) ⟨g_blind rides_none, g_recv K hw 0 rfl (by decide : 0 < 1) rfl rfl, g_pre (X2 := fun _ _ => True) K hw (fun _ _ _ => trivial)⟩ rfl rfl hl.1 rfl (lv_room (Nat.le_of_ble_eq_true rfl)) dX7_familySize_54 ⟨Nat.le_of_ble_eq_true rfl, Nat.le_of_ble_eq_true rfl⟩) (fun r u H locs hp hw => ?_)
      obtain ⟨rfl, hu⟩ := hp
      rw [hu] at hw
      refine lv_iadd hx hb dX7_familySize_57 ?_
      obtain ⟨x35, hx35, hm⟩ := nm_ex hm
      refine W.eq (g2 := F0 m 58 ls (.int x35 :: [])) (by rw [hx35]) ?_
      refine lv_istore (lv' := [(4, .int x35), (0, .ref (ad 0 0)), (2, .int x2), (3, .ref (ad 3 x3)), (5, .int x.2)]) hx hb dX7_familySize_58 hl (by decide) rfl (fun ls hl => ?_)
      obtain ⟨x36, hx36, hm⟩ := nm_ex hm
      refine lv_iinc (v := x36) (lv' := [(5, .int x36), (4, .int x35), (0, .ref (ad 0 0)), (2, .int x2), (3, .ref (ad 3 x3))]) hx hb dX7_familySize_60 hl (k := 4) rfl (by rw [hx36]; rfl) (by decide) rfl (fun ls hl => ?_)
      refine lv_goto (tgt := 23) hx hb dX7_familySize_63 (by decide) ?_
      obtain rfl := Option.some.inj hm
      exact hg H locs hw ls (lv_sub hl [2, 3, 4, 1, 0] rfl)
set_option maxRecDepth 100000 in
set_option maxHeartbeats 4000000 in
theorem t_X7_familySize_d1_0 (K : Cx p s m args meth c D A (tysC cy) RX7 cX7_familySize 6 (some .int) wsX7_familySize (fun _ _ => True)) (n : Nat) (S : CSt) (x1 : Int32) (x2 : Int32)  {out : Int32} (hm : m_X7_familySize_d1 n S x1 x2 = some out) : ∀ (H : Heap) (locs : List Loc), Wd D A s.heap (GC cy ad S) H locs → ∀ ls : Array Slot, lv_has ls 6 [(0, .ref (ad 0 0)), (1, .int x1), (2, .int x2)] → W p l e rm_X7_familySize_d1 s m args below meth c H locs 0 0 (MQ below (va_Qi (fun r (u : CSt) => out = r ∧ u = S) (fun u => Pst D (tysC cy) A (GC cy ad u)) A) args s 0 0 A) (F0 m 0 ls []) := by
  intro H locs hw ls hl
  obtain ⟨hx, hb, hml, hown, hts, hr, hlo, hK, hA, hX⟩ := id K
  unfold m_X7_familySize_d1 at hm
  refine lv_iload_n hx hb dX7_familySize_0 rfl (lv_at hl 2 rfl) ?_
  refine lv_iconst (v := 4) hx hb dX7_familySize_1 (by decide) ?_
  refine lv_icmp_lt (tgt := 7) hx hb dX7_familySize_2 (by decide) (fun c37 => ?_) (fun c37 => ?_)
  · replace hm := (if_pos c37).symm.trans hm
    refine lv_aload_n hx hb dX7_familySize_7 rfl (lv_at hl 0 rfl) ?_
    refine g_get (ref := "MigrantHeap") (C := RX7) (T := TX7) (N := 11) (ci := 7) K in_X7_familySize_X7 hw 0 rfl (by decide : 0 < 1) rfl rfl 0 (by decide) (List.mem_of_getElem? (i := 1) rfl) rfl rfl dX7_familySize_8 ?_
    refine lv_iload_n hx hb dX7_familySize_11 rfl (lv_at hl 1 rfl) ?_
    obtain ⟨h38, hm⟩ := chkS hm
    refine g_aald K hw 1 4 rfl (by decide) rfl rfl h38 dX7_familySize_12 ?_
    refine g_get (ref := "MigrantHeap$Kind") (C := RX2) (T := TX2) (N := 4) (ci := 2) K in_X7_familySize_X2 hw 2 rfl (inB_lt h38) rfl rfl 2 (by decide) (List.mem_of_getElem? (i := 2) rfl) rfl rfl dX7_familySize_13 ?_
    refine lv_astore_n (lv' := [(3, .ref (ad 3 (2 * x1.toNatClampNeg))), (0, .ref (ad 0 0)), (1, .int x1), (2, .int x2)]) hx hb dX7_familySize_16 rfl hl (by decide) rfl (fun ls hl => ?_)
    refine lv_iconst (v := 1) hx hb dX7_familySize_17 (by decide) ?_
    refine lv_istore (lv' := [(4, .int 1), (3, .ref (ad 3 (2 * x1.toNatClampNeg))), (0, .ref (ad 0 0)), (1, .int x1), (2, .int x2)]) hx hb dX7_familySize_18 hl (by decide) rfl (fun ls hl => ?_)
    refine lv_iconst (v := 0) hx hb dX7_familySize_20 (by decide) ?_
    refine lv_istore (lv' := [(5, .int 0), (4, .int 1), (3, .ref (ad 3 (2 * x1.toNatClampNeg))), (0, .ref (ad 0 0)), (1, .int x1), (2, .int x2)]) hx hb dX7_familySize_21 hl (by decide) rfl (fun ls hl => ?_)
    obtain ⟨z39, hz40, hm⟩ := bindS hm
    refine t_X7_familySize_d1_L23 K n S x2 (2 * x1.toNatClampNeg) (by have := (inB_lt h38); omega : (2 * x1.toNatClampNeg) < 9) z39 (fun w41 hww41 => ?_) ((1, 0)) hz40 H locs hw ls (lv_sub hl [3, 5, 2, 1, 0] rfl)
    · intro H locs hw ls hl 
      try rw [hww41] at hm
      refine lv_iload hx hb dX7_familySize_66 (lv_at hl 0 rfl) ?_
      exact g_iret (GG := GC cy ad) K hw ⟨(Option.some.inj hm).symm, rfl⟩ dX7_familySize_68
  · replace hm := (if_neg c37).symm.trans hm
    refine lv_iconst (v := 0) hx hb dX7_familySize_5 (by decide) ?_
    exact g_iret (GG := GC cy ad) K hw ⟨(Option.some.inj hm).symm, rfl⟩ dX7_familySize_6
set_option maxRecDepth 100000 in
set_option maxHeartbeats 4000000 in
theorem c_X7_familySize_d1 (l : Launch) (D : va_G) (cy : Nat → ClassId) (ad : Nat → Nat → Nat) (sz n : Nat) (S : CSt) (x1 : Int32) (x2 : Int32)  {out : Int32} (hm : m_X7_familySize_d1 n S x1 x2 = some out) : Met l yX7_familySize wsX7_familySize rm_X7_familySize_d1 (va_Pc [.ref (ad 0 0), .int x1, .int x2] (Pre D (tysC cy) (GC cy ad S) (fun _ _ => True) sz)) (va_Qi (fun r (u : CSt) => out = r ∧ u = S) (fun u => Pst D (tysC cy) (AA (adrs (GC cy ad S)) sz) (GC cy ad u)) (AA (adrs (GC cy ad S)) sz)) 0 0 (AA (adrs (GC cy ad S)) sz) := by
  refine g_met (by decide) rfl (Nat.le_of_ble_eq_true rfl) ?_
  intro p e s m args below meth c K hw ls hl
  exact t_X7_familySize_d1_0 (cy := cy) K n S x1 x2  hm _ _ hw ls hl
end W_X7_familySize_d1
section W_X7_familySize_d0
variable {p : Program} {l : Launch} {e : Env} {s : State} {m : MethodId} {args : Array Value} {below : List Frame} {meth : Method} {c : Code} {D : va_G} {A : Nat → Prop} {cy : Nat → ClassId} {ad : Nat → Nat → Nat} {Q : State → Prop}
abbrev rm_X7_familySize_d0 : Room := { frames := 6, cells := 0, slots := 0, locals := 142 }
set_option maxRecDepth 100000 in
set_option maxHeartbeats 4000000 in
theorem t_X7_familySize_d0_L23 (K : Cx p s m args meth c D A (tysC cy) RX7 cX7_familySize 6 (some .int) wsX7_familySize (fun _ _ => True)) (n : Nat) (S : CSt) (x2 : Int32) (x3 : Nat) (hb_x3 : x3 < 9) (z : Int32) (hE0 : ∀ w : Int32, z = w → ∀ (H : Heap) (locs : List Loc), Wd D A s.heap (GC cy ad S) H locs → ∀ ls : Array Slot, lv_has ls 6 [(4, .int w)] → W p l e rm_X7_familySize_d0 s m args below meth c H locs 0 0 Q (F0 m 66 ls [])) : ∀ (x : (Int32 × Int32)), lpO (b_X7_familySize_d0_23 n S x2 x3) n x = some z → (fun (x : (Int32 × Int32)) => ∀ (H : Heap) (locs : List Loc), Wd D A s.heap (GC cy ad S) H locs → ∀ ls : Array Slot, lv_has ls 6 [(0, .ref (ad 0 0)), (2, .int x2), (3, .ref (ad 3 x3)), (4, .int x.1), (5, .int x.2)] → W p l e rm_X7_familySize_d0 s m args below meth c H locs 0 0 Q (F0 m 23 ls [])) x := by
  intro x hx0
  refine lpO_ind2 (P := fun (x : (Int32 × Int32)) => ∀ (H : Heap) (locs : List Loc), Wd D A s.heap (GC cy ad S) H locs → ∀ ls : Array Slot, lv_has ls 6 [(0, .ref (ad 0 0)), (2, .int x2), (3, .ref (ad 3 x3)), (4, .int x.1), (5, .int x.2)] → W p l e rm_X7_familySize_d0 s m args below meth c H locs 0 0 Q (F0 m 23 ls [])) (z := z) ?_ n x hx0
  clear hx0 x
  intro x out hm hg H locs hw ls hl 
  obtain ⟨hx, hb, hml, hown, hts, hr, hlo, hK, hA, hX⟩ := id K
  unfold b_X7_familySize_d0_23 at hm
  refine lv_iload hx hb dX7_familySize_23 (lv_at hl 4 rfl) ?_
  refine lv_aload_n hx hb dX7_familySize_25 rfl (lv_at hl 2 rfl) ?_
  refine g_get (ref := "MigrantHeap$Shape") (C := RX4) (T := TX4) (N := 6) (ci := 4) K in_X7_familySize_X4 hw 3 rfl hb_x3 rfl rfl 0 (by decide) (List.mem_of_getElem? (i := 3) rfl) rfl rfl dX7_familySize_26 ?_
  refine lv_icmp_ge (tgt := 66) hx hb dX7_familySize_29 (by decide) (fun c27 => ?_) (fun c27 => ?_)
  · replace hm := (if_pos c27).symm.trans hm
    obtain rfl := Option.some.inj hm
    exact hE0 _ hg.symm H locs hw ls (lv_sub hl [3] rfl)
  · replace hm := (if_neg c27).symm.trans hm
    refine lv_aload_n hx hb dX7_familySize_32 rfl (lv_at hl 2 rfl) ?_
    refine lv_iload hx hb dX7_familySize_33 (lv_at hl 4 rfl) ?_
    obtain ⟨z29, hc28, hm⟩ := bindS hm
    refine g_calli (GG := GC cy ad) K hw (va_runV (As := [.int x.2]) (rest := []) (g_fix K) (c_X4_isOwning l D cy ad H.size n S x3 x.2 hb_x3 hc28) (cwV 1 (g_hts K) gX7_familySize_X4_isOwning rfl rfl rfl (by decide +kernel) ⟨Nat.le_of_ble_eq_true rfl, Nat.le_of_ble_eq_true rfl⟩) ⟨g_blind rides_none, g_recv K hw 3 rfl hb_x3 rfl rfl, g_pre (X2 := fun _ _ => True) K hw (fun _ _ _ => trivial)⟩ rfl rfl hl.1 rfl (lv_room (Nat.le_of_ble_eq_true rfl)) dX7_familySize_35 ⟨Nat.le_of_ble_eq_true rfl, Nat.le_of_ble_eq_true rfl⟩) (fun r u H locs hp hw => ?_)
    obtain ⟨rfl, hu⟩ := hp
    rw [hu] at hw
    refine lv_if_eq (tgt := 60) hx hb dX7_familySize_38 (by decide) (fun c30 => ?_) (fun c30 => ?_)
    · replace hm := (if_pos c30).symm.trans hm
      obtain ⟨x31, hx31, hm⟩ := nm_ex hm
      refine lv_iinc (v := x31) (lv' := [(5, .int x31), (0, .ref (ad 0 0)), (2, .int x2), (3, .ref (ad 3 x3)), (4, .int x.1)]) hx hb dX7_familySize_60 hl (k := 4) rfl (by rw [hx31]; rfl) (by decide) rfl (fun ls hl => ?_)
      refine lv_goto (tgt := 23) hx hb dX7_familySize_63 (by decide) ?_
      obtain rfl := Option.some.inj hm
      exact hg H locs hw ls (lv_sub hl [1, 2, 3, 4, 0] rfl)
    · replace hm := (if_neg c30).symm.trans hm
      refine lv_iload hx hb dX7_familySize_41 (lv_at hl 3 rfl) ?_
      refine lv_aload_n hx hb dX7_familySize_43 rfl (lv_at hl 0 rfl) ?_
      refine lv_aload_n hx hb dX7_familySize_44 rfl (lv_at hl 2 rfl) ?_
      refine g_get (ref := "MigrantHeap$Shape") (C := RX4) (T := TX4) (N := 6) (ci := 4) K in_X7_familySize_X4 hw 3 rfl hb_x3 rfl rfl 3 (by decide) (List.mem_of_getElem? (i := 4) rfl) rfl rfl dX7_familySize_45 ?_
      refine lv_iload hx hb dX7_familySize_48 (lv_at hl 4 rfl) ?_
      obtain ⟨h32, hm⟩ := chkS hm
      refine g_iald K hw 6 0 rfl hb_x3 rfl rfl h32 dX7_familySize_50 ?_
      refine lv_iload_n hx hb dX7_familySize_51 rfl (lv_at hl 1 rfl) ?_
      refine lv_iconst (v := 1) hx hb dX7_familySize_52 (by decide) ?_
      refine lv_iadd hx hb dX7_familySize_53 ?_
      obtain ⟨z34, hc33, hm⟩ := bindS hm
      refine g_calli (GG := GC cy ad) K hw (va_runV (As := [.int (S.1 8 x3 x.2.toNatClampNeg), .int (x2 + 1)]) (rest := [.int x.1]) (g_fix K) (c_X7_familySize_d1 l D cy ad H.size n S (S.1 8 x3 x.2.toNatClampNeg) (x2 + 1)  hc33) (cwV 2 (g_hts K) gX7_familySize_X7_familySize rfl rfl rfl (by decide +kernel) ⟨Nat.le_of_ble_eq_true rfl, Nat.le_of_ble_eq_true rfl⟩) ⟨g_blind rides_none, g_recv K hw 0 rfl (by decide : 0 < 1) rfl rfl, g_pre (X2 := fun _ _ => True) K hw (fun _ _ _ => trivial)⟩ rfl rfl hl.1 rfl (lv_room (Nat.le_of_ble_eq_true rfl)) dX7_familySize_54 ⟨Nat.le_of_ble_eq_true rfl, Nat.le_of_ble_eq_true rfl⟩) (fun r u H locs hp hw => ?_)
      obtain ⟨rfl, hu⟩ := hp
      rw [hu] at hw
      refine lv_iadd hx hb dX7_familySize_57 ?_
      obtain ⟨x35, hx35, hm⟩ := nm_ex hm
      refine W.eq (g2 := F0 m 58 ls (.int x35 :: [])) (by rw [hx35]) ?_
      refine lv_istore (lv' := [(4, .int x35), (0, .ref (ad 0 0)), (2, .int x2), (3, .ref (ad 3 x3)), (5, .int x.2)]) hx hb dX7_familySize_58 hl (by decide) rfl (fun ls hl => ?_)
      obtain ⟨x36, hx36, hm⟩ := nm_ex hm
      refine lv_iinc (v := x36) (lv' := [(5, .int x36), (4, .int x35), (0, .ref (ad 0 0)), (2, .int x2), (3, .ref (ad 3 x3))]) hx hb dX7_familySize_60 hl (k := 4) rfl (by rw [hx36]; rfl) (by decide) rfl (fun ls hl => ?_)
      refine lv_goto (tgt := 23) hx hb dX7_familySize_63 (by decide) ?_
      obtain rfl := Option.some.inj hm
      exact hg H locs hw ls (lv_sub hl [2, 3, 4, 1, 0] rfl)
set_option maxRecDepth 100000 in
set_option maxHeartbeats 4000000 in
theorem t_X7_familySize_d0_0 (K : Cx p s m args meth c D A (tysC cy) RX7 cX7_familySize 6 (some .int) wsX7_familySize (fun _ _ => True)) (n : Nat) (S : CSt) (x1 : Int32) (x2 : Int32)  {out : Int32} (hm : m_X7_familySize_d0 n S x1 x2 = some out) : ∀ (H : Heap) (locs : List Loc), Wd D A s.heap (GC cy ad S) H locs → ∀ ls : Array Slot, lv_has ls 6 [(0, .ref (ad 0 0)), (1, .int x1), (2, .int x2)] → W p l e rm_X7_familySize_d0 s m args below meth c H locs 0 0 (MQ below (va_Qi (fun r (u : CSt) => out = r ∧ u = S) (fun u => Pst D (tysC cy) A (GC cy ad u)) A) args s 0 0 A) (F0 m 0 ls []) := by
  intro H locs hw ls hl
  obtain ⟨hx, hb, hml, hown, hts, hr, hlo, hK, hA, hX⟩ := id K
  unfold m_X7_familySize_d0 at hm
  refine lv_iload_n hx hb dX7_familySize_0 rfl (lv_at hl 2 rfl) ?_
  refine lv_iconst (v := 4) hx hb dX7_familySize_1 (by decide) ?_
  refine lv_icmp_lt (tgt := 7) hx hb dX7_familySize_2 (by decide) (fun c37 => ?_) (fun c37 => ?_)
  · replace hm := (if_pos c37).symm.trans hm
    refine lv_aload_n hx hb dX7_familySize_7 rfl (lv_at hl 0 rfl) ?_
    refine g_get (ref := "MigrantHeap") (C := RX7) (T := TX7) (N := 11) (ci := 7) K in_X7_familySize_X7 hw 0 rfl (by decide : 0 < 1) rfl rfl 0 (by decide) (List.mem_of_getElem? (i := 1) rfl) rfl rfl dX7_familySize_8 ?_
    refine lv_iload_n hx hb dX7_familySize_11 rfl (lv_at hl 1 rfl) ?_
    obtain ⟨h38, hm⟩ := chkS hm
    refine g_aald K hw 1 4 rfl (by decide) rfl rfl h38 dX7_familySize_12 ?_
    refine g_get (ref := "MigrantHeap$Kind") (C := RX2) (T := TX2) (N := 4) (ci := 2) K in_X7_familySize_X2 hw 2 rfl (inB_lt h38) rfl rfl 2 (by decide) (List.mem_of_getElem? (i := 2) rfl) rfl rfl dX7_familySize_13 ?_
    refine lv_astore_n (lv' := [(3, .ref (ad 3 (2 * x1.toNatClampNeg))), (0, .ref (ad 0 0)), (1, .int x1), (2, .int x2)]) hx hb dX7_familySize_16 rfl hl (by decide) rfl (fun ls hl => ?_)
    refine lv_iconst (v := 1) hx hb dX7_familySize_17 (by decide) ?_
    refine lv_istore (lv' := [(4, .int 1), (3, .ref (ad 3 (2 * x1.toNatClampNeg))), (0, .ref (ad 0 0)), (1, .int x1), (2, .int x2)]) hx hb dX7_familySize_18 hl (by decide) rfl (fun ls hl => ?_)
    refine lv_iconst (v := 0) hx hb dX7_familySize_20 (by decide) ?_
    refine lv_istore (lv' := [(5, .int 0), (4, .int 1), (3, .ref (ad 3 (2 * x1.toNatClampNeg))), (0, .ref (ad 0 0)), (1, .int x1), (2, .int x2)]) hx hb dX7_familySize_21 hl (by decide) rfl (fun ls hl => ?_)
    obtain ⟨z39, hz40, hm⟩ := bindS hm
    refine t_X7_familySize_d0_L23 K n S x2 (2 * x1.toNatClampNeg) (by have := (inB_lt h38); omega : (2 * x1.toNatClampNeg) < 9) z39 (fun w41 hww41 => ?_) ((1, 0)) hz40 H locs hw ls (lv_sub hl [3, 5, 2, 1, 0] rfl)
    · intro H locs hw ls hl 
      try rw [hww41] at hm
      refine lv_iload hx hb dX7_familySize_66 (lv_at hl 0 rfl) ?_
      exact g_iret (GG := GC cy ad) K hw ⟨(Option.some.inj hm).symm, rfl⟩ dX7_familySize_68
  · replace hm := (if_neg c37).symm.trans hm
    refine lv_iconst (v := 0) hx hb dX7_familySize_5 (by decide) ?_
    exact g_iret (GG := GC cy ad) K hw ⟨(Option.some.inj hm).symm, rfl⟩ dX7_familySize_6
set_option maxRecDepth 100000 in
set_option maxHeartbeats 4000000 in
theorem c_X7_familySize_d0 (l : Launch) (D : va_G) (cy : Nat → ClassId) (ad : Nat → Nat → Nat) (sz n : Nat) (S : CSt) (x1 : Int32) (x2 : Int32)  {out : Int32} (hm : m_X7_familySize_d0 n S x1 x2 = some out) : Met l yX7_familySize wsX7_familySize rm_X7_familySize_d0 (va_Pc [.ref (ad 0 0), .int x1, .int x2] (Pre D (tysC cy) (GC cy ad S) (fun _ _ => True) sz)) (va_Qi (fun r (u : CSt) => out = r ∧ u = S) (fun u => Pst D (tysC cy) (AA (adrs (GC cy ad S)) sz) (GC cy ad u)) (AA (adrs (GC cy ad S)) sz)) 0 0 (AA (adrs (GC cy ad S)) sz) := by
  refine g_met (by decide) rfl (Nat.le_of_ble_eq_true rfl) ?_
  intro p e s m args below meth c K hw ls hl
  exact t_X7_familySize_d0_0 (cy := cy) K n S x1 x2  hm _ _ hw ls hl
end W_X7_familySize_d0
section W_X7_newFamily_d4
variable {p : Program} {l : Launch} {e : Env} {s : State} {m : MethodId} {args : Array Value} {below : List Frame} {meth : Method} {c : Code} {D : va_G} {A : Nat → Prop} {cy : Nat → ClassId} {ad : Nat → Nat → Nat} {Q : State → Prop}
abbrev rm_X7_newFamily_d4 : Room := { frames := 3, cells := 0, slots := 0, locals := 67 }
theorem in_X7_newFamily_X0 : ∀ w ∈ u_ws RX0 TX0 6, w ∈ wsX7_newFamily := by decide +kernel
theorem in_X7_newFamily_X2 : ∀ w ∈ u_ws RX2 TX2 4, w ∈ wsX7_newFamily := by decide +kernel
theorem in_X7_newFamily_X4 : ∀ w ∈ u_ws RX4 TX4 6, w ∈ wsX7_newFamily := by decide +kernel
theorem in_X7_newFamily_X7 : ∀ w ∈ u_ws RX7 TX7 11, w ∈ wsX7_newFamily := by decide +kernel
set_option maxRecDepth 100000 in
set_option maxHeartbeats 4000000 in
theorem t_X7_newFamily_d4_L33 (K : Cx p s m args meth c D A (tysC cy) RX7 cX7_newFamily 6 (some .int) wsX7_newFamily (fun _ _ => True)) (n : Nat) (x2 : Int32) (x3 : Nat) (x4 : Nat) (hb_x3 : x3 < 24) (hb_x4 : x4 < 9) (z : ((CSt × Int32) ⊕ CSt)) (hE0 : ∀ w : (CSt × Int32), z = .inl w → ∀ (H : Heap) (locs : List Loc), Wd D A s.heap (GC cy ad w.1) H locs → ∀ ls : Array Slot, lv_has ls 6 [(0, .ref (ad 0 0)), (2, .int x2), (3, .ref (ad 11 x3)), (4, .ref (ad 3 x4)), (5, .int w.2)] → W p l e rm_X7_newFamily_d4 s m args below meth c H locs 0 0 Q (F0 m 93 ls [])) (hE1 : ∀ w : CSt, z = .inr w → ∀ (H : Heap) (locs : List Loc), Wd D A s.heap (GC cy ad w) H locs → ∀ ls : Array Slot, lv_has ls 6 [(3, .ref (ad 11 x3))] → W p l e rm_X7_newFamily_d4 s m args below meth c H locs 0 0 Q (F0 m 132 ls [])) : ∀ (x : (CSt × Int32)), lpO (b_X7_newFamily_d4_33 n x2 x3 x4) n x = some z → (fun (x : (CSt × Int32)) => ∀ (H : Heap) (locs : List Loc), Wd D A s.heap (GC cy ad x.1) H locs → ∀ ls : Array Slot, lv_has ls 6 [(0, .ref (ad 0 0)), (2, .int x2), (3, .ref (ad 11 x3)), (4, .ref (ad 3 x4)), (5, .int x.2)] → W p l e rm_X7_newFamily_d4 s m args below meth c H locs 0 0 Q (F0 m 33 ls [])) x := by
  intro x hx0
  refine lpO_ind2 (P := fun (x : (CSt × Int32)) => ∀ (H : Heap) (locs : List Loc), Wd D A s.heap (GC cy ad x.1) H locs → ∀ ls : Array Slot, lv_has ls 6 [(0, .ref (ad 0 0)), (2, .int x2), (3, .ref (ad 11 x3)), (4, .ref (ad 3 x4)), (5, .int x.2)] → W p l e rm_X7_newFamily_d4 s m args below meth c H locs 0 0 Q (F0 m 33 ls [])) (z := z) ?_ n x hx0
  clear hx0 x
  intro x out hm hg H locs hw ls hl 
  obtain ⟨hx, hb, hml, hown, hts, hr, hlo, hK, hA, hX⟩ := id K
  unfold b_X7_newFamily_d4_33 at hm
  refine lv_iload hx hb dX7_newFamily_33 (lv_at hl 4 rfl) ?_
  refine lv_aload hx hb dX7_newFamily_35 (lv_at hl 3 rfl) ?_
  refine g_get (ref := "MigrantHeap$Shape") (C := RX4) (T := TX4) (N := 6) (ci := 4) K in_X7_newFamily_X4 hw 3 rfl hb_x4 rfl rfl 0 (by decide) (List.mem_of_getElem? (i := 3) rfl) rfl rfl dX7_newFamily_37 ?_
  refine lv_icmp_ge (tgt := 132) hx hb dX7_newFamily_40 (by decide) (fun c57 => ?_) (fun c57 => ?_)
  · replace hm := (if_pos c57).symm.trans hm
    obtain rfl := Option.some.inj hm
    exact hE1 _ hg.symm H locs hw ls (lv_sub hl [2] rfl)
  · replace hm := (if_neg c57).symm.trans hm
    refine lv_aload hx hb dX7_newFamily_43 (lv_at hl 3 rfl) ?_
    refine lv_iload hx hb dX7_newFamily_45 (lv_at hl 4 rfl) ?_
    obtain ⟨z59, hc58, hm⟩ := bindS hm
    refine g_calli (GG := GC cy ad) K hw (va_runV (As := [.int x.2]) (rest := []) (g_fix K) (c_X4_isNumber l D cy ad H.size n x.1 x4 x.2 hb_x4 hc58) (cwV 1 (g_hts K) gX7_newFamily_X4_isNumber rfl rfl rfl (by decide +kernel) ⟨Nat.le_of_ble_eq_true rfl, Nat.le_of_ble_eq_true rfl⟩) ⟨g_blind rides_none, g_recv K hw 3 rfl hb_x4 rfl rfl, g_pre (X2 := fun _ _ => True) K hw (fun _ _ _ => trivial)⟩ rfl rfl hl.1 rfl (lv_room (Nat.le_of_ble_eq_true rfl)) dX7_newFamily_47 ⟨Nat.le_of_ble_eq_true rfl, Nat.le_of_ble_eq_true rfl⟩) (fun r u H locs hp hw => ?_)
    obtain ⟨rfl, hu⟩ := hp
    rw [hu] at hw
    refine lv_if_eq (tgt := 83) hx hb dX7_newFamily_50 (by decide) (fun c60 => ?_) (fun c60 => ?_)
    · replace hm := (if_pos c60).symm.trans hm
      refine lv_aload hx hb dX7_newFamily_83 (lv_at hl 3 rfl) ?_
      refine lv_iload hx hb dX7_newFamily_85 (lv_at hl 4 rfl) ?_
      obtain ⟨z62, hc61, hm⟩ := bindS hm
      refine g_calli (GG := GC cy ad) K hw (va_runV (As := [.int x.2]) (rest := []) (g_fix K) (c_X4_isOwning l D cy ad H.size n x.1 x4 x.2 hb_x4 hc61) (cwV 1 (g_hts K) gX7_newFamily_X4_isOwning rfl rfl rfl (by decide +kernel) ⟨Nat.le_of_ble_eq_true rfl, Nat.le_of_ble_eq_true rfl⟩) ⟨g_blind rides_none, g_recv K hw 3 rfl hb_x4 rfl rfl, g_pre (X2 := fun _ _ => True) K hw (fun _ _ _ => trivial)⟩ rfl rfl hl.1 rfl (lv_room (Nat.le_of_ble_eq_true rfl)) dX7_newFamily_87 ⟨Nat.le_of_ble_eq_true rfl, Nat.le_of_ble_eq_true rfl⟩) (fun r u H locs hp hw => ?_)
      obtain ⟨rfl, hu⟩ := hp
      rw [hu] at hw
      refine lv_if_eq (tgt := 118) hx hb dX7_newFamily_90 (by decide) (fun c63 => ?_) (fun c63 => ?_)
      · replace hm := (if_pos c63).symm.trans hm
        refine lv_aload_n hx hb dX7_newFamily_118 rfl (lv_at hl 2 rfl) ?_
        refine g_get (ref := "MigrantHeap$Entry") (C := RX0) (T := TX0) (N := 6) (ci := 0) K in_X7_newFamily_X0 hw 11 rfl hb_x3 rfl rfl 4 (by decide) (List.mem_of_getElem? (i := 4) rfl) rfl rfl dX7_newFamily_119 ?_
        refine lv_iload hx hb dX7_newFamily_122 (lv_at hl 4 rfl) ?_
        refine lv_iconst (v := 0) hx hb dX7_newFamily_124 (by decide) ?_
        obtain ⟨h64, hm⟩ := chkS hm
        refine g_iast K hw 12 0 rfl hb_x3 rfl rfl h64 dX7_newFamily_125 (eC_17 cy ad x.1 x3 x.2.toNatClampNeg 0) (fun H locs hw => ?_)
        obtain ⟨S65, hS65, hm⟩ := nm_ex hm
        rw [← hS65] at hw
        obtain ⟨x66, hx66, hm⟩ := nm_ex hm
        refine lv_iinc (v := x66) (lv' := [(5, .int x66), (0, .ref (ad 0 0)), (2, .int x2), (3, .ref (ad 11 x3)), (4, .ref (ad 3 x4))]) hx hb dX7_newFamily_126 hl (k := 4) rfl (by rw [hx66]; rfl) (by decide) rfl (fun ls hl => ?_)
        refine lv_goto (tgt := 33) hx hb dX7_newFamily_129 (by decide) ?_
        obtain rfl := Option.some.inj hm
        exact hg H locs hw ls (lv_sub hl [1, 2, 3, 4, 0] rfl)
      · replace hm := (if_neg c63).symm.trans hm
        obtain rfl := Option.some.inj hm
        exact hE0 _ hg.symm H locs hw ls (lv_sub hl [0, 1, 2, 3, 4] rfl)
    · replace hm := (if_neg c60).symm.trans hm
      refine lv_aload_n hx hb dX7_newFamily_53 rfl (lv_at hl 2 rfl) ?_
      refine g_get (ref := "MigrantHeap$Entry") (C := RX0) (T := TX0) (N := 6) (ci := 0) K in_X7_newFamily_X0 hw 11 rfl hb_x3 rfl rfl 4 (by decide) (List.mem_of_getElem? (i := 4) rfl) rfl rfl dX7_newFamily_54 ?_
      refine lv_iload hx hb dX7_newFamily_57 (lv_at hl 4 rfl) ?_
      refine lv_iconst (v := 0) hx hb dX7_newFamily_59 (by decide) ?_
      refine lv_aload hx hb dX7_newFamily_60 (lv_at hl 3 rfl) ?_
      refine g_get (ref := "MigrantHeap$Shape") (C := RX4) (T := TX4) (N := 6) (ci := 4) K in_X7_newFamily_X4 hw 3 rfl hb_x4 rfl rfl 3 (by decide) (List.mem_of_getElem? (i := 5) rfl) rfl rfl dX7_newFamily_62 ?_
      refine lv_iload hx hb dX7_newFamily_65 (lv_at hl 4 rfl) ?_
      obtain ⟨h67, hm⟩ := chkS hm
      refine g_iald K hw 6 0 rfl hb_x4 rfl rfl h67 dX7_newFamily_67 ?_
      refine lv_aload hx hb dX7_newFamily_68 (lv_at hl 3 rfl) ?_
      refine g_get (ref := "MigrantHeap$Shape") (C := RX4) (T := TX4) (N := 6) (ci := 4) K in_X7_newFamily_X4 hw 3 rfl hb_x4 rfl rfl 4 (by decide) (List.mem_of_getElem? (i := 6) rfl) rfl rfl dX7_newFamily_70 ?_
      refine lv_iload hx hb dX7_newFamily_73 (lv_at hl 4 rfl) ?_
      obtain ⟨h68, hm⟩ := chkS hm
      refine g_iald K hw 7 0 rfl hb_x4 rfl rfl h68 dX7_newFamily_75 ?_
      obtain ⟨z70, hc69, hm⟩ := bindS hm
      refine g_calli (GG := GC cy ad) K hw (va_runS (As := [.int 0, .int (x.1.1 8 x4 x.2.toNatClampNeg), .int (x.1.1 9 x4 x.2.toNatClampNeg)]) (rest := [.int x.2, .ref (ad 12 x3)]) (g_fix K) (c_X7_nearest l D cy ad H.size n x.1 0 (x.1.1 8 x4 x.2.toNatClampNeg) (x.1.1 9 x4 x.2.toNatClampNeg)  hc69) (va_cwS 3 (g_hts K) gX7_newFamily_X7_nearest rfl rfl rfl (by decide +kernel) ⟨Nat.le_of_ble_eq_true rfl, Nat.le_of_ble_eq_true rfl⟩) ⟨g_blind rides_none, g_pre (X2 := fun _ _ => True) K hw (fun _ _ _ => trivial)⟩ rfl rfl hl.1 rfl (lv_room (Nat.le_of_ble_eq_true rfl)) dX7_newFamily_76 ⟨Nat.le_of_ble_eq_true rfl, Nat.le_of_ble_eq_true rfl⟩) (fun r u H locs hp hw => ?_)
      obtain ⟨rfl, hu⟩ := hp
      rw [hu] at hw
      obtain ⟨h71, hm⟩ := chkS hm
      refine g_iast K hw 12 0 rfl hb_x3 rfl rfl h71 dX7_newFamily_79 (eC_17 cy ad x.1 x3 x.2.toNatClampNeg z70) (fun H locs hw => ?_)
      obtain ⟨S72, hS72, hm⟩ := nm_ex hm
      rw [← hS72] at hw
      refine lv_goto (tgt := 126) hx hb dX7_newFamily_80 (by decide) ?_
      obtain ⟨x73, hx73, hm⟩ := nm_ex hm
      refine lv_iinc (v := x73) (lv' := [(5, .int x73), (0, .ref (ad 0 0)), (2, .int x2), (3, .ref (ad 11 x3)), (4, .ref (ad 3 x4))]) hx hb dX7_newFamily_126 hl (k := 4) rfl (by rw [hx73]; rfl) (by decide) rfl (fun ls hl => ?_)
      refine lv_goto (tgt := 33) hx hb dX7_newFamily_129 (by decide) ?_
      obtain rfl := Option.some.inj hm
      exact hg H locs hw ls (lv_sub hl [1, 2, 3, 4, 0] rfl)
set_option maxRecDepth 100000 in
set_option maxHeartbeats 4000000 in
theorem t_X7_newFamily_d4_0 (K : Cx p s m args meth c D A (tysC cy) RX7 cX7_newFamily 6 (some .int) wsX7_newFamily (fun _ _ => True)) (n : Nat) (S : CSt) (x1 : Int32) (x2 : Int32)  {out : Int32 × CSt} (hm : m_X7_newFamily_d4 n S x1 x2 = some out) : ∀ (H : Heap) (locs : List Loc), Wd D A s.heap (GC cy ad S) H locs → ∀ ls : Array Slot, lv_has ls 6 [(0, .ref (ad 0 0)), (1, .int x1), (2, .int x2)] → W p l e rm_X7_newFamily_d4 s m args below meth c H locs 0 0 (MQ below (va_Qi (fun r (u : CSt) => out = (r, u)) (fun u => Pst D (tysC cy) A (GC cy ad u)) A) args s 0 0 A) (F0 m 0 ls []) := by
  intro H locs hw ls hl
  obtain ⟨hx, hb, hml, hown, hts, hr, hlo, hK, hA, hX⟩ := id K
  unfold m_X7_newFamily_d4 at hm
  refine lv_iload_n hx hb dX7_newFamily_0 rfl (lv_at hl 2 rfl) ?_
  refine lv_iconst (v := 4) hx hb dX7_newFamily_1 (by decide) ?_
  refine lv_icmp_lt (tgt := 7) hx hb dX7_newFamily_2 (by decide) (fun c74 => ?_) (fun c74 => ?_)
  · replace hm := (if_pos c74).symm.trans hm
    refine lv_aload_n hx hb dX7_newFamily_7 rfl (lv_at hl 0 rfl) ?_
    refine lv_iload_n hx hb dX7_newFamily_8 rfl (lv_at hl 1 rfl) ?_
    obtain ⟨z76, hc75, hm⟩ := bindS hm
    refine g_callq (GG := GC cy ad) K hw (va_runV (As := [.int x1]) (rest := []) (g_fix K) (c_X7_newRecord l D cy ad H.size n S x1  hc75) (cwV 1 (g_hts K) gX7_newFamily_X7_newRecord rfl rfl rfl (by decide +kernel) ⟨Nat.le_of_ble_eq_true rfl, Nat.le_of_ble_eq_true rfl⟩) ⟨g_blind rides_none, g_recv K hw 0 rfl (by decide : 0 < 1) rfl rfl, g_pre (X2 := fun _ _ => True) K hw (fun _ _ _ => trivial)⟩ rfl rfl hl.1 rfl (lv_room (Nat.le_of_ble_eq_true rfl)) dX7_newFamily_9 ⟨Nat.le_of_ble_eq_true rfl, Nat.le_of_ble_eq_true rfl⟩) (fun r u H locs hp hw => ?_)
    obtain ⟨rfl, rfl⟩ := hp
    rcases hq79 : z76.1 with _ | i77
    · rw [hq79] at hm
      replace hm := (optN _ _).symm.trans hm
      refine W.eq (g2 := F0 m 12 ls (.null :: [])) (by first | rfl | (rw [hq79]; rfl)) ?_
      refine lv_astore_nN (lv' := [(3, .null), (0, .ref (ad 0 0)), (1, .int x1), (2, .int x2)]) hx hb dX7_newFamily_12 rfl hl (by decide) rfl (fun ls hl => ?_)
      refine lv_aload_nN hx hb dX7_newFamily_13 rfl (lv_at hl 0 rfl) ?_
      refine lv_ifnonnullN hx hb dX7_newFamily_14 ?_
      refine lv_iconst (v := 0) hx hb dX7_newFamily_17 (by decide) ?_
      exact g_iret (GG := GC cy ad) K hw (Option.some.inj hm).symm dX7_newFamily_18
    · rw [hq79] at hm
      replace hm := (optS _ _ _).symm.trans hm
      obtain ⟨h78, hm⟩ := chkS hm
      replace h78 := of_decide_eq_true h78
      refine W.eq (g2 := F0 m 12 ls (.ref (ad 11 i77) :: [])) (by first | rfl | (rw [hq79]; rfl)) ?_
      refine lv_astore_n (lv' := [(3, .ref (ad 11 i77)), (0, .ref (ad 0 0)), (1, .int x1), (2, .int x2)]) hx hb dX7_newFamily_12 rfl hl (by decide) rfl (fun ls hl => ?_)
      refine lv_aload_n hx hb dX7_newFamily_13 rfl (lv_at hl 0 rfl) ?_
      refine lv_ifnonnull (tgt := 19) hx hb dX7_newFamily_14 (by decide) ?_
      refine lv_aload_n hx hb dX7_newFamily_19 rfl (lv_at hl 1 rfl) ?_
      refine g_get (ref := "MigrantHeap") (C := RX7) (T := TX7) (N := 11) (ci := 7) K in_X7_newFamily_X7 hw 0 rfl (by decide : 0 < 1) rfl rfl 0 (by decide) (List.mem_of_getElem? (i := 1) rfl) rfl rfl dX7_newFamily_20 ?_
      refine lv_iload_n hx hb dX7_newFamily_23 rfl (lv_at hl 2 rfl) ?_
      obtain ⟨h80, hm⟩ := chkS hm
      refine g_aald K hw 1 4 rfl (by decide) rfl rfl h80 dX7_newFamily_24 ?_
      refine g_get (ref := "MigrantHeap$Kind") (C := RX2) (T := TX2) (N := 4) (ci := 2) K in_X7_newFamily_X2 hw 2 rfl (inB_lt h80) rfl rfl 2 (by decide) (List.mem_of_getElem? (i := 2) rfl) rfl rfl dX7_newFamily_25 ?_
      refine lv_astore (lv' := [(4, .ref (ad 3 (2 * x1.toNatClampNeg))), (3, .ref (ad 11 i77)), (0, .ref (ad 0 0)), (1, .int x1), (2, .int x2)]) hx hb dX7_newFamily_28 hl (by decide) rfl (fun ls hl => ?_)
      refine lv_iconst (v := 0) hx hb dX7_newFamily_30 (by decide) ?_
      refine lv_istore (lv' := [(5, .int 0), (4, .ref (ad 3 (2 * x1.toNatClampNeg))), (3, .ref (ad 11 i77)), (0, .ref (ad 0 0)), (1, .int x1), (2, .int x2)]) hx hb dX7_newFamily_31 hl (by decide) rfl (fun ls hl => ?_)
      obtain ⟨z81, hz82, hm⟩ := bindS hm
      refine t_X7_newFamily_d4_L33 K n x2 i77 (2 * x1.toNatClampNeg) h78 (by have := (inB_lt h80); omega : (2 * x1.toNatClampNeg) < 9) z81 (fun w83 hww83 => ?_) (fun w84 hww84 => ?_) ((z76.2, 0)) hz82 H locs hw ls (lv_sub hl [3, 5, 2, 1, 0] rfl)
      · intro H locs hw ls hl 
        subst hww83
        replace hm := (sumL _ _ _).symm.trans hm
        refine lv_aload_n hx hb dX7_newFamily_93 rfl (lv_at hl 2 rfl) ?_
        refine g_get (ref := "MigrantHeap$Entry") (C := RX0) (T := TX0) (N := 6) (ci := 0) K in_X7_newFamily_X0 hw 11 rfl h78 rfl rfl 4 (by decide) (List.mem_of_getElem? (i := 4) rfl) rfl rfl dX7_newFamily_94 ?_
        refine lv_iload hx hb dX7_newFamily_97 (lv_at hl 4 rfl) ?_
        refine lv_aload_n hx hb dX7_newFamily_99 rfl (lv_at hl 0 rfl) ?_
        refine lv_aload hx hb dX7_newFamily_100 (lv_at hl 3 rfl) ?_
        refine g_get (ref := "MigrantHeap$Shape") (C := RX4) (T := TX4) (N := 6) (ci := 4) K in_X7_newFamily_X4 hw 3 rfl (by have := (inB_lt h80); omega : (2 * x1.toNatClampNeg) < 9) rfl rfl 3 (by decide) (List.mem_of_getElem? (i := 5) rfl) rfl rfl dX7_newFamily_102 ?_
        refine lv_iload hx hb dX7_newFamily_105 (lv_at hl 4 rfl) ?_
        obtain ⟨h85, hm⟩ := chkS hm
        refine g_iald K hw 6 0 rfl (by have := (inB_lt h80); omega : (2 * x1.toNatClampNeg) < 9) rfl rfl h85 dX7_newFamily_107 ?_
        refine lv_iload_n hx hb dX7_newFamily_108 rfl (lv_at hl 1 rfl) ?_
        refine lv_iconst (v := 1) hx hb dX7_newFamily_109 (by decide) ?_
        refine lv_iadd hx hb dX7_newFamily_110 ?_
        cases hm
      · intro H locs hw ls hl 
        subst hww84
        replace hm := (sumR _ _ _).symm.trans hm
        refine lv_aload_n hx hb dX7_newFamily_132 rfl (lv_at hl 0 rfl) ?_
        refine g_get (ref := "MigrantHeap$Entry") (C := RX0) (T := TX0) (N := 6) (ci := 0) K in_X7_newFamily_X0 hw 11 rfl h78 rfl rfl 0 (by decide) (List.mem_of_getElem? (i := 7) rfl) rfl rfl dX7_newFamily_133 ?_
        exact g_iret (GG := GC cy ad) K hw (Option.some.inj hm).symm dX7_newFamily_136
  · replace hm := (if_neg c74).symm.trans hm
    refine lv_iconst (v := 0) hx hb dX7_newFamily_5 (by decide) ?_
    exact g_iret (GG := GC cy ad) K hw (Option.some.inj hm).symm dX7_newFamily_6
set_option maxRecDepth 100000 in
set_option maxHeartbeats 4000000 in
theorem c_X7_newFamily_d4 (l : Launch) (D : va_G) (cy : Nat → ClassId) (ad : Nat → Nat → Nat) (sz n : Nat) (S : CSt) (x1 : Int32) (x2 : Int32)  {out : Int32 × CSt} (hm : m_X7_newFamily_d4 n S x1 x2 = some out) : Met l yX7_newFamily wsX7_newFamily rm_X7_newFamily_d4 (va_Pc [.ref (ad 0 0), .int x1, .int x2] (Pre D (tysC cy) (GC cy ad S) (fun _ _ => True) sz)) (va_Qi (fun r (u : CSt) => out = (r, u)) (fun u => Pst D (tysC cy) (AA (adrs (GC cy ad S)) sz) (GC cy ad u)) (AA (adrs (GC cy ad S)) sz)) 0 0 (AA (adrs (GC cy ad S)) sz) := by
  refine g_met (by decide) rfl (Nat.le_of_ble_eq_true rfl) ?_
  intro p e s m args below meth c K hw ls hl
  exact t_X7_newFamily_d4_0 (cy := cy) K n S x1 x2  hm _ _ hw ls hl
end W_X7_newFamily_d4
section W_X7_newFamily_d3
variable {p : Program} {l : Launch} {e : Env} {s : State} {m : MethodId} {args : Array Value} {below : List Frame} {meth : Method} {c : Code} {D : va_G} {A : Nat → Prop} {cy : Nat → ClassId} {ad : Nat → Nat → Nat} {Q : State → Prop}
abbrev rm_X7_newFamily_d3 : Room := { frames := 4, cells := 0, slots := 0, locals := 92 }
set_option maxRecDepth 100000 in
set_option maxHeartbeats 4000000 in
theorem t_X7_newFamily_d3_L33 (K : Cx p s m args meth c D A (tysC cy) RX7 cX7_newFamily 6 (some .int) wsX7_newFamily (fun _ _ => True)) (n : Nat) (x2 : Int32) (x3 : Nat) (x4 : Nat) (hb_x3 : x3 < 24) (hb_x4 : x4 < 9) (z : CSt) (hE0 : ∀ w : CSt, z = w → ∀ (H : Heap) (locs : List Loc), Wd D A s.heap (GC cy ad w) H locs → ∀ ls : Array Slot, lv_has ls 6 [(3, .ref (ad 11 x3))] → W p l e rm_X7_newFamily_d3 s m args below meth c H locs 0 0 Q (F0 m 132 ls [])) : ∀ (x : (CSt × Int32)), lpO (b_X7_newFamily_d3_33 n x2 x3 x4) n x = some z → (fun (x : (CSt × Int32)) => ∀ (H : Heap) (locs : List Loc), Wd D A s.heap (GC cy ad x.1) H locs → ∀ ls : Array Slot, lv_has ls 6 [(0, .ref (ad 0 0)), (2, .int x2), (3, .ref (ad 11 x3)), (4, .ref (ad 3 x4)), (5, .int x.2)] → W p l e rm_X7_newFamily_d3 s m args below meth c H locs 0 0 Q (F0 m 33 ls [])) x := by
  intro x hx0
  refine lpO_ind2 (P := fun (x : (CSt × Int32)) => ∀ (H : Heap) (locs : List Loc), Wd D A s.heap (GC cy ad x.1) H locs → ∀ ls : Array Slot, lv_has ls 6 [(0, .ref (ad 0 0)), (2, .int x2), (3, .ref (ad 11 x3)), (4, .ref (ad 3 x4)), (5, .int x.2)] → W p l e rm_X7_newFamily_d3 s m args below meth c H locs 0 0 Q (F0 m 33 ls [])) (z := z) ?_ n x hx0
  clear hx0 x
  intro x out hm hg H locs hw ls hl 
  obtain ⟨hx, hb, hml, hown, hts, hr, hlo, hK, hA, hX⟩ := id K
  unfold b_X7_newFamily_d3_33 at hm
  refine lv_iload hx hb dX7_newFamily_33 (lv_at hl 4 rfl) ?_
  refine lv_aload hx hb dX7_newFamily_35 (lv_at hl 3 rfl) ?_
  refine g_get (ref := "MigrantHeap$Shape") (C := RX4) (T := TX4) (N := 6) (ci := 4) K in_X7_newFamily_X4 hw 3 rfl hb_x4 rfl rfl 0 (by decide) (List.mem_of_getElem? (i := 3) rfl) rfl rfl dX7_newFamily_37 ?_
  refine lv_icmp_ge (tgt := 132) hx hb dX7_newFamily_40 (by decide) (fun c71 => ?_) (fun c71 => ?_)
  · replace hm := (if_pos c71).symm.trans hm
    obtain rfl := Option.some.inj hm
    exact hE0 _ hg.symm H locs hw ls (lv_sub hl [2] rfl)
  · replace hm := (if_neg c71).symm.trans hm
    refine lv_aload hx hb dX7_newFamily_43 (lv_at hl 3 rfl) ?_
    refine lv_iload hx hb dX7_newFamily_45 (lv_at hl 4 rfl) ?_
    obtain ⟨z73, hc72, hm⟩ := bindS hm
    refine g_calli (GG := GC cy ad) K hw (va_runV (As := [.int x.2]) (rest := []) (g_fix K) (c_X4_isNumber l D cy ad H.size n x.1 x4 x.2 hb_x4 hc72) (cwV 1 (g_hts K) gX7_newFamily_X4_isNumber rfl rfl rfl (by decide +kernel) ⟨Nat.le_of_ble_eq_true rfl, Nat.le_of_ble_eq_true rfl⟩) ⟨g_blind rides_none, g_recv K hw 3 rfl hb_x4 rfl rfl, g_pre (X2 := fun _ _ => True) K hw (fun _ _ _ => trivial)⟩ rfl rfl hl.1 rfl (lv_room (Nat.le_of_ble_eq_true rfl)) dX7_newFamily_47 ⟨Nat.le_of_ble_eq_true rfl, Nat.le_of_ble_eq_true rfl⟩) (fun r u H locs hp hw => ?_)
    obtain ⟨rfl, hu⟩ := hp
    rw [hu] at hw
    refine lv_if_eq (tgt := 83) hx hb dX7_newFamily_50 (by decide) (fun c74 => ?_) (fun c74 => ?_)
    · replace hm := (if_pos c74).symm.trans hm
      refine lv_aload hx hb dX7_newFamily_83 (lv_at hl 3 rfl) ?_
      refine lv_iload hx hb dX7_newFamily_85 (lv_at hl 4 rfl) ?_
      obtain ⟨z76, hc75, hm⟩ := bindS hm
      refine g_calli (GG := GC cy ad) K hw (va_runV (As := [.int x.2]) (rest := []) (g_fix K) (c_X4_isOwning l D cy ad H.size n x.1 x4 x.2 hb_x4 hc75) (cwV 1 (g_hts K) gX7_newFamily_X4_isOwning rfl rfl rfl (by decide +kernel) ⟨Nat.le_of_ble_eq_true rfl, Nat.le_of_ble_eq_true rfl⟩) ⟨g_blind rides_none, g_recv K hw 3 rfl hb_x4 rfl rfl, g_pre (X2 := fun _ _ => True) K hw (fun _ _ _ => trivial)⟩ rfl rfl hl.1 rfl (lv_room (Nat.le_of_ble_eq_true rfl)) dX7_newFamily_87 ⟨Nat.le_of_ble_eq_true rfl, Nat.le_of_ble_eq_true rfl⟩) (fun r u H locs hp hw => ?_)
      obtain ⟨rfl, hu⟩ := hp
      rw [hu] at hw
      refine lv_if_eq (tgt := 118) hx hb dX7_newFamily_90 (by decide) (fun c77 => ?_) (fun c77 => ?_)
      · replace hm := (if_pos c77).symm.trans hm
        refine lv_aload_n hx hb dX7_newFamily_118 rfl (lv_at hl 2 rfl) ?_
        refine g_get (ref := "MigrantHeap$Entry") (C := RX0) (T := TX0) (N := 6) (ci := 0) K in_X7_newFamily_X0 hw 11 rfl hb_x3 rfl rfl 4 (by decide) (List.mem_of_getElem? (i := 4) rfl) rfl rfl dX7_newFamily_119 ?_
        refine lv_iload hx hb dX7_newFamily_122 (lv_at hl 4 rfl) ?_
        refine lv_iconst (v := 0) hx hb dX7_newFamily_124 (by decide) ?_
        obtain ⟨h78, hm⟩ := chkS hm
        refine g_iast K hw 12 0 rfl hb_x3 rfl rfl h78 dX7_newFamily_125 (eC_17 cy ad x.1 x3 x.2.toNatClampNeg 0) (fun H locs hw => ?_)
        obtain ⟨S79, hS79, hm⟩ := nm_ex hm
        rw [← hS79] at hw
        obtain ⟨x80, hx80, hm⟩ := nm_ex hm
        refine lv_iinc (v := x80) (lv' := [(5, .int x80), (0, .ref (ad 0 0)), (2, .int x2), (3, .ref (ad 11 x3)), (4, .ref (ad 3 x4))]) hx hb dX7_newFamily_126 hl (k := 4) rfl (by rw [hx80]; rfl) (by decide) rfl (fun ls hl => ?_)
        refine lv_goto (tgt := 33) hx hb dX7_newFamily_129 (by decide) ?_
        obtain rfl := Option.some.inj hm
        exact hg H locs hw ls (lv_sub hl [1, 2, 3, 4, 0] rfl)
      · replace hm := (if_neg c77).symm.trans hm
        refine lv_aload_n hx hb dX7_newFamily_93 rfl (lv_at hl 2 rfl) ?_
        refine g_get (ref := "MigrantHeap$Entry") (C := RX0) (T := TX0) (N := 6) (ci := 0) K in_X7_newFamily_X0 hw 11 rfl hb_x3 rfl rfl 4 (by decide) (List.mem_of_getElem? (i := 4) rfl) rfl rfl dX7_newFamily_94 ?_
        refine lv_iload hx hb dX7_newFamily_97 (lv_at hl 4 rfl) ?_
        refine lv_aload_n hx hb dX7_newFamily_99 rfl (lv_at hl 0 rfl) ?_
        refine lv_aload hx hb dX7_newFamily_100 (lv_at hl 3 rfl) ?_
        refine g_get (ref := "MigrantHeap$Shape") (C := RX4) (T := TX4) (N := 6) (ci := 4) K in_X7_newFamily_X4 hw 3 rfl hb_x4 rfl rfl 3 (by decide) (List.mem_of_getElem? (i := 5) rfl) rfl rfl dX7_newFamily_102 ?_
        refine lv_iload hx hb dX7_newFamily_105 (lv_at hl 4 rfl) ?_
        obtain ⟨h81, hm⟩ := chkS hm
        refine g_iald K hw 6 0 rfl hb_x4 rfl rfl h81 dX7_newFamily_107 ?_
        refine lv_iload_n hx hb dX7_newFamily_108 rfl (lv_at hl 1 rfl) ?_
        refine lv_iconst (v := 1) hx hb dX7_newFamily_109 (by decide) ?_
        refine lv_iadd hx hb dX7_newFamily_110 ?_
        obtain ⟨z83, hc82, hm⟩ := bindS hm
        refine g_calli (GG := GC cy ad) K hw (va_runV (As := [.int (x.1.1 8 x4 x.2.toNatClampNeg), .int (x2 + 1)]) (rest := [.int x.2, .ref (ad 12 x3)]) (g_fix K) (c_X7_newFamily_d4 l D cy ad H.size n x.1 (x.1.1 8 x4 x.2.toNatClampNeg) (x2 + 1)  hc82) (cwV 2 (g_hts K) gX7_newFamily_X7_newFamily rfl rfl rfl (by decide +kernel) ⟨Nat.le_of_ble_eq_true rfl, Nat.le_of_ble_eq_true rfl⟩) ⟨g_blind rides_none, g_recv K hw 0 rfl (by decide : 0 < 1) rfl rfl, g_pre (X2 := fun _ _ => True) K hw (fun _ _ _ => trivial)⟩ rfl rfl hl.1 rfl (lv_room (Nat.le_of_ble_eq_true rfl)) dX7_newFamily_111 ⟨Nat.le_of_ble_eq_true rfl, Nat.le_of_ble_eq_true rfl⟩) (fun r u H locs hp hw => ?_)
        obtain ⟨rfl, rfl⟩ : r = z83.1 ∧ u = z83.2 := by rw [hp]; exact ⟨rfl, rfl⟩
        obtain ⟨h84, hm⟩ := chkS hm
        refine g_iast K hw 12 0 rfl hb_x3 rfl rfl h84 dX7_newFamily_114 (eC_17 cy ad z83.2 x3 x.2.toNatClampNeg z83.1) (fun H locs hw => ?_)
        obtain ⟨S85, hS85, hm⟩ := nm_ex hm
        rw [← hS85] at hw
        refine lv_goto (tgt := 126) hx hb dX7_newFamily_115 (by decide) ?_
        obtain ⟨x86, hx86, hm⟩ := nm_ex hm
        refine lv_iinc (v := x86) (lv' := [(5, .int x86), (0, .ref (ad 0 0)), (2, .int x2), (3, .ref (ad 11 x3)), (4, .ref (ad 3 x4))]) hx hb dX7_newFamily_126 hl (k := 4) rfl (by rw [hx86]; rfl) (by decide) rfl (fun ls hl => ?_)
        refine lv_goto (tgt := 33) hx hb dX7_newFamily_129 (by decide) ?_
        obtain rfl := Option.some.inj hm
        exact hg H locs hw ls (lv_sub hl [1, 2, 3, 4, 0] rfl)
    · replace hm := (if_neg c74).symm.trans hm
      refine lv_aload_n hx hb dX7_newFamily_53 rfl (lv_at hl 2 rfl) ?_
      refine g_get (ref := "MigrantHeap$Entry") (C := RX0) (T := TX0) (N := 6) (ci := 0) K in_X7_newFamily_X0 hw 11 rfl hb_x3 rfl rfl 4 (by decide) (List.mem_of_getElem? (i := 4) rfl) rfl rfl dX7_newFamily_54 ?_
      refine lv_iload hx hb dX7_newFamily_57 (lv_at hl 4 rfl) ?_
      refine lv_iconst (v := 0) hx hb dX7_newFamily_59 (by decide) ?_
      refine lv_aload hx hb dX7_newFamily_60 (lv_at hl 3 rfl) ?_
      refine g_get (ref := "MigrantHeap$Shape") (C := RX4) (T := TX4) (N := 6) (ci := 4) K in_X7_newFamily_X4 hw 3 rfl hb_x4 rfl rfl 3 (by decide) (List.mem_of_getElem? (i := 5) rfl) rfl rfl dX7_newFamily_62 ?_
      refine lv_iload hx hb dX7_newFamily_65 (lv_at hl 4 rfl) ?_
      obtain ⟨h87, hm⟩ := chkS hm
      refine g_iald K hw 6 0 rfl hb_x4 rfl rfl h87 dX7_newFamily_67 ?_
      refine lv_aload hx hb dX7_newFamily_68 (lv_at hl 3 rfl) ?_
      refine g_get (ref := "MigrantHeap$Shape") (C := RX4) (T := TX4) (N := 6) (ci := 4) K in_X7_newFamily_X4 hw 3 rfl hb_x4 rfl rfl 4 (by decide) (List.mem_of_getElem? (i := 6) rfl) rfl rfl dX7_newFamily_70 ?_
      refine lv_iload hx hb dX7_newFamily_73 (lv_at hl 4 rfl) ?_
      obtain ⟨h88, hm⟩ := chkS hm
      refine g_iald K hw 7 0 rfl hb_x4 rfl rfl h88 dX7_newFamily_75 ?_
      obtain ⟨z90, hc89, hm⟩ := bindS hm
      refine g_calli (GG := GC cy ad) K hw (va_runS (As := [.int 0, .int (x.1.1 8 x4 x.2.toNatClampNeg), .int (x.1.1 9 x4 x.2.toNatClampNeg)]) (rest := [.int x.2, .ref (ad 12 x3)]) (g_fix K) (c_X7_nearest l D cy ad H.size n x.1 0 (x.1.1 8 x4 x.2.toNatClampNeg) (x.1.1 9 x4 x.2.toNatClampNeg)  hc89) (va_cwS 3 (g_hts K) gX7_newFamily_X7_nearest rfl rfl rfl (by decide +kernel) ⟨Nat.le_of_ble_eq_true rfl, Nat.le_of_ble_eq_true rfl⟩) ⟨g_blind rides_none, g_pre (X2 := fun _ _ => True) K hw (fun _ _ _ => trivial)⟩ rfl rfl hl.1 rfl (lv_room (Nat.le_of_ble_eq_true rfl)) dX7_newFamily_76 ⟨Nat.le_of_ble_eq_true rfl, Nat.le_of_ble_eq_true rfl⟩) (fun r u H locs hp hw => ?_)
      obtain ⟨rfl, hu⟩ := hp
      rw [hu] at hw
      obtain ⟨h91, hm⟩ := chkS hm
      refine g_iast K hw 12 0 rfl hb_x3 rfl rfl h91 dX7_newFamily_79 (eC_17 cy ad x.1 x3 x.2.toNatClampNeg z90) (fun H locs hw => ?_)
      obtain ⟨S92, hS92, hm⟩ := nm_ex hm
      rw [← hS92] at hw
      refine lv_goto (tgt := 126) hx hb dX7_newFamily_80 (by decide) ?_
      obtain ⟨x93, hx93, hm⟩ := nm_ex hm
      refine lv_iinc (v := x93) (lv' := [(5, .int x93), (0, .ref (ad 0 0)), (2, .int x2), (3, .ref (ad 11 x3)), (4, .ref (ad 3 x4))]) hx hb dX7_newFamily_126 hl (k := 4) rfl (by rw [hx93]; rfl) (by decide) rfl (fun ls hl => ?_)
      refine lv_goto (tgt := 33) hx hb dX7_newFamily_129 (by decide) ?_
      obtain rfl := Option.some.inj hm
      exact hg H locs hw ls (lv_sub hl [1, 2, 3, 4, 0] rfl)
set_option maxRecDepth 100000 in
set_option maxHeartbeats 4000000 in
theorem t_X7_newFamily_d3_0 (K : Cx p s m args meth c D A (tysC cy) RX7 cX7_newFamily 6 (some .int) wsX7_newFamily (fun _ _ => True)) (n : Nat) (S : CSt) (x1 : Int32) (x2 : Int32)  {out : Int32 × CSt} (hm : m_X7_newFamily_d3 n S x1 x2 = some out) : ∀ (H : Heap) (locs : List Loc), Wd D A s.heap (GC cy ad S) H locs → ∀ ls : Array Slot, lv_has ls 6 [(0, .ref (ad 0 0)), (1, .int x1), (2, .int x2)] → W p l e rm_X7_newFamily_d3 s m args below meth c H locs 0 0 (MQ below (va_Qi (fun r (u : CSt) => out = (r, u)) (fun u => Pst D (tysC cy) A (GC cy ad u)) A) args s 0 0 A) (F0 m 0 ls []) := by
  intro H locs hw ls hl
  obtain ⟨hx, hb, hml, hown, hts, hr, hlo, hK, hA, hX⟩ := id K
  unfold m_X7_newFamily_d3 at hm
  refine lv_iload_n hx hb dX7_newFamily_0 rfl (lv_at hl 2 rfl) ?_
  refine lv_iconst (v := 4) hx hb dX7_newFamily_1 (by decide) ?_
  refine lv_icmp_lt (tgt := 7) hx hb dX7_newFamily_2 (by decide) (fun c94 => ?_) (fun c94 => ?_)
  · replace hm := (if_pos c94).symm.trans hm
    refine lv_aload_n hx hb dX7_newFamily_7 rfl (lv_at hl 0 rfl) ?_
    refine lv_iload_n hx hb dX7_newFamily_8 rfl (lv_at hl 1 rfl) ?_
    obtain ⟨z96, hc95, hm⟩ := bindS hm
    refine g_callq (GG := GC cy ad) K hw (va_runV (As := [.int x1]) (rest := []) (g_fix K) (c_X7_newRecord l D cy ad H.size n S x1  hc95) (cwV 1 (g_hts K) gX7_newFamily_X7_newRecord rfl rfl rfl (by decide +kernel) ⟨Nat.le_of_ble_eq_true rfl, Nat.le_of_ble_eq_true rfl⟩) ⟨g_blind rides_none, g_recv K hw 0 rfl (by decide : 0 < 1) rfl rfl, g_pre (X2 := fun _ _ => True) K hw (fun _ _ _ => trivial)⟩ rfl rfl hl.1 rfl (lv_room (Nat.le_of_ble_eq_true rfl)) dX7_newFamily_9 ⟨Nat.le_of_ble_eq_true rfl, Nat.le_of_ble_eq_true rfl⟩) (fun r u H locs hp hw => ?_)
    obtain ⟨rfl, rfl⟩ := hp
    rcases hq99 : z96.1 with _ | i97
    · rw [hq99] at hm
      replace hm := (optN _ _).symm.trans hm
      refine W.eq (g2 := F0 m 12 ls (.null :: [])) (by first | rfl | (rw [hq99]; rfl)) ?_
      refine lv_astore_nN (lv' := [(3, .null), (0, .ref (ad 0 0)), (1, .int x1), (2, .int x2)]) hx hb dX7_newFamily_12 rfl hl (by decide) rfl (fun ls hl => ?_)
      refine lv_aload_nN hx hb dX7_newFamily_13 rfl (lv_at hl 0 rfl) ?_
      refine lv_ifnonnullN hx hb dX7_newFamily_14 ?_
      refine lv_iconst (v := 0) hx hb dX7_newFamily_17 (by decide) ?_
      exact g_iret (GG := GC cy ad) K hw (Option.some.inj hm).symm dX7_newFamily_18
    · rw [hq99] at hm
      replace hm := (optS _ _ _).symm.trans hm
      obtain ⟨h98, hm⟩ := chkS hm
      replace h98 := of_decide_eq_true h98
      refine W.eq (g2 := F0 m 12 ls (.ref (ad 11 i97) :: [])) (by first | rfl | (rw [hq99]; rfl)) ?_
      refine lv_astore_n (lv' := [(3, .ref (ad 11 i97)), (0, .ref (ad 0 0)), (1, .int x1), (2, .int x2)]) hx hb dX7_newFamily_12 rfl hl (by decide) rfl (fun ls hl => ?_)
      refine lv_aload_n hx hb dX7_newFamily_13 rfl (lv_at hl 0 rfl) ?_
      refine lv_ifnonnull (tgt := 19) hx hb dX7_newFamily_14 (by decide) ?_
      refine lv_aload_n hx hb dX7_newFamily_19 rfl (lv_at hl 1 rfl) ?_
      refine g_get (ref := "MigrantHeap") (C := RX7) (T := TX7) (N := 11) (ci := 7) K in_X7_newFamily_X7 hw 0 rfl (by decide : 0 < 1) rfl rfl 0 (by decide) (List.mem_of_getElem? (i := 1) rfl) rfl rfl dX7_newFamily_20 ?_
      refine lv_iload_n hx hb dX7_newFamily_23 rfl (lv_at hl 2 rfl) ?_
      obtain ⟨h100, hm⟩ := chkS hm
      refine g_aald K hw 1 4 rfl (by decide) rfl rfl h100 dX7_newFamily_24 ?_
      refine g_get (ref := "MigrantHeap$Kind") (C := RX2) (T := TX2) (N := 4) (ci := 2) K in_X7_newFamily_X2 hw 2 rfl (inB_lt h100) rfl rfl 2 (by decide) (List.mem_of_getElem? (i := 2) rfl) rfl rfl dX7_newFamily_25 ?_
      refine lv_astore (lv' := [(4, .ref (ad 3 (2 * x1.toNatClampNeg))), (3, .ref (ad 11 i97)), (0, .ref (ad 0 0)), (1, .int x1), (2, .int x2)]) hx hb dX7_newFamily_28 hl (by decide) rfl (fun ls hl => ?_)
      refine lv_iconst (v := 0) hx hb dX7_newFamily_30 (by decide) ?_
      refine lv_istore (lv' := [(5, .int 0), (4, .ref (ad 3 (2 * x1.toNatClampNeg))), (3, .ref (ad 11 i97)), (0, .ref (ad 0 0)), (1, .int x1), (2, .int x2)]) hx hb dX7_newFamily_31 hl (by decide) rfl (fun ls hl => ?_)
      obtain ⟨z101, hz102, hm⟩ := bindS hm
      refine t_X7_newFamily_d3_L33 K n x2 i97 (2 * x1.toNatClampNeg) h98 (by have := (inB_lt h100); omega : (2 * x1.toNatClampNeg) < 9) z101 (fun w103 hww103 => ?_) ((z96.2, 0)) hz102 H locs hw ls (lv_sub hl [3, 5, 2, 1, 0] rfl)
      · intro H locs hw ls hl 
        try rw [hww103] at hm
        refine lv_aload_n hx hb dX7_newFamily_132 rfl (lv_at hl 0 rfl) ?_
        refine g_get (ref := "MigrantHeap$Entry") (C := RX0) (T := TX0) (N := 6) (ci := 0) K in_X7_newFamily_X0 hw 11 rfl h98 rfl rfl 0 (by decide) (List.mem_of_getElem? (i := 7) rfl) rfl rfl dX7_newFamily_133 ?_
        exact g_iret (GG := GC cy ad) K hw (Option.some.inj hm).symm dX7_newFamily_136
  · replace hm := (if_neg c94).symm.trans hm
    refine lv_iconst (v := 0) hx hb dX7_newFamily_5 (by decide) ?_
    exact g_iret (GG := GC cy ad) K hw (Option.some.inj hm).symm dX7_newFamily_6
set_option maxRecDepth 100000 in
set_option maxHeartbeats 4000000 in
theorem c_X7_newFamily_d3 (l : Launch) (D : va_G) (cy : Nat → ClassId) (ad : Nat → Nat → Nat) (sz n : Nat) (S : CSt) (x1 : Int32) (x2 : Int32)  {out : Int32 × CSt} (hm : m_X7_newFamily_d3 n S x1 x2 = some out) : Met l yX7_newFamily wsX7_newFamily rm_X7_newFamily_d3 (va_Pc [.ref (ad 0 0), .int x1, .int x2] (Pre D (tysC cy) (GC cy ad S) (fun _ _ => True) sz)) (va_Qi (fun r (u : CSt) => out = (r, u)) (fun u => Pst D (tysC cy) (AA (adrs (GC cy ad S)) sz) (GC cy ad u)) (AA (adrs (GC cy ad S)) sz)) 0 0 (AA (adrs (GC cy ad S)) sz) := by
  refine g_met (by decide) rfl (Nat.le_of_ble_eq_true rfl) ?_
  intro p e s m args below meth c K hw ls hl
  exact t_X7_newFamily_d3_0 (cy := cy) K n S x1 x2  hm _ _ hw ls hl
end W_X7_newFamily_d3
section W_X7_newFamily_d2
variable {p : Program} {l : Launch} {e : Env} {s : State} {m : MethodId} {args : Array Value} {below : List Frame} {meth : Method} {c : Code} {D : va_G} {A : Nat → Prop} {cy : Nat → ClassId} {ad : Nat → Nat → Nat} {Q : State → Prop}
abbrev rm_X7_newFamily_d2 : Room := { frames := 5, cells := 0, slots := 0, locals := 117 }
set_option maxRecDepth 100000 in
set_option maxHeartbeats 4000000 in
theorem t_X7_newFamily_d2_L33 (K : Cx p s m args meth c D A (tysC cy) RX7 cX7_newFamily 6 (some .int) wsX7_newFamily (fun _ _ => True)) (n : Nat) (x2 : Int32) (x3 : Nat) (x4 : Nat) (hb_x3 : x3 < 24) (hb_x4 : x4 < 9) (z : CSt) (hE0 : ∀ w : CSt, z = w → ∀ (H : Heap) (locs : List Loc), Wd D A s.heap (GC cy ad w) H locs → ∀ ls : Array Slot, lv_has ls 6 [(3, .ref (ad 11 x3))] → W p l e rm_X7_newFamily_d2 s m args below meth c H locs 0 0 Q (F0 m 132 ls [])) : ∀ (x : (CSt × Int32)), lpO (b_X7_newFamily_d2_33 n x2 x3 x4) n x = some z → (fun (x : (CSt × Int32)) => ∀ (H : Heap) (locs : List Loc), Wd D A s.heap (GC cy ad x.1) H locs → ∀ ls : Array Slot, lv_has ls 6 [(0, .ref (ad 0 0)), (2, .int x2), (3, .ref (ad 11 x3)), (4, .ref (ad 3 x4)), (5, .int x.2)] → W p l e rm_X7_newFamily_d2 s m args below meth c H locs 0 0 Q (F0 m 33 ls [])) x := by
  intro x hx0
  refine lpO_ind2 (P := fun (x : (CSt × Int32)) => ∀ (H : Heap) (locs : List Loc), Wd D A s.heap (GC cy ad x.1) H locs → ∀ ls : Array Slot, lv_has ls 6 [(0, .ref (ad 0 0)), (2, .int x2), (3, .ref (ad 11 x3)), (4, .ref (ad 3 x4)), (5, .int x.2)] → W p l e rm_X7_newFamily_d2 s m args below meth c H locs 0 0 Q (F0 m 33 ls [])) (z := z) ?_ n x hx0
  clear hx0 x
  intro x out hm hg H locs hw ls hl 
  obtain ⟨hx, hb, hml, hown, hts, hr, hlo, hK, hA, hX⟩ := id K
  unfold b_X7_newFamily_d2_33 at hm
  refine lv_iload hx hb dX7_newFamily_33 (lv_at hl 4 rfl) ?_
  refine lv_aload hx hb dX7_newFamily_35 (lv_at hl 3 rfl) ?_
  refine g_get (ref := "MigrantHeap$Shape") (C := RX4) (T := TX4) (N := 6) (ci := 4) K in_X7_newFamily_X4 hw 3 rfl hb_x4 rfl rfl 0 (by decide) (List.mem_of_getElem? (i := 3) rfl) rfl rfl dX7_newFamily_37 ?_
  refine lv_icmp_ge (tgt := 132) hx hb dX7_newFamily_40 (by decide) (fun c71 => ?_) (fun c71 => ?_)
  · replace hm := (if_pos c71).symm.trans hm
    obtain rfl := Option.some.inj hm
    exact hE0 _ hg.symm H locs hw ls (lv_sub hl [2] rfl)
  · replace hm := (if_neg c71).symm.trans hm
    refine lv_aload hx hb dX7_newFamily_43 (lv_at hl 3 rfl) ?_
    refine lv_iload hx hb dX7_newFamily_45 (lv_at hl 4 rfl) ?_
    obtain ⟨z73, hc72, hm⟩ := bindS hm
    refine g_calli (GG := GC cy ad) K hw (va_runV (As := [.int x.2]) (rest := []) (g_fix K) (c_X4_isNumber l D cy ad H.size n x.1 x4 x.2 hb_x4 hc72) (cwV 1 (g_hts K) gX7_newFamily_X4_isNumber rfl rfl rfl (by decide +kernel) ⟨Nat.le_of_ble_eq_true rfl, Nat.le_of_ble_eq_true rfl⟩) ⟨g_blind rides_none, g_recv K hw 3 rfl hb_x4 rfl rfl, g_pre (X2 := fun _ _ => True) K hw (fun _ _ _ => trivial)⟩ rfl rfl hl.1 rfl (lv_room (Nat.le_of_ble_eq_true rfl)) dX7_newFamily_47 ⟨Nat.le_of_ble_eq_true rfl, Nat.le_of_ble_eq_true rfl⟩) (fun r u H locs hp hw => ?_)
    obtain ⟨rfl, hu⟩ := hp
    rw [hu] at hw
    refine lv_if_eq (tgt := 83) hx hb dX7_newFamily_50 (by decide) (fun c74 => ?_) (fun c74 => ?_)
    · replace hm := (if_pos c74).symm.trans hm
      refine lv_aload hx hb dX7_newFamily_83 (lv_at hl 3 rfl) ?_
      refine lv_iload hx hb dX7_newFamily_85 (lv_at hl 4 rfl) ?_
      obtain ⟨z76, hc75, hm⟩ := bindS hm
      refine g_calli (GG := GC cy ad) K hw (va_runV (As := [.int x.2]) (rest := []) (g_fix K) (c_X4_isOwning l D cy ad H.size n x.1 x4 x.2 hb_x4 hc75) (cwV 1 (g_hts K) gX7_newFamily_X4_isOwning rfl rfl rfl (by decide +kernel) ⟨Nat.le_of_ble_eq_true rfl, Nat.le_of_ble_eq_true rfl⟩) ⟨g_blind rides_none, g_recv K hw 3 rfl hb_x4 rfl rfl, g_pre (X2 := fun _ _ => True) K hw (fun _ _ _ => trivial)⟩ rfl rfl hl.1 rfl (lv_room (Nat.le_of_ble_eq_true rfl)) dX7_newFamily_87 ⟨Nat.le_of_ble_eq_true rfl, Nat.le_of_ble_eq_true rfl⟩) (fun r u H locs hp hw => ?_)
      obtain ⟨rfl, hu⟩ := hp
      rw [hu] at hw
      refine lv_if_eq (tgt := 118) hx hb dX7_newFamily_90 (by decide) (fun c77 => ?_) (fun c77 => ?_)
      · replace hm := (if_pos c77).symm.trans hm
        refine lv_aload_n hx hb dX7_newFamily_118 rfl (lv_at hl 2 rfl) ?_
        refine g_get (ref := "MigrantHeap$Entry") (C := RX0) (T := TX0) (N := 6) (ci := 0) K in_X7_newFamily_X0 hw 11 rfl hb_x3 rfl rfl 4 (by decide) (List.mem_of_getElem? (i := 4) rfl) rfl rfl dX7_newFamily_119 ?_
        refine lv_iload hx hb dX7_newFamily_122 (lv_at hl 4 rfl) ?_
        refine lv_iconst (v := 0) hx hb dX7_newFamily_124 (by decide) ?_
        obtain ⟨h78, hm⟩ := chkS hm
        refine g_iast K hw 12 0 rfl hb_x3 rfl rfl h78 dX7_newFamily_125 (eC_17 cy ad x.1 x3 x.2.toNatClampNeg 0) (fun H locs hw => ?_)
        obtain ⟨S79, hS79, hm⟩ := nm_ex hm
        rw [← hS79] at hw
        obtain ⟨x80, hx80, hm⟩ := nm_ex hm
        refine lv_iinc (v := x80) (lv' := [(5, .int x80), (0, .ref (ad 0 0)), (2, .int x2), (3, .ref (ad 11 x3)), (4, .ref (ad 3 x4))]) hx hb dX7_newFamily_126 hl (k := 4) rfl (by rw [hx80]; rfl) (by decide) rfl (fun ls hl => ?_)
        refine lv_goto (tgt := 33) hx hb dX7_newFamily_129 (by decide) ?_
        obtain rfl := Option.some.inj hm
        exact hg H locs hw ls (lv_sub hl [1, 2, 3, 4, 0] rfl)
      · replace hm := (if_neg c77).symm.trans hm
        refine lv_aload_n hx hb dX7_newFamily_93 rfl (lv_at hl 2 rfl) ?_
        refine g_get (ref := "MigrantHeap$Entry") (C := RX0) (T := TX0) (N := 6) (ci := 0) K in_X7_newFamily_X0 hw 11 rfl hb_x3 rfl rfl 4 (by decide) (List.mem_of_getElem? (i := 4) rfl) rfl rfl dX7_newFamily_94 ?_
        refine lv_iload hx hb dX7_newFamily_97 (lv_at hl 4 rfl) ?_
        refine lv_aload_n hx hb dX7_newFamily_99 rfl (lv_at hl 0 rfl) ?_
        refine lv_aload hx hb dX7_newFamily_100 (lv_at hl 3 rfl) ?_
        refine g_get (ref := "MigrantHeap$Shape") (C := RX4) (T := TX4) (N := 6) (ci := 4) K in_X7_newFamily_X4 hw 3 rfl hb_x4 rfl rfl 3 (by decide) (List.mem_of_getElem? (i := 5) rfl) rfl rfl dX7_newFamily_102 ?_
        refine lv_iload hx hb dX7_newFamily_105 (lv_at hl 4 rfl) ?_
        obtain ⟨h81, hm⟩ := chkS hm
        refine g_iald K hw 6 0 rfl hb_x4 rfl rfl h81 dX7_newFamily_107 ?_
        refine lv_iload_n hx hb dX7_newFamily_108 rfl (lv_at hl 1 rfl) ?_
        refine lv_iconst (v := 1) hx hb dX7_newFamily_109 (by decide) ?_
        refine lv_iadd hx hb dX7_newFamily_110 ?_
        obtain ⟨z83, hc82, hm⟩ := bindS hm
        refine g_calli (GG := GC cy ad) K hw (va_runV (As := [.int (x.1.1 8 x4 x.2.toNatClampNeg), .int (x2 + 1)]) (rest := [.int x.2, .ref (ad 12 x3)]) (g_fix K) (c_X7_newFamily_d3 l D cy ad H.size n x.1 (x.1.1 8 x4 x.2.toNatClampNeg) (x2 + 1)  hc82) (cwV 2 (g_hts K) gX7_newFamily_X7_newFamily rfl rfl rfl (by decide +kernel) ⟨Nat.le_of_ble_eq_true rfl, Nat.le_of_ble_eq_true rfl⟩) ⟨g_blind rides_none, g_recv K hw 0 rfl (by decide : 0 < 1) rfl rfl, g_pre (X2 := fun _ _ => True) K hw (fun _ _ _ => trivial)⟩ rfl rfl hl.1 rfl (lv_room (Nat.le_of_ble_eq_true rfl)) dX7_newFamily_111 ⟨Nat.le_of_ble_eq_true rfl, Nat.le_of_ble_eq_true rfl⟩) (fun r u H locs hp hw => ?_)
        obtain ⟨rfl, rfl⟩ : r = z83.1 ∧ u = z83.2 := by rw [hp]; exact ⟨rfl, rfl⟩
        obtain ⟨h84, hm⟩ := chkS hm
        refine g_iast K hw 12 0 rfl hb_x3 rfl rfl h84 dX7_newFamily_114 (eC_17 cy ad z83.2 x3 x.2.toNatClampNeg z83.1) (fun H locs hw => ?_)
        obtain ⟨S85, hS85, hm⟩ := nm_ex hm
        rw [← hS85] at hw
        refine lv_goto (tgt := 126) hx hb dX7_newFamily_115 (by decide) ?_
        obtain ⟨x86, hx86, hm⟩ := nm_ex hm
        refine lv_iinc (v := x86) (lv' := [(5, .int x86), (0, .ref (ad 0 0)), (2, .int x2), (3, .ref (ad 11 x3)), (4, .ref (ad 3 x4))]) hx hb dX7_newFamily_126 hl (k := 4) rfl (by rw [hx86]; rfl) (by decide) rfl (fun ls hl => ?_)
        refine lv_goto (tgt := 33) hx hb dX7_newFamily_129 (by decide) ?_
        obtain rfl := Option.some.inj hm
        exact hg H locs hw ls (lv_sub hl [1, 2, 3, 4, 0] rfl)
    · replace hm := (if_neg c74).symm.trans hm
      refine lv_aload_n hx hb dX7_newFamily_53 rfl (lv_at hl 2 rfl) ?_
      refine g_get (ref := "MigrantHeap$Entry") (C := RX0) (T := TX0) (N := 6) (ci := 0) K in_X7_newFamily_X0 hw 11 rfl hb_x3 rfl rfl 4 (by decide) (List.mem_of_getElem? (i := 4) rfl) rfl rfl dX7_newFamily_54 ?_
      refine lv_iload hx hb dX7_newFamily_57 (lv_at hl 4 rfl) ?_
      refine lv_iconst (v := 0) hx hb dX7_newFamily_59 (by decide) ?_
      refine lv_aload hx hb dX7_newFamily_60 (lv_at hl 3 rfl) ?_
      refine g_get (ref := "MigrantHeap$Shape") (C := RX4) (T := TX4) (N := 6) (ci := 4) K in_X7_newFamily_X4 hw 3 rfl hb_x4 rfl rfl 3 (by decide) (List.mem_of_getElem? (i := 5) rfl) rfl rfl dX7_newFamily_62 ?_
      refine lv_iload hx hb dX7_newFamily_65 (lv_at hl 4 rfl) ?_
      obtain ⟨h87, hm⟩ := chkS hm
      refine g_iald K hw 6 0 rfl hb_x4 rfl rfl h87 dX7_newFamily_67 ?_
      refine lv_aload hx hb dX7_newFamily_68 (lv_at hl 3 rfl) ?_
      refine g_get (ref := "MigrantHeap$Shape") (C := RX4) (T := TX4) (N := 6) (ci := 4) K in_X7_newFamily_X4 hw 3 rfl hb_x4 rfl rfl 4 (by decide) (List.mem_of_getElem? (i := 6) rfl) rfl rfl dX7_newFamily_70 ?_
      refine lv_iload hx hb dX7_newFamily_73 (lv_at hl 4 rfl) ?_
      obtain ⟨h88, hm⟩ := chkS hm
      refine g_iald K hw 7 0 rfl hb_x4 rfl rfl h88 dX7_newFamily_75 ?_
      obtain ⟨z90, hc89, hm⟩ := bindS hm
      refine g_calli (GG := GC cy ad) K hw (va_runS (As := [.int 0, .int (x.1.1 8 x4 x.2.toNatClampNeg), .int (x.1.1 9 x4 x.2.toNatClampNeg)]) (rest := [.int x.2, .ref (ad 12 x3)]) (g_fix K) (c_X7_nearest l D cy ad H.size n x.1 0 (x.1.1 8 x4 x.2.toNatClampNeg) (x.1.1 9 x4 x.2.toNatClampNeg)  hc89) (va_cwS 3 (g_hts K) gX7_newFamily_X7_nearest rfl rfl rfl (by decide +kernel) ⟨Nat.le_of_ble_eq_true rfl, Nat.le_of_ble_eq_true rfl⟩) ⟨g_blind rides_none, g_pre (X2 := fun _ _ => True) K hw (fun _ _ _ => trivial)⟩ rfl rfl hl.1 rfl (lv_room (Nat.le_of_ble_eq_true rfl)) dX7_newFamily_76 ⟨Nat.le_of_ble_eq_true rfl, Nat.le_of_ble_eq_true rfl⟩) (fun r u H locs hp hw => ?_)
      obtain ⟨rfl, hu⟩ := hp
      rw [hu] at hw
      obtain ⟨h91, hm⟩ := chkS hm
      refine g_iast K hw 12 0 rfl hb_x3 rfl rfl h91 dX7_newFamily_79 (eC_17 cy ad x.1 x3 x.2.toNatClampNeg z90) (fun H locs hw => ?_)
      obtain ⟨S92, hS92, hm⟩ := nm_ex hm
      rw [← hS92] at hw
      refine lv_goto (tgt := 126) hx hb dX7_newFamily_80 (by decide) ?_
      obtain ⟨x93, hx93, hm⟩ := nm_ex hm
      refine lv_iinc (v := x93) (lv' := [(5, .int x93), (0, .ref (ad 0 0)), (2, .int x2), (3, .ref (ad 11 x3)), (4, .ref (ad 3 x4))]) hx hb dX7_newFamily_126 hl (k := 4) rfl (by rw [hx93]; rfl) (by decide) rfl (fun ls hl => ?_)
      refine lv_goto (tgt := 33) hx hb dX7_newFamily_129 (by decide) ?_
      obtain rfl := Option.some.inj hm
      exact hg H locs hw ls (lv_sub hl [1, 2, 3, 4, 0] rfl)
set_option maxRecDepth 100000 in
set_option maxHeartbeats 4000000 in
theorem t_X7_newFamily_d2_0 (K : Cx p s m args meth c D A (tysC cy) RX7 cX7_newFamily 6 (some .int) wsX7_newFamily (fun _ _ => True)) (n : Nat) (S : CSt) (x1 : Int32) (x2 : Int32)  {out : Int32 × CSt} (hm : m_X7_newFamily_d2 n S x1 x2 = some out) : ∀ (H : Heap) (locs : List Loc), Wd D A s.heap (GC cy ad S) H locs → ∀ ls : Array Slot, lv_has ls 6 [(0, .ref (ad 0 0)), (1, .int x1), (2, .int x2)] → W p l e rm_X7_newFamily_d2 s m args below meth c H locs 0 0 (MQ below (va_Qi (fun r (u : CSt) => out = (r, u)) (fun u => Pst D (tysC cy) A (GC cy ad u)) A) args s 0 0 A) (F0 m 0 ls []) := by
  intro H locs hw ls hl
  obtain ⟨hx, hb, hml, hown, hts, hr, hlo, hK, hA, hX⟩ := id K
  unfold m_X7_newFamily_d2 at hm
  refine lv_iload_n hx hb dX7_newFamily_0 rfl (lv_at hl 2 rfl) ?_
  refine lv_iconst (v := 4) hx hb dX7_newFamily_1 (by decide) ?_
  refine lv_icmp_lt (tgt := 7) hx hb dX7_newFamily_2 (by decide) (fun c94 => ?_) (fun c94 => ?_)
  · replace hm := (if_pos c94).symm.trans hm
    refine lv_aload_n hx hb dX7_newFamily_7 rfl (lv_at hl 0 rfl) ?_
    refine lv_iload_n hx hb dX7_newFamily_8 rfl (lv_at hl 1 rfl) ?_
    obtain ⟨z96, hc95, hm⟩ := bindS hm
    refine g_callq (GG := GC cy ad) K hw (va_runV (As := [.int x1]) (rest := []) (g_fix K) (c_X7_newRecord l D cy ad H.size n S x1  hc95) (cwV 1 (g_hts K) gX7_newFamily_X7_newRecord rfl rfl rfl (by decide +kernel) ⟨Nat.le_of_ble_eq_true rfl, Nat.le_of_ble_eq_true rfl⟩) ⟨g_blind rides_none, g_recv K hw 0 rfl (by decide : 0 < 1) rfl rfl, g_pre (X2 := fun _ _ => True) K hw (fun _ _ _ => trivial)⟩ rfl rfl hl.1 rfl (lv_room (Nat.le_of_ble_eq_true rfl)) dX7_newFamily_9 ⟨Nat.le_of_ble_eq_true rfl, Nat.le_of_ble_eq_true rfl⟩) (fun r u H locs hp hw => ?_)
    obtain ⟨rfl, rfl⟩ := hp
    rcases hq99 : z96.1 with _ | i97
    · rw [hq99] at hm
      replace hm := (optN _ _).symm.trans hm
      refine W.eq (g2 := F0 m 12 ls (.null :: [])) (by first | rfl | (rw [hq99]; rfl)) ?_
      refine lv_astore_nN (lv' := [(3, .null), (0, .ref (ad 0 0)), (1, .int x1), (2, .int x2)]) hx hb dX7_newFamily_12 rfl hl (by decide) rfl (fun ls hl => ?_)
      refine lv_aload_nN hx hb dX7_newFamily_13 rfl (lv_at hl 0 rfl) ?_
      refine lv_ifnonnullN hx hb dX7_newFamily_14 ?_
      refine lv_iconst (v := 0) hx hb dX7_newFamily_17 (by decide) ?_
      exact g_iret (GG := GC cy ad) K hw (Option.some.inj hm).symm dX7_newFamily_18
    · rw [hq99] at hm
      replace hm := (optS _ _ _).symm.trans hm
      obtain ⟨h98, hm⟩ := chkS hm
      replace h98 := of_decide_eq_true h98
      refine W.eq (g2 := F0 m 12 ls (.ref (ad 11 i97) :: [])) (by first | rfl | (rw [hq99]; rfl)) ?_
      refine lv_astore_n (lv' := [(3, .ref (ad 11 i97)), (0, .ref (ad 0 0)), (1, .int x1), (2, .int x2)]) hx hb dX7_newFamily_12 rfl hl (by decide) rfl (fun ls hl => ?_)
      refine lv_aload_n hx hb dX7_newFamily_13 rfl (lv_at hl 0 rfl) ?_
      refine lv_ifnonnull (tgt := 19) hx hb dX7_newFamily_14 (by decide) ?_
      refine lv_aload_n hx hb dX7_newFamily_19 rfl (lv_at hl 1 rfl) ?_
      refine g_get (ref := "MigrantHeap") (C := RX7) (T := TX7) (N := 11) (ci := 7) K in_X7_newFamily_X7 hw 0 rfl (by decide : 0 < 1) rfl rfl 0 (by decide) (List.mem_of_getElem? (i := 1) rfl) rfl rfl dX7_newFamily_20 ?_
      refine lv_iload_n hx hb dX7_newFamily_23 rfl (lv_at hl 2 rfl) ?_
      obtain ⟨h100, hm⟩ := chkS hm
      refine g_aald K hw 1 4 rfl (by decide) rfl rfl h100 dX7_newFamily_24 ?_
      refine g_get (ref := "MigrantHeap$Kind") (C := RX2) (T := TX2) (N := 4) (ci := 2) K in_X7_newFamily_X2 hw 2 rfl (inB_lt h100) rfl rfl 2 (by decide) (List.mem_of_getElem? (i := 2) rfl) rfl rfl dX7_newFamily_25 ?_
      refine lv_astore (lv' := [(4, .ref (ad 3 (2 * x1.toNatClampNeg))), (3, .ref (ad 11 i97)), (0, .ref (ad 0 0)), (1, .int x1), (2, .int x2)]) hx hb dX7_newFamily_28 hl (by decide) rfl (fun ls hl => ?_)
      refine lv_iconst (v := 0) hx hb dX7_newFamily_30 (by decide) ?_
      refine lv_istore (lv' := [(5, .int 0), (4, .ref (ad 3 (2 * x1.toNatClampNeg))), (3, .ref (ad 11 i97)), (0, .ref (ad 0 0)), (1, .int x1), (2, .int x2)]) hx hb dX7_newFamily_31 hl (by decide) rfl (fun ls hl => ?_)
      obtain ⟨z101, hz102, hm⟩ := bindS hm
      refine t_X7_newFamily_d2_L33 K n x2 i97 (2 * x1.toNatClampNeg) h98 (by have := (inB_lt h100); omega : (2 * x1.toNatClampNeg) < 9) z101 (fun w103 hww103 => ?_) ((z96.2, 0)) hz102 H locs hw ls (lv_sub hl [3, 5, 2, 1, 0] rfl)
      · intro H locs hw ls hl 
        try rw [hww103] at hm
        refine lv_aload_n hx hb dX7_newFamily_132 rfl (lv_at hl 0 rfl) ?_
        refine g_get (ref := "MigrantHeap$Entry") (C := RX0) (T := TX0) (N := 6) (ci := 0) K in_X7_newFamily_X0 hw 11 rfl h98 rfl rfl 0 (by decide) (List.mem_of_getElem? (i := 7) rfl) rfl rfl dX7_newFamily_133 ?_
        exact g_iret (GG := GC cy ad) K hw (Option.some.inj hm).symm dX7_newFamily_136
  · replace hm := (if_neg c94).symm.trans hm
    refine lv_iconst (v := 0) hx hb dX7_newFamily_5 (by decide) ?_
    exact g_iret (GG := GC cy ad) K hw (Option.some.inj hm).symm dX7_newFamily_6
set_option maxRecDepth 100000 in
set_option maxHeartbeats 4000000 in
theorem c_X7_newFamily_d2 (l : Launch) (D : va_G) (cy : Nat → ClassId) (ad : Nat → Nat → Nat) (sz n : Nat) (S : CSt) (x1 : Int32) (x2 : Int32)  {out : Int32 × CSt} (hm : m_X7_newFamily_d2 n S x1 x2 = some out) : Met l yX7_newFamily wsX7_newFamily rm_X7_newFamily_d2 (va_Pc [.ref (ad 0 0), .int x1, .int x2] (Pre D (tysC cy) (GC cy ad S) (fun _ _ => True) sz)) (va_Qi (fun r (u : CSt) => out = (r, u)) (fun u => Pst D (tysC cy) (AA (adrs (GC cy ad S)) sz) (GC cy ad u)) (AA (adrs (GC cy ad S)) sz)) 0 0 (AA (adrs (GC cy ad S)) sz) := by
  refine g_met (by decide) rfl (Nat.le_of_ble_eq_true rfl) ?_
  intro p e s m args below meth c K hw ls hl
  exact t_X7_newFamily_d2_0 (cy := cy) K n S x1 x2  hm _ _ hw ls hl
end W_X7_newFamily_d2
