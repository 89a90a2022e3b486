section W_X7_sweep
variable {p : Program} {l : Launch} {e : Env} {s : State} {m : MethodId} {args : Array Value} {below : List Frame} {meth : Method} {c : Code} {D : va_G} {A : Nat → Prop} {cy : Nat → ClassId} {ad : Nat → Nat → Nat} {Q : State → Prop}
abbrev rm_X7_sweep : Room := { frames := 7, cells := 1, slots := 6, locals := 121 }
theorem in_X7_sweep_X6 : ∀ w ∈ u_ws RX6 TX6 3, w ∈ wsX7_sweep := by decide +kernel
theorem in_X7_sweep_X7 : ∀ w ∈ u_ws RX7 TX7 11, w ∈ wsX7_sweep := by decide +kernel
set_option maxRecDepth 100000 in
set_option maxHeartbeats 4000000 in
theorem t_X7_sweep_L9 (K : Cx p s m args meth c D A (tysC cy) RX7 cX7_sweep 5 (some .int) wsX7_sweep EV) (hno : ∀ x ∈ c.exceptionTable.toList, False) (hl9 : l.stackTraces = false) (n : Nat) (x1 : Int32)  (z : (CSt × Int32)) (hE0 : ∀ w : (CSt × Int32), z = w → ∀ (H : Heap) (locs : List Loc), Wd D A s.heap (GC cy ad w.1) H locs → ∀ ls : Array Slot, lv_has ls 5 [(2, .int w.2)] → W p l e rm_X7_sweep s m args below meth c H locs 1 6 Q (F0 m 53 ls [])) : ∀ (x : (CSt × Int32 × Int32)), lpO (b_X7_sweep_9 n x1) n x = some z → (fun (x : (CSt × Int32 × Int32)) => ∀ (H : Heap) (locs : List Loc), Wd D A s.heap (GC cy ad x.1) H locs → ∀ ls : Array Slot, lv_has ls 5 [(0, .ref (ad 0 0)), (1, .int x1), (2, .int x.2.1), (3, .int x.2.2)] → W p l e rm_X7_sweep s m args below meth c H locs 1 6 Q (F0 m 9 ls [])) x := by
  intro x hx0
  refine lpO_ind2 (P := fun (x : (CSt × Int32 × Int32)) => ∀ (H : Heap) (locs : List Loc), Wd D A s.heap (GC cy ad x.1) H locs → ∀ ls : Array Slot, lv_has ls 5 [(0, .ref (ad 0 0)), (1, .int x1), (2, .int x.2.1), (3, .int x.2.2)] → W p l e rm_X7_sweep s m args below meth c H locs 1 6 Q (F0 m 9 ls [])) (z := z) ?_ n x hx0
  clear hx0 x
  intro x out hm hg H locs hw ls hl 
  obtain ⟨hx, hb, hml, hown, hts, hr, hlo, hK, hA, hX⟩ := id K
  unfold b_X7_sweep_9 at hm
  refine lv_iload_n hx hb dX7_sweep_9 rfl (lv_at hl 3 rfl) ?_
  refine lv_bipush (v := 24) hx hb dX7_sweep_10 (by decide) ?_
  refine lv_icmp_ge (tgt := 53) hx hb dX7_sweep_12 (by decide) (fun c35 => ?_) (fun c35 => ?_)
  · replace hm := (if_pos c35).symm.trans hm
    obtain rfl := Option.some.inj hm
    exact hE0 _ hg.symm H locs hw ls (lv_sub hl [2] rfl)
  · replace hm := (if_neg c35).symm.trans hm
    refine lv_aload_n hx hb dX7_sweep_15 rfl (lv_at hl 0 rfl) ?_
    refine g_get (ref := "MigrantHeap") (C := RX7) (T := TX7) (N := 11) (ci := 7) K in_X7_sweep_X7 hw 0 rfl (by decide : 0 < 1) rfl rfl 2 (by decide) (List.mem_of_getElem? (i := 1) rfl) rfl rfl dX7_sweep_16 ?_
    refine g_get (ref := "MigrantHeap$Store") (C := RX6) (T := TX6) (N := 3) (ci := 6) K in_X7_sweep_X6 hw 9 rfl (by decide : 0 < 1) rfl rfl 0 (by decide) (List.mem_of_getElem? (i := 2) rfl) rfl rfl dX7_sweep_19 ?_
    refine lv_iload_n hx hb dX7_sweep_22 rfl (lv_at hl 3 rfl) ?_
    obtain ⟨h36, hm⟩ := chkS hm
    refine g_aald K hw 10 3 rfl (by decide) rfl rfl h36 dX7_sweep_23 ?_
    refine lv_astore (lv' := [(4, .ref (ad 11 x.2.2.toNatClampNeg)), (0, .ref (ad 0 0)), (1, .int x1), (2, .int x.2.1), (3, .int x.2.2)]) hx hb dX7_sweep_24 hl (by decide) rfl (fun ls hl => ?_)
    refine lv_aload hx hb dX7_sweep_26 (lv_at hl 0 rfl) ?_
    refine lv_iload_n hx hb dX7_sweep_28 rfl (lv_at hl 2 rfl) ?_
    obtain ⟨z38, hc37, hm⟩ := bindS hm
    refine g_calli (GG := GC cy ad) K hw (va_runV (As := [.int x1]) (rest := []) (g_fix K) (c_X0_isOf l D cy ad H.size n x.1 x.2.2.toNatClampNeg x1 (inB_lt h36) hc37) (cwV 1 (g_hts K) gX7_sweep_X0_isOf rfl rfl rfl (by decide +kernel) ⟨Nat.le_of_ble_eq_true rfl, Nat.le_of_ble_eq_true rfl⟩) ⟨g_blind rides_none, g_recv K hw 11 rfl (inB_lt h36) rfl rfl, g_pre (X2 := fun _ _ => True) K hw (fun _ _ _ => trivial)⟩ rfl rfl hl.1 rfl (lv_room (Nat.le_of_ble_eq_true rfl)) dX7_sweep_29 ⟨Nat.le_of_ble_eq_true rfl, Nat.le_of_ble_eq_true rfl⟩) (fun r u H locs hp hw => ?_)
    obtain ⟨rfl, hu⟩ := hp
    rw [hu] at hw
    refine lv_if_eq (tgt := 47) hx hb dX7_sweep_32 (by decide) (fun c39 => ?_) (fun c39 => ?_)
    · replace hm := (if_pos c39).symm.trans hm
      obtain ⟨x40, hx40, hm⟩ := nm_ex hm
      refine lv_iinc (v := x40) (lv' := [(3, .int x40), (4, .ref (ad 11 x.2.2.toNatClampNeg)), (0, .ref (ad 0 0)), (1, .int x1), (2, .int x.2.1)]) hx hb dX7_sweep_47 hl (k := 4) rfl (by rw [hx40]; rfl) (by decide) rfl (fun ls hl => ?_)
      refine lv_goto (tgt := 9) hx hb dX7_sweep_50 (by decide) ?_
      obtain rfl := Option.some.inj hm
      exact hg H locs hw ls (lv_sub hl [2, 3, 4, 0] rfl)
    · replace hm := (if_neg c39).symm.trans hm
      refine lv_aload_n hx hb dX7_sweep_35 rfl (lv_at hl 1 rfl) ?_
      refine lv_aload hx hb dX7_sweep_36 (lv_at hl 0 rfl) ?_
      obtain ⟨z42, hc41, hm⟩ := bindS hm
      refine g_calli (GG := GC cy ad) K hw (va_runV (As := [.ref (ad 11 x.2.2.toNatClampNeg)]) (rest := []) (g_fix K) (c_X7_bringForward l D cy ad H.size n x.1 x.2.2.toNatClampNeg (inB_lt h36) hc41) (cwV 1 (g_hts K) gX7_sweep_X7_bringForward rfl rfl rfl (by decide +kernel) ⟨Nat.le_of_ble_eq_true rfl, Nat.le_of_ble_eq_true rfl⟩) ⟨g_blind rides_none, g_recv K hw 0 rfl (by decide : 0 < 1) rfl rfl, g_pre (X2 := fun _ _ => True) K hw (fun _ _ _ => trivial)⟩ rfl rfl hl.1 rfl (lv_room (Nat.le_of_ble_eq_true rfl)) dX7_sweep_38 ⟨Nat.le_of_ble_eq_true rfl, Nat.le_of_ble_eq_true rfl⟩) (fun r u H locs hp hw => ?_)
      obtain ⟨rfl, rfl⟩ : r = z42.1 ∧ u = z42.2 := by rw [hp]; exact ⟨rfl, rfl⟩
      refine lv_if_le (tgt := 47) hx hb dX7_sweep_41 (by decide) (fun c43 => ?_) (fun c43 => ?_)
      · replace hm := (if_pos c43).symm.trans hm
        obtain ⟨x44, hx44, hm⟩ := nm_ex hm
        refine lv_iinc (v := x44) (lv' := [(3, .int x44), (4, .ref (ad 11 x.2.2.toNatClampNeg)), (0, .ref (ad 0 0)), (1, .int x1), (2, .int x.2.1)]) hx hb dX7_sweep_47 hl (k := 4) rfl (by rw [hx44]; rfl) (by decide) rfl (fun ls hl => ?_)
        refine lv_goto (tgt := 9) hx hb dX7_sweep_50 (by decide) ?_
        obtain rfl := Option.some.inj hm
        exact hg H locs hw ls (lv_sub hl [2, 3, 4, 0] rfl)
      · replace hm := (if_neg c43).symm.trans hm
        obtain ⟨x45, hx45, hm⟩ := nm_ex hm
        refine lv_iinc (v := x45) (lv' := [(2, .int x45), (4, .ref (ad 11 x.2.2.toNatClampNeg)), (0, .ref (ad 0 0)), (1, .int x1), (3, .int x.2.2)]) hx hb dX7_sweep_44 hl (k := 3) rfl (by rw [hx45]; rfl) (by decide) rfl (fun ls hl => ?_)
        obtain ⟨x46, hx46, hm⟩ := nm_ex hm
        refine lv_iinc (v := x46) (lv' := [(3, .int x46), (2, .int x45), (4, .ref (ad 11 x.2.2.toNatClampNeg)), (0, .ref (ad 0 0)), (1, .int x1)]) hx hb dX7_sweep_47 hl (k := 4) rfl (by rw [hx46]; rfl) (by decide) rfl (fun ls hl => ?_)
        refine lv_goto (tgt := 9) hx hb dX7_sweep_50 (by decide) ?_
        obtain rfl := Option.some.inj hm
        exact hg H locs hw ls (lv_sub hl [3, 4, 1, 0] rfl)
set_option maxRecDepth 100000 in
set_option maxHeartbeats 4000000 in
theorem t_X7_sweep_0 (K : Cx p s m args meth c D A (tysC cy) RX7 cX7_sweep 5 (some .int) wsX7_sweep EV) (hno : ∀ x ∈ c.exceptionTable.toList, False) (hl9 : l.stackTraces = false) (n : Nat) (S : CSt) (x1 : Int32)  {out : (Int32 × CSt) ⊕ (Nat × CSt)} (hm : m_X7_sweep n S x1 = some out) : ∀ (H : Heap) (locs : List Loc), Wd D A s.heap (GC cy ad S) H locs → ∀ ls : Array Slot, lv_has ls 5 [(0, .ref (ad 0 0)), (1, .int x1)] → W p l e rm_X7_sweep s m args below meth c H locs 0 0 (vx_MQ below (va_Qi (fun r (u : CSt) => out = .inl (r, u)) (fun u => Pst D (tysC cy) A (GC cy ad u)) A) (XCx D (tysC cy) A (GC cy ad) out) args s 1 6 A) (F0 m 0 ls []) := by
  intro H locs hw ls hl
  obtain ⟨hx, hb, hml, hown, hts, hr, hlo, hK, hA, hX⟩ := id K
  unfold m_X7_sweep at hm
  refine lv_aload_n hx hb dX7_sweep_0 rfl (lv_at hl 0 rfl) ?_
  refine lv_iload_n hx hb dX7_sweep_1 rfl (lv_at hl 1 rfl) ?_
  obtain ⟨z48, hc47, hm⟩ := bindS hm
  refine g_xcallv (GG := GC cy ad) K hno hw (vx_runV (As := [.int x1]) (rest := []) (g_fix K) (c_X7_needClass l hl9 D cy ad H.size n S x1  hc47) (cwV 1 (g_hts K) gX7_sweep_X7_needClass rfl rfl rfl (by decide +kernel) ⟨Nat.le_of_ble_eq_true rfl, Nat.le_of_ble_eq_true rfl⟩) ⟨g_blind rides_EV, g_recv K hw 0 rfl (by decide : 0 < 1) rfl rfl, g_pre K hw (g_ride rides_EV K hw)⟩ rfl rfl hl.1 rfl (lv_room (Nat.le_of_ble_eq_true rfl)) dX7_sweep_2 ⟨Nat.le_of_ble_eq_true rfl, Nat.le_of_ble_eq_true rfl⟩) (fun u hu => by subst hu; exact sumX hm) (Nat.le_of_ble_eq_true rfl) (Nat.le_of_ble_eq_true rfl) (fun u H locs hp hw => ?_)
  obtain ⟨hp, hu⟩ := hp
  rw [hu] at hw
  obtain ⟨w49, hw49⟩ : ∃ q : Unit, q = () := ⟨_, rfl⟩
  subst hp
  replace hm := (sumL _ _ _).symm.trans hm
  refine lv_iconst (v := 0) hx hb dX7_sweep_5 (by decide) ?_
  refine lv_istore_n (lv' := [(2, .int 0), (0, .ref (ad 0 0)), (1, .int x1)]) hx hb dX7_sweep_6 rfl hl (by decide) rfl (fun ls hl => ?_)
  refine lv_iconst (v := 0) hx hb dX7_sweep_7 (by decide) ?_
  refine lv_istore_n (lv' := [(3, .int 0), (2, .int 0), (0, .ref (ad 0 0)), (1, .int x1)]) hx hb dX7_sweep_8 rfl hl (by decide) rfl (fun ls hl => ?_)
  obtain ⟨z50, hz51, hm⟩ := bindS hm
  refine t_X7_sweep_L9 K hno hl9 n x1 z50 (fun w52 hww52 => ?_) ((S, 0, 0)) hz51 H locs hw ls (lv_sub hl [2, 3, 1, 0] rfl)
  · intro H locs hw ls hl 
    try rw [hww52] at hm
    refine lv_iload_n hx hb dX7_sweep_53 rfl (lv_at hl 0 rfl) ?_
    refine vx_ret (W.widen (k := 1) (n := 6) (Nat.le_of_ble_eq_true rfl) (Nat.le_of_ble_eq_true rfl) ?_)
    exact g_iret (GG := GC cy ad) K hw (Option.some.inj hm).symm dX7_sweep_54
set_option maxRecDepth 100000 in
set_option maxHeartbeats 4000000 in
theorem c_X7_sweep (l : Launch) (hl9 : l.stackTraces = false) (D : va_G) (cy : Nat → ClassId) (ad : Nat → Nat → Nat) (sz n : Nat) (S : CSt) (x1 : Int32)  {out : (Int32 × CSt) ⊕ (Nat × CSt)} (hm : m_X7_sweep n S x1 = some out) : vx_Met l yX7_sweep wsX7_sweep rm_X7_sweep (va_Pc [.ref (ad 0 0), .int x1] (Pre D (tysC cy) (GC cy ad S) EV sz)) (va_Qi (fun r (u : CSt) => out = .inl (r, u)) (fun u => Pst D (tysC cy) (AA (adrs (GC cy ad S)) sz) (GC cy ad u)) (AA (adrs (GC cy ad S)) sz)) (XCx D (tysC cy) (AA (adrs (GC cy ad S)) sz) (GC cy ad) out) 1 6 (AA (adrs (GC cy ad S)) sz) := by
  refine g_xmet (by decide) rfl (Nat.le_of_ble_eq_true rfl) ?_
  intro p e s m args below meth c K hno hw ls hl
  exact t_X7_sweep_0 (cy := cy) K hno hl9 n S x1  hm _ _ hw ls hl
end W_X7_sweep
section W_X7_reach
variable {p : Program} {l : Launch} {e : Env} {s : State} {m : MethodId} {args : Array Value} {below : List Frame} {meth : Method} {c : Code} {D : va_G} {A : Nat → Prop} {cy : Nat → ClassId} {ad : Nat → Nat → Nat} {Q : State → Prop}
abbrev rm_X7_reach : Room := { frames := 2, cells := 0, slots := 0, locals := 43 }
theorem in_X7_reach_X0 : ∀ w ∈ u_ws RX0 TX0 6, w ∈ wsX7_reach := by decide +kernel
theorem in_X7_reach_X7 : ∀ w ∈ u_ws RX7 TX7 11, w ∈ wsX7_reach := by decide +kernel
set_option maxRecDepth 100000 in
set_option maxHeartbeats 4000000 in
theorem t_X7_reach_0 (K : Cx p s m args meth c D A (tysC cy) RX7 cX7_reach 4 (some .int) wsX7_reach (fun _ _ => True)) (n : Nat) (S : CSt) (x1 : Int32) (x2 : Int32)  {out : Int32 × CSt} (hm : m_X7_reach n S x1 x2 = some out) : ∀ (H : Heap) (locs : List Loc), Wd D A s.heap (GC cy ad S) H locs → ∀ ls : Array Slot, lv_has ls 4 [(0, .ref (ad 0 0)), (1, .int x1), (2, .int x2)] → W p l e rm_X7_reach s m args below meth c H locs 0 0 (MQ below (va_Qi (fun r (u : CSt) => out = (r, u)) (fun u => Pst D (tysC cy) A (GC cy ad u)) A) args s 0 0 A) (F0 m 0 ls []) := by
  intro H locs hw ls hl
  obtain ⟨hx, hb, hml, hown, hts, hr, hlo, hK, hA, hX⟩ := id K
  unfold m_X7_reach at hm
  refine lv_aload_n hx hb dX7_reach_0 rfl (lv_at hl 0 rfl) ?_
  refine g_get (ref := "MigrantHeap") (C := RX7) (T := TX7) (N := 11) (ci := 7) K in_X7_reach_X7 hw 0 rfl (by decide : 0 < 1) rfl rfl 2 (by decide) (List.mem_of_getElem? (i := 1) rfl) rfl rfl dX7_reach_1 ?_
  refine lv_iload_n hx hb dX7_reach_4 rfl (lv_at hl 1 rfl) ?_
  obtain ⟨z14, hc13, hm⟩ := bindS hm
  refine g_callq (GG := GC cy ad) K hw (va_runV (As := [.int x1]) (rest := []) (g_fix K) (c_X6_find l D cy ad H.size n S x1  hc13) (cwV 1 (g_hts K) gX7_reach_X6_find rfl rfl rfl (by decide +kernel) ⟨Nat.le_of_ble_eq_true rfl, Nat.le_of_ble_eq_true rfl⟩) ⟨g_blind rides_none, g_recv K hw 9 rfl (by decide : 0 < 1) rfl rfl, g_pre (X2 := fun _ _ => True) K hw (fun _ _ _ => trivial)⟩ rfl rfl hl.1 rfl (lv_room (Nat.le_of_ble_eq_true rfl)) dX7_reach_5 ⟨Nat.le_of_ble_eq_true rfl, Nat.le_of_ble_eq_true rfl⟩) (fun r u H locs hp hw => ?_)
  obtain ⟨rfl, hu⟩ := hp
  rw [hu] at hw
  rcases hq17 : z14 with _ | i15
  · rw [hq17] at hm
    replace hm := (optN _ _).symm.trans hm
    refine W.eq (g2 := F0 m 8 ls (.null :: [])) (by first | rfl | (rw [hq17]; rfl)) ?_
    refine lv_astore_nN (lv' := [(3, .null), (0, .ref (ad 0 0)), (1, .int x1), (2, .int x2)]) hx hb dX7_reach_8 rfl hl (by decide) rfl (fun ls hl => ?_)
    refine lv_aload_nN hx hb dX7_reach_9 rfl (lv_at hl 0 rfl) ?_
    refine lv_ifnullN (tgt := 26) hx hb dX7_reach_10 (by decide) ?_
    refine lv_iload_n hx hb dX7_reach_26 rfl (lv_at hl 3 rfl) ?_
    exact g_iret (GG := GC cy ad) K hw (Option.some.inj hm).symm dX7_reach_27
  · rw [hq17] at hm
    replace hm := (optS _ _ _).symm.trans hm
    obtain ⟨h16, hm⟩ := chkS hm
    replace h16 := of_decide_eq_true h16
    refine W.eq (g2 := F0 m 8 ls (.ref (ad 11 i15) :: [])) (by first | rfl | (rw [hq17]; rfl)) ?_
    refine lv_astore_n (lv' := [(3, .ref (ad 11 i15)), (0, .ref (ad 0 0)), (1, .int x1), (2, .int x2)]) hx hb dX7_reach_8 rfl hl (by decide) rfl (fun ls hl => ?_)
    refine lv_aload_n hx hb dX7_reach_9 rfl (lv_at hl 0 rfl) ?_
    refine lv_ifnull hx hb dX7_reach_10 ?_
    refine lv_aload_n hx hb dX7_reach_13 rfl (lv_at hl 0 rfl) ?_
    refine g_get (ref := "MigrantHeap$Entry") (C := RX0) (T := TX0) (N := 6) (ci := 0) K in_X7_reach_X0 hw 11 rfl h16 rfl rfl 3 (by decide) (List.mem_of_getElem? (i := 2) rfl) rfl rfl dX7_reach_14 ?_
    refine lv_if_ne (tgt := 26) hx hb dX7_reach_17 (by decide) (fun c18 => ?_) (fun c18 => ?_)
    · replace hm := (if_pos c18).symm.trans hm
      refine lv_iload_n hx hb dX7_reach_26 rfl (lv_at hl 3 rfl) ?_
      exact g_iret (GG := GC cy ad) K hw (Option.some.inj hm).symm dX7_reach_27
    · replace hm := (if_neg (fun h => h c18)).symm.trans hm
      refine lv_iload_n hx hb dX7_reach_20 rfl (lv_at hl 3 rfl) ?_
      refine lv_bipush (v := 24) hx hb dX7_reach_21 (by decide) ?_
      refine lv_icmp_lt (tgt := 28) hx hb dX7_reach_23 (by decide) (fun c19 => ?_) (fun c19 => ?_)
      · replace hm := (if_pos c19).symm.trans hm
        refine lv_aload_n hx hb dX7_reach_28 rfl (lv_at hl 0 rfl) ?_
        refine lv_iconst (v := 1) hx hb dX7_reach_29 (by decide) ?_
        refine g_put (v := .int 1) (ty := .boolean) (ref := "MigrantHeap$Entry") (C := RX0) (T := TX0) (N := 6) (ci := 0) K in_X7_reach_X0 tyX0 tyX0_ok nmX0 hw 11 rfl h16 rfl rfl 3 (by decide) (List.mem_of_getElem? (i := 2) rfl) rfl rfl (by decide +kernel) rfl rfl (Nat.le_of_ble_eq_true rfl) dX7_reach_30 (eC_16 cy ad S i15 1) (fun H locs hw => ?_)
        obtain ⟨S20, hS20, hm⟩ := nm_ex hm
        rw [← hS20] at hw
        refine lv_aload_n hx hb dX7_reach_33 rfl (lv_at hl 1 rfl) ?_
        refine g_get (ref := "MigrantHeap") (C := RX7) (T := TX7) (N := 11) (ci := 7) K in_X7_reach_X7 hw 0 rfl (by decide : 0 < 1) rfl rfl 10 (by decide) (List.mem_of_getElem? (i := 3) rfl) rfl rfl dX7_reach_34 ?_
        refine lv_iload_n hx hb dX7_reach_37 rfl (lv_at hl 3 rfl) ?_
        refine lv_aload_n hx hb dX7_reach_38 rfl (lv_at hl 0 rfl) ?_
        obtain ⟨h21, hm⟩ := chkS hm
        refine g_aast K hw 22 3 11 rfl (by decide) rfl h16 rfl rfl rfl rfl h21 dX7_reach_39 (eL_22 cy ad S20 x2.toNatClampNeg i15) (fun H locs hw => ?_)
        obtain ⟨S22, hS22, hm⟩ := nm_ex hm
        rw [← hS22] at hw
        refine lv_iload_n hx hb dX7_reach_40 rfl (lv_at hl 3 rfl) ?_
        refine lv_iconst (v := 1) hx hb dX7_reach_41 (by decide) ?_
        refine lv_iadd hx hb dX7_reach_42 ?_
        exact g_iret (GG := GC cy ad) K hw (Option.some.inj hm).symm dX7_reach_43
      · replace hm := (if_neg c19).symm.trans hm
        refine lv_iload_n hx hb dX7_reach_26 rfl (lv_at hl 3 rfl) ?_
        exact g_iret (GG := GC cy ad) K hw (Option.some.inj hm).symm dX7_reach_27
set_option maxRecDepth 100000 in
set_option maxHeartbeats 4000000 in
theorem c_X7_reach (l : Launch) (D : va_G) (cy : Nat → ClassId) (ad : Nat → Nat → Nat) (sz n : Nat) (S : CSt) (x1 : Int32) (x2 : Int32)  {out : Int32 × CSt} (hm : m_X7_reach n S x1 x2 = some out) : Met l yX7_reach wsX7_reach rm_X7_reach (va_Pc [.ref (ad 0 0), .int x1, .int x2] (Pre D (tysC cy) (GC cy ad S) (fun _ _ => True) sz)) (va_Qi (fun r (u : CSt) => out = (r, u)) (fun u => Pst D (tysC cy) (AA (adrs (GC cy ad S)) sz) (GC cy ad u)) (AA (adrs (GC cy ad S)) sz)) 0 0 (AA (adrs (GC cy ad S)) sz) := by
  refine g_met (by decide) rfl (Nat.le_of_ble_eq_true rfl) ?_
  intro p e s m args below meth c K hw ls hl
  exact t_X7_reach_0 (cy := cy) K n S x1 x2  hm _ _ hw ls hl
end W_X7_reach
section W_X7_reachFrom_nul
variable {p : Program} {l : Launch} {e : Env} {s : State} {m : MethodId} {args : Array Value} {below : List Frame} {meth : Method} {c : Code} {D : va_G} {A : Nat → Prop} {cy : Nat → ClassId} {ad : Nat → Nat → Nat} {Q : State → Prop}
abbrev rm_X7_reachFrom_nul : Room := { frames := 0, cells := 0, slots := 0, locals := 0 }
set_option maxRecDepth 100000 in
set_option maxHeartbeats 4000000 in
theorem t_X7_reachFrom_nul_0 (K : Cx p s m args meth c D A (tysC cy) RX7 cX7_reachFrom 6 (some .int) wsX7_reachFrom (fun _ _ => True)) (n : Nat) (S : CSt) (x2 : Int32)  {out : Int32} (hm : m_X7_reachFrom_nul n S x2 = some out) : ∀ (H : Heap) (locs : List Loc), Wd D A s.heap (GC cy ad S) H locs → ∀ ls : Array Slot, lv_has ls 6 [(0, .ref (ad 0 0)), (1, .null), (2, .int x2)] → W p l e rm_X7_reachFrom_nul s m args below meth c H locs 0 0 (MQ below (va_Qi (fun r (u : CSt) => out = r ∧ u = S) (fun u => Pst D (tysC cy) A (GC cy ad u)) A) args s 0 0 A) (F0 m 0 ls []) := by
  intro H locs hw ls hl
  obtain ⟨hx, hb, hml, hown, hts, hr, hlo, hK, hA, hX⟩ := id K
  unfold m_X7_reachFrom_nul at hm
  refine lv_aload_nN hx hb dX7_reachFrom_0 rfl (lv_at hl 1 rfl) ?_
  refine lv_ifnonnullN hx hb dX7_reachFrom_1 ?_
  refine lv_iload_n hx hb dX7_reachFrom_4 rfl (lv_at hl 2 rfl) ?_
  exact g_iret (GG := GC cy ad) K hw ⟨(Option.some.inj hm).symm, rfl⟩ dX7_reachFrom_5
set_option maxRecDepth 100000 in
set_option maxHeartbeats 4000000 in
theorem c_X7_reachFrom_nul (l : Launch) (D : va_G) (cy : Nat → ClassId) (ad : Nat → Nat → Nat) (sz n : Nat) (S : CSt) (x2 : Int32)  {out : Int32} (hm : m_X7_reachFrom_nul n S x2 = some out) : Met l yX7_reachFrom wsX7_reachFrom rm_X7_reachFrom_nul (va_Pc [.ref (ad 0 0), .null, .int x2] (Pre D (tysC cy) (GC cy ad S) (fun _ _ => True) sz)) (va_Qi (fun r (u : CSt) => out = r ∧ u = S) (fun u => Pst D (tysC cy) (AA (adrs (GC cy ad S)) sz) (GC cy ad u)) (AA (adrs (GC cy ad S)) sz)) 0 0 (AA (adrs (GC cy ad S)) sz) := by
  refine g_met (by decide) rfl (Nat.le_of_ble_eq_true rfl) ?_
  intro p e s m args below meth c K hw ls hl
  exact t_X7_reachFrom_nul_0 (cy := cy) K n S x2  hm _ _ hw ls hl
end W_X7_reachFrom_nul
section W_X7_reachFrom
variable {p : Program} {l : Launch} {e : Env} {s : State} {m : MethodId} {args : Array Value} {below : List Frame} {meth : Method} {c : Code} {D : va_G} {A : Nat → Prop} {cy : Nat → ClassId} {ad : Nat → Nat → Nat} {Q : State → Prop}
abbrev rm_X7_reachFrom : Room := { frames := 3, cells := 0, slots := 0, locals := 66 }
theorem in_X7_reachFrom_X0 : ∀ w ∈ u_ws RX0 TX0 6, w ∈ wsX7_reachFrom := by decide +kernel
theorem in_X7_reachFrom_X2 : ∀ w ∈ u_ws RX2 TX2 4, w ∈ wsX7_reachFrom := by decide +kernel
theorem in_X7_reachFrom_X4 : ∀ w ∈ u_ws RX4 TX4 6, w ∈ wsX7_reachFrom := by decide +kernel
theorem in_X7_reachFrom_X7 : ∀ w ∈ u_ws RX7 TX7 11, w ∈ wsX7_reachFrom := by decide +kernel
set_option maxRecDepth 100000 in
set_option maxHeartbeats 4000000 in
theorem t_X7_reachFrom_L25 (K : Cx p s m args meth c D A (tysC cy) RX7 cX7_reachFrom 6 (some .int) wsX7_reachFrom (fun _ _ => True)) (n : Nat) (x1 : Nat) (x4 : Nat) (hb_x1 : x1 < 24) (hb_x4 : x4 < 9) (z : (CSt × Int32)) (hE0 : ∀ w : (CSt × Int32), z = w → ∀ (H : Heap) (locs : List Loc), Wd D A s.heap (GC cy ad w.1) H locs → ∀ ls : Array Slot, lv_has ls 6 [(3, .int w.2)] → W p l e rm_X7_reachFrom s m args below meth c H locs 0 0 Q (F0 m 64 ls [])) : ∀ (x : (CSt × Int32 × Int32)), lpO (b_X7_reachFrom_25 n x1 x4) n x = some z → (fun (x : (CSt × Int32 × Int32)) => ∀ (H : Heap) (locs : List Loc), Wd D A s.heap (GC cy ad x.1) H locs → ∀ ls : Array Slot, lv_has ls 6 [(0, .ref (ad 0 0)), (1, .ref (ad 11 x1)), (3, .int x.2.1), (4, .ref (ad 3 x4)), (5, .int x.2.2)] → W p l e rm_X7_reachFrom s m args below meth c H locs 0 0 Q (F0 m 25 ls [])) x := by
  intro x hx0
  refine lpO_ind2 (P := fun (x : (CSt × Int32 × Int32)) => ∀ (H : Heap) (locs : List Loc), Wd D A s.heap (GC cy ad x.1) H locs → ∀ ls : Array Slot, lv_has ls 6 [(0, .ref (ad 0 0)), (1, .ref (ad 11 x1)), (3, .int x.2.1), (4, .ref (ad 3 x4)), (5, .int x.2.2)] → W p l e rm_X7_reachFrom s m args below meth c H locs 0 0 Q (F0 m 25 ls [])) (z := z) ?_ n x hx0
  clear hx0 x
  intro x out hm hg H locs hw ls hl 
  obtain ⟨hx, hb, hml, hown, hts, hr, hlo, hK, hA, hX⟩ := id K
  unfold b_X7_reachFrom_25 at hm
  refine lv_iload hx hb dX7_reachFrom_25 (lv_at hl 4 rfl) ?_
  refine lv_aload hx hb dX7_reachFrom_27 (lv_at hl 3 rfl) ?_
  refine g_get (ref := "MigrantHeap$Shape") (C := RX4) (T := TX4) (N := 6) (ci := 4) K in_X7_reachFrom_X4 hw 3 rfl hb_x4 rfl rfl 0 (by decide) (List.mem_of_getElem? (i := 4) rfl) rfl rfl dX7_reachFrom_29 ?_
  refine lv_icmp_ge (tgt := 64) hx hb dX7_reachFrom_32 (by decide) (fun c24 => ?_) (fun c24 => ?_)
  · replace hm := (if_pos c24).symm.trans hm
    obtain rfl := Option.some.inj hm
    exact hE0 _ hg.symm H locs hw ls (lv_sub hl [2] rfl)
  · replace hm := (if_neg c24).symm.trans hm
    refine lv_aload hx hb dX7_reachFrom_35 (lv_at hl 3 rfl) ?_
    refine lv_iload hx hb dX7_reachFrom_37 (lv_at hl 4 rfl) ?_
    obtain ⟨z26, hc25, hm⟩ := bindS hm
    refine g_calli (GG := GC cy ad) K hw (va_runV (As := [.int x.2.2]) (rest := []) (g_fix K) (c_X4_isReference l D cy ad H.size n x.1 x4 x.2.2 hb_x4 hc25) (cwV 1 (g_hts K) gX7_reachFrom_X4_isReference rfl rfl rfl (by decide +kernel) ⟨Nat.le_of_ble_eq_true rfl, Nat.le_of_ble_eq_true rfl⟩) ⟨g_blind rides_none, g_recv K hw 3 rfl hb_x4 rfl rfl, g_pre (X2 := fun _ _ => True) K hw (fun _ _ _ => trivial)⟩ rfl rfl hl.1 rfl (lv_room (Nat.le_of_ble_eq_true rfl)) dX7_reachFrom_39 ⟨Nat.le_of_ble_eq_true rfl, Nat.le_of_ble_eq_true rfl⟩) (fun r u H locs hp hw => ?_)
    obtain ⟨rfl, hu⟩ := hp
    rw [hu] at hw
    refine lv_if_eq (tgt := 58) hx hb dX7_reachFrom_42 (by decide) (fun c27 => ?_) (fun c27 => ?_)
    · replace hm := (if_pos c27).symm.trans hm
      obtain ⟨x28, hx28, hm⟩ := nm_ex hm
      refine lv_iinc (v := x28) (lv' := [(5, .int x28), (0, .ref (ad 0 0)), (1, .ref (ad 11 x1)), (3, .int x.2.1), (4, .ref (ad 3 x4))]) hx hb dX7_reachFrom_58 hl (k := 4) rfl (by rw [hx28]; rfl) (by decide) rfl (fun ls hl => ?_)
      refine lv_goto (tgt := 25) hx hb dX7_reachFrom_61 (by decide) ?_
      obtain rfl := Option.some.inj hm
      exact hg H locs hw ls (lv_sub hl [1, 2, 3, 4, 0] rfl)
    · replace hm := (if_neg c27).symm.trans hm
      refine lv_aload_n hx hb dX7_reachFrom_45 rfl (lv_at hl 0 rfl) ?_
      refine lv_aload_n hx hb dX7_reachFrom_46 rfl (lv_at hl 1 rfl) ?_
      refine g_get (ref := "MigrantHeap$Entry") (C := RX0) (T := TX0) (N := 6) (ci := 0) K in_X7_reachFrom_X0 hw 11 rfl hb_x1 rfl rfl 4 (by decide) (List.mem_of_getElem? (i := 5) rfl) rfl rfl dX7_reachFrom_47 ?_
      refine lv_iload hx hb dX7_reachFrom_50 (lv_at hl 4 rfl) ?_
      obtain ⟨h29, hm⟩ := chkS hm
      refine g_iald K hw 12 0 rfl hb_x1 rfl rfl h29 dX7_reachFrom_52 ?_
      refine lv_iload_n hx hb dX7_reachFrom_53 rfl (lv_at hl 2 rfl) ?_
      obtain ⟨z31, hc30, hm⟩ := bindS hm
      refine g_calli (GG := GC cy ad) K hw (va_runV (As := [.int (x.1.1 17 x1 x.2.2.toNatClampNeg), .int x.2.1]) (rest := []) (g_fix K) (c_X7_reach l D cy ad H.size n x.1 (x.1.1 17 x1 x.2.2.toNatClampNeg) x.2.1  hc30) (cwV 2 (g_hts K) gX7_reachFrom_X7_reach rfl rfl rfl (by decide +kernel) ⟨Nat.le_of_ble_eq_true rfl, Nat.le_of_ble_eq_true rfl⟩) ⟨g_blind rides_none, g_recv K hw 0 rfl (by decide : 0 < 1) rfl rfl, g_pre (X2 := fun _ _ => True) K hw (fun _ _ _ => trivial)⟩ rfl rfl hl.1 rfl (lv_room (Nat.le_of_ble_eq_true rfl)) dX7_reachFrom_54 ⟨Nat.le_of_ble_eq_true rfl, Nat.le_of_ble_eq_true rfl⟩) (fun r u H locs hp hw => ?_)
      obtain ⟨rfl, rfl⟩ : r = z31.1 ∧ u = z31.2 := by rw [hp]; exact ⟨rfl, rfl⟩
      refine lv_istore_n (lv' := [(3, .int z31.1), (0, .ref (ad 0 0)), (1, .ref (ad 11 x1)), (4, .ref (ad 3 x4)), (5, .int x.2.2)]) hx hb dX7_reachFrom_57 rfl hl (by decide) rfl (fun ls hl => ?_)
      obtain ⟨x32, hx32, hm⟩ := nm_ex hm
      refine lv_iinc (v := x32) (lv' := [(5, .int x32), (3, .int z31.1), (0, .ref (ad 0 0)), (1, .ref (ad 11 x1)), (4, .ref (ad 3 x4))]) hx hb dX7_reachFrom_58 hl (k := 4) rfl (by rw [hx32]; rfl) (by decide) rfl (fun ls hl => ?_)
      refine lv_goto (tgt := 25) hx hb dX7_reachFrom_61 (by decide) ?_
      obtain rfl := Option.some.inj hm
      exact hg H locs hw ls (lv_sub hl [2, 3, 1, 4, 0] rfl)
set_option maxRecDepth 100000 in
set_option maxHeartbeats 4000000 in
theorem t_X7_reachFrom_0 (K : Cx p s m args meth c D A (tysC cy) RX7 cX7_reachFrom 6 (some .int) wsX7_reachFrom (fun _ _ => True)) (n : Nat) (S : CSt) (x1 : Nat) (x2 : Int32) (hb_x1 : x1 < 24) {out : Int32 × CSt} (hm : m_X7_reachFrom n S x1 x2 = some out) : ∀ (H : Heap) (locs : List Loc), Wd D A s.heap (GC cy ad S) H locs → ∀ ls : Array Slot, lv_has ls 6 [(0, .ref (ad 0 0)), (1, .ref (ad 11 x1)), (2, .int x2)] → W p l e rm_X7_reachFrom s m args below meth c H locs 0 0 (MQ below (va_Qi (fun r (u : CSt) => out = (r, u)) (fun u => Pst D (tysC cy) A (GC cy ad u)) A) args s 0 0 A) (F0 m 0 ls []) := by
  intro H locs hw ls hl
  obtain ⟨hx, hb, hml, hown, hts, hr, hlo, hK, hA, hX⟩ := id K
  unfold m_X7_reachFrom at hm
  refine lv_aload_n hx hb dX7_reachFrom_0 rfl (lv_at hl 1 rfl) ?_
  refine lv_ifnonnull (tgt := 6) hx hb dX7_reachFrom_1 (by decide) ?_
  refine lv_iload_n hx hb dX7_reachFrom_6 rfl (lv_at hl 2 rfl) ?_
  refine lv_istore_n (lv' := [(3, .int x2), (0, .ref (ad 0 0)), (1, .ref (ad 11 x1)), (2, .int x2)]) hx hb dX7_reachFrom_7 rfl hl (by decide) rfl (fun ls hl => ?_)
  refine lv_aload_n hx hb dX7_reachFrom_8 rfl (lv_at hl 1 rfl) ?_
  refine g_get (ref := "MigrantHeap") (C := RX7) (T := TX7) (N := 11) (ci := 7) K in_X7_reachFrom_X7 hw 0 rfl (by decide : 0 < 1) rfl rfl 0 (by decide) (List.mem_of_getElem? (i := 1) rfl) rfl rfl dX7_reachFrom_9 ?_
  refine lv_aload_n hx hb dX7_reachFrom_12 rfl (lv_at hl 2 rfl) ?_
  refine g_get (ref := "MigrantHeap$Entry") (C := RX0) (T := TX0) (N := 6) (ci := 0) K in_X7_reachFrom_X0 hw 11 rfl hb_x1 rfl rfl 1 (by decide) (List.mem_of_getElem? (i := 2) rfl) rfl rfl dX7_reachFrom_13 ?_
  obtain ⟨h33, hm⟩ := chkS hm
  refine g_aald K hw 1 4 rfl (by decide) rfl rfl h33 dX7_reachFrom_16 ?_
  refine g_get (ref := "MigrantHeap$Kind") (C := RX2) (T := TX2) (N := 4) (ci := 2) K in_X7_reachFrom_X2 hw 2 rfl (inB_lt h33) rfl rfl 2 (by decide) (List.mem_of_getElem? (i := 3) rfl) rfl rfl dX7_reachFrom_17 ?_
  refine lv_astore (lv' := [(4, .ref (ad 3 (2 * (S.1 14 x1 0).toNatClampNeg))), (3, .int x2), (0, .ref (ad 0 0)), (1, .ref (ad 11 x1)), (2, .int x2)]) hx hb dX7_reachFrom_20 hl (by decide) rfl (fun ls hl => ?_)
  refine lv_iconst (v := 0) hx hb dX7_reachFrom_22 (by decide) ?_
  refine lv_istore (lv' := [(5, .int 0), (4, .ref (ad 3 (2 * (S.1 14 x1 0).toNatClampNeg))), (3, .int x2), (0, .ref (ad 0 0)), (1, .ref (ad 11 x1)), (2, .int x2)]) hx hb dX7_reachFrom_23 hl (by decide) rfl (fun ls hl => ?_)
  obtain ⟨z34, hz35, hm⟩ := bindS hm
  refine t_X7_reachFrom_L25 K n x1 (2 * (S.1 14 x1 0).toNatClampNeg) hb_x1 (by have := (inB_lt h33); omega : (2 * (S.1 14 x1 0).toNatClampNeg) < 9) z34 (fun w36 hww36 => ?_) ((S, x2, 0)) hz35 H locs hw ls (lv_sub hl [3, 4, 2, 1, 0] rfl)
  · intro H locs hw ls hl 
    try rw [hww36] at hm
    refine lv_iload_n hx hb dX7_reachFrom_64 rfl (lv_at hl 0 rfl) ?_
    exact g_iret (GG := GC cy ad) K hw (Option.some.inj hm).symm dX7_reachFrom_65
set_option maxRecDepth 100000 in
set_option maxHeartbeats 4000000 in
theorem c_X7_reachFrom (l : Launch) (D : va_G) (cy : Nat → ClassId) (ad : Nat → Nat → Nat) (sz n : Nat) (S : CSt) (x1 : Nat) (x2 : Int32) (hb_x1 : x1 < 24) {out : Int32 × CSt} (hm : m_X7_reachFrom n S x1 x2 = some out) : Met l yX7_reachFrom wsX7_reachFrom rm_X7_reachFrom (va_Pc [.ref (ad 0 0), .ref (ad 11 x1), .int x2] (Pre D (tysC cy) (GC cy ad S) (fun _ _ => True) sz)) (va_Qi (fun r (u : CSt) => out = (r, u)) (fun u => Pst D (tysC cy) (AA (adrs (GC cy ad S)) sz) (GC cy ad u)) (AA (adrs (GC cy ad S)) sz)) 0 0 (AA (adrs (GC cy ad S)) sz) := by
  refine g_met (by decide) rfl (Nat.le_of_ble_eq_true rfl) ?_
  intro p e s m args below meth c K hw ls hl
  exact t_X7_reachFrom_0 (cy := cy) K n S x1 x2 hb_x1 hm _ _ hw ls hl
end W_X7_reachFrom
section W_X7_reachAll
variable {p : Program} {l : Launch} {e : Env} {s : State} {m : MethodId} {args : Array Value} {below : List Frame} {meth : Method} {c : Code} {D : va_G} {A : Nat → Prop} {cy : Nat → ClassId} {ad : Nat → Nat → Nat} {Q : State → Prop}
abbrev rm_X7_reachAll : Room := { frames := 4, cells := 0, slots := 0, locals := 91 }
theorem in_X7_reachAll_X0 : ∀ w ∈ u_ws RX0 TX0 6, w ∈ wsX7_reachAll := by decide +kernel
theorem in_X7_reachAll_X6 : ∀ w ∈ u_ws RX6 TX6 3, w ∈ wsX7_reachAll := by decide +kernel
theorem in_X7_reachAll_X7 : ∀ w ∈ u_ws RX7 TX7 11, w ∈ wsX7_reachAll := by decide +kernel
set_option maxRecDepth 100000 in
set_option maxHeartbeats 4000000 in
theorem t_X7_reachAll_L57 (K : Cx p s m args meth c D A (tysC cy) RX7 cX7_reachAll 3 none wsX7_reachAll (fun _ _ => True)) (n : Nat)   (z : CSt) (hE0 : ∀ w : CSt, z = w → ∀ (H : Heap) (locs : List Loc), Wd D A s.heap (GC cy ad w) H locs → ∀ ls : Array Slot, lv_has ls 3 [] → W p l e rm_X7_reachAll s m args below meth c H locs 0 0 Q (F0 m 86 ls [])) : ∀ (x : (CSt × Int32 × Int32)), lpO (b_X7_reachAll_57 n ) n x = some z → (fun (x : (CSt × Int32 × Int32)) => ∀ (H : Heap) (locs : List Loc), Wd D A s.heap (GC cy ad x.1) H locs → ∀ ls : Array Slot, lv_has ls 3 [(0, .ref (ad 0 0)), (1, .int x.2.1), (2, .int x.2.2)] → W p l e rm_X7_reachAll s m args below meth c H locs 0 0 Q (F0 m 57 ls [])) x := by
  intro x hx0
  refine lpO_ind2 (P := fun (x : (CSt × Int32 × Int32)) => ∀ (H : Heap) (locs : List Loc), Wd D A s.heap (GC cy ad x.1) H locs → ∀ ls : Array Slot, lv_has ls 3 [(0, .ref (ad 0 0)), (1, .int x.2.1), (2, .int x.2.2)] → W p l e rm_X7_reachAll s m args below meth c H locs 0 0 Q (F0 m 57 ls [])) (z := z) ?_ n x hx0
  clear hx0 x
  intro x out hm hg H locs hw ls hl 
  obtain ⟨hx, hb, hml, hown, hts, hr, hlo, hK, hA, hX⟩ := id K
  unfold b_X7_reachAll_57 at hm
  refine lv_iload_n hx hb dX7_reachAll_57 rfl (lv_at hl 2 rfl) ?_
  refine lv_iload_n hx hb dX7_reachAll_58 rfl (lv_at hl 1 rfl) ?_
  refine lv_icmp_ge (tgt := 86) hx hb dX7_reachAll_59 (by decide) (fun c45 => ?_) (fun c45 => ?_)
  · replace hm := (if_pos c45).symm.trans hm
    obtain rfl := Option.some.inj hm
    exact hE0 _ hg.symm H locs hw ls (lv_sub hl [] rfl)
  · replace hm := (if_neg c45).symm.trans hm
    refine lv_iload_n hx hb dX7_reachAll_62 rfl (lv_at hl 2 rfl) ?_
    refine lv_bipush (v := 24) hx hb dX7_reachAll_63 (by decide) ?_
    refine lv_icmp_ge (tgt := 86) hx hb dX7_reachAll_65 (by decide) (fun c46 => ?_) (fun c46 => ?_)
    · replace hm := (if_pos c46).symm.trans hm
      obtain rfl := Option.some.inj hm
      exact hE0 _ hg.symm H locs hw ls (lv_sub hl [] rfl)
    · replace hm := (if_neg c46).symm.trans hm
      refine lv_aload_n hx hb dX7_reachAll_68 rfl (lv_at hl 0 rfl) ?_
      refine lv_aload_n hx hb dX7_reachAll_69 rfl (lv_at hl 0 rfl) ?_
      refine g_get (ref := "MigrantHeap") (C := RX7) (T := TX7) (N := 11) (ci := 7) K in_X7_reachAll_X7 hw 0 rfl (by decide : 0 < 1) rfl rfl 10 (by decide) (List.mem_of_getElem? (i := 5) rfl) rfl rfl dX7_reachAll_70 ?_
      refine lv_iload_n hx hb dX7_reachAll_73 rfl (lv_at hl 2 rfl) ?_
      obtain ⟨h47, hm⟩ := chkS hm
      refine g_aald K hw 22 3 rfl (by decide) rfl rfl h47 dX7_reachAll_74 ?_
      rcases hq50 : x.1.2.2 x.2.2.toNatClampNeg with _ | i48
      · rw [hq50] at hm
        replace hm := (optN _ _).symm.trans hm
        refine W.eq (g2 := F0 m 75 ls (.null :: .ref (ad 0 0) :: [])) (by first | rfl | (rw [hq50]; rfl)) ?_
        refine lv_iload_n hx hb dX7_reachAll_75 rfl (lv_at hl 1 rfl) ?_
        obtain ⟨z52, hc51, hm⟩ := bindS hm
        refine g_calli (GG := GC cy ad) K hw (va_runV (As := [.null, .int x.2.1]) (rest := []) (g_fix K) (c_X7_reachFrom_nul l D cy ad H.size n x.1 x.2.1  hc51) (cwV 2 (g_hts K) gX7_reachAll_X7_reachFrom rfl rfl rfl (by decide +kernel) ⟨Nat.le_of_ble_eq_true rfl, Nat.le_of_ble_eq_true rfl⟩) ⟨g_blind rides_none, g_recv K hw 0 rfl (by decide : 0 < 1) rfl rfl, g_pre (X2 := fun _ _ => True) K hw (fun _ _ _ => trivial)⟩ rfl rfl hl.1 rfl (lv_room (Nat.le_of_ble_eq_true rfl)) dX7_reachAll_76 ⟨Nat.le_of_ble_eq_true rfl, Nat.le_of_ble_eq_true rfl⟩) (fun r u H locs hp hw => ?_)
        obtain ⟨rfl, hu⟩ := hp
        rw [hu] at hw
        refine lv_istore_n (lv' := [(1, .int z52), (0, .ref (ad 0 0)), (2, .int x.2.2)]) hx hb dX7_reachAll_79 rfl hl (by decide) rfl (fun ls hl => ?_)
        obtain ⟨x53, hx53, hm⟩ := nm_ex hm
        refine lv_iinc (v := x53) (lv' := [(2, .int x53), (1, .int z52), (0, .ref (ad 0 0))]) hx hb dX7_reachAll_80 hl (k := 2) rfl (by rw [hx53]; rfl) (by decide) rfl (fun ls hl => ?_)
        refine lv_goto (tgt := 57) hx hb dX7_reachAll_83 (by decide) ?_
        obtain rfl := Option.some.inj hm
        exact hg H locs hw ls (lv_sub hl [2, 1, 0] rfl)
      · rw [hq50] at hm
        replace hm := (optS _ _ _).symm.trans hm
        obtain ⟨h49, hm⟩ := chkS hm
        replace h49 := of_decide_eq_true h49
        refine W.eq (g2 := F0 m 75 ls (.ref (ad 11 i48) :: .ref (ad 0 0) :: [])) (by first | rfl | (rw [hq50]; rfl)) ?_
        refine lv_iload_n hx hb dX7_reachAll_75 rfl (lv_at hl 1 rfl) ?_
        obtain ⟨z55, hc54, hm⟩ := bindS hm
        refine g_calli (GG := GC cy ad) K hw (va_runV (As := [.ref (ad 11 i48), .int x.2.1]) (rest := []) (g_fix K) (c_X7_reachFrom l D cy ad H.size n x.1 i48 x.2.1 h49 hc54) (cwV 2 (g_hts K) gX7_reachAll_X7_reachFrom rfl rfl rfl (by decide +kernel) ⟨Nat.le_of_ble_eq_true rfl, Nat.le_of_ble_eq_true rfl⟩) ⟨g_blind rides_none, g_recv K hw 0 rfl (by decide : 0 < 1) rfl rfl, g_pre (X2 := fun _ _ => True) K hw (fun _ _ _ => trivial)⟩ rfl rfl hl.1 rfl (lv_room (Nat.le_of_ble_eq_true rfl)) dX7_reachAll_76 ⟨Nat.le_of_ble_eq_true rfl, Nat.le_of_ble_eq_true rfl⟩) (fun r u H locs hp hw => ?_)
        obtain ⟨rfl, rfl⟩ : r = z55.1 ∧ u = z55.2 := by rw [hp]; exact ⟨rfl, rfl⟩
        refine lv_istore_n (lv' := [(1, .int z55.1), (0, .ref (ad 0 0)), (2, .int x.2.2)]) hx hb dX7_reachAll_79 rfl hl (by decide) rfl (fun ls hl => ?_)
        obtain ⟨x56, hx56, hm⟩ := nm_ex hm
        refine lv_iinc (v := x56) (lv' := [(2, .int x56), (1, .int z55.1), (0, .ref (ad 0 0))]) hx hb dX7_reachAll_80 hl (k := 2) rfl (by rw [hx56]; rfl) (by decide) rfl (fun ls hl => ?_)
        refine lv_goto (tgt := 57) hx hb dX7_reachAll_83 (by decide) ?_
        obtain rfl := Option.some.inj hm
        exact hg H locs hw ls (lv_sub hl [2, 1, 0] rfl)
set_option maxRecDepth 100000 in
set_option maxHeartbeats 4000000 in
theorem t_X7_reachAll_L31 (K : Cx p s m args meth c D A (tysC cy) RX7 cX7_reachAll 3 none wsX7_reachAll (fun _ _ => True)) (n : Nat)   (z : (CSt × Int32)) (hE0 : ∀ w : (CSt × Int32), z = w → ∀ (H : Heap) (locs : List Loc), Wd D A s.heap (GC cy ad w.1) H locs → ∀ ls : Array Slot, lv_has ls 3 [(0, .ref (ad 0 0)), (1, .int w.2)] → W p l e rm_X7_reachAll s m args below meth c H locs 0 0 Q (F0 m 55 ls [])) : ∀ (x : (CSt × Int32 × Int32)), lpO (b_X7_reachAll_31 n ) n x = some z → (fun (x : (CSt × Int32 × Int32)) => ∀ (H : Heap) (locs : List Loc), Wd D A s.heap (GC cy ad x.1) H locs → ∀ ls : Array Slot, lv_has ls 3 [(0, .ref (ad 0 0)), (1, .int x.2.1), (2, .int x.2.2)] → W p l e rm_X7_reachAll s m args below meth c H locs 0 0 Q (F0 m 31 ls [])) x := by
  intro x hx0
  refine lpO_ind2 (P := fun (x : (CSt × Int32 × Int32)) => ∀ (H : Heap) (locs : List Loc), Wd D A s.heap (GC cy ad x.1) H locs → ∀ ls : Array Slot, lv_has ls 3 [(0, .ref (ad 0 0)), (1, .int x.2.1), (2, .int x.2.2)] → W p l e rm_X7_reachAll s m args below meth c H locs 0 0 Q (F0 m 31 ls [])) (z := z) ?_ n x hx0
  clear hx0 x
  intro x out hm hg H locs hw ls hl 
  obtain ⟨hx, hb, hml, hown, hts, hr, hlo, hK, hA, hX⟩ := id K
  unfold b_X7_reachAll_31 at hm
  refine lv_iload_n hx hb dX7_reachAll_31 rfl (lv_at hl 2 rfl) ?_
  refine lv_bipush (v := 8) hx hb dX7_reachAll_32 (by decide) ?_
  refine lv_icmp_ge (tgt := 55) hx hb dX7_reachAll_34 (by decide) (fun c57 => ?_) (fun c57 => ?_)
  · replace hm := (if_pos c57).symm.trans hm
    obtain rfl := Option.some.inj hm
    exact hE0 _ hg.symm H locs hw ls (lv_sub hl [0, 1] rfl)
  · replace hm := (if_neg c57).symm.trans hm
    refine lv_aload_n hx hb dX7_reachAll_37 rfl (lv_at hl 0 rfl) ?_
    refine lv_aload_n hx hb dX7_reachAll_38 rfl (lv_at hl 0 rfl) ?_
    refine g_get (ref := "MigrantHeap") (C := RX7) (T := TX7) (N := 11) (ci := 7) K in_X7_reachAll_X7 hw 0 rfl (by decide : 0 < 1) rfl rfl 3 (by decide) (List.mem_of_getElem? (i := 4) rfl) rfl rfl dX7_reachAll_39 ?_
    refine lv_iload_n hx hb dX7_reachAll_42 rfl (lv_at hl 2 rfl) ?_
    obtain ⟨h58, hm⟩ := chkS hm
    refine g_iald K hw 14 0 rfl (by decide) rfl rfl h58 dX7_reachAll_43 ?_
    refine lv_iload_n hx hb dX7_reachAll_44 rfl (lv_at hl 1 rfl) ?_
    obtain ⟨z60, hc59, hm⟩ := bindS hm
    refine g_calli (GG := GC cy ad) K hw (va_runV (As := [.int (x.1.1 19 0 x.2.2.toNatClampNeg), .int x.2.1]) (rest := []) (g_fix K) (c_X7_reach l D cy ad H.size n x.1 (x.1.1 19 0 x.2.2.toNatClampNeg) x.2.1  hc59) (cwV 2 (g_hts K) gX7_reachAll_X7_reach rfl rfl rfl (by decide +kernel) ⟨Nat.le_of_ble_eq_true rfl, Nat.le_of_ble_eq_true rfl⟩) ⟨g_blind rides_none, g_recv K hw 0 rfl (by decide : 0 < 1) rfl rfl, g_pre (X2 := fun _ _ => True) K hw (fun _ _ _ => trivial)⟩ rfl rfl hl.1 rfl (lv_room (Nat.le_of_ble_eq_true rfl)) dX7_reachAll_45 ⟨Nat.le_of_ble_eq_true rfl, Nat.le_of_ble_eq_true rfl⟩) (fun r u H locs hp hw => ?_)
    obtain ⟨rfl, rfl⟩ : r = z60.1 ∧ u = z60.2 := by rw [hp]; exact ⟨rfl, rfl⟩
    refine lv_istore_n (lv' := [(1, .int z60.1), (0, .ref (ad 0 0)), (2, .int x.2.2)]) hx hb dX7_reachAll_48 rfl hl (by decide) rfl (fun ls hl => ?_)
    obtain ⟨x61, hx61, hm⟩ := nm_ex hm
    refine lv_iinc (v := x61) (lv' := [(2, .int x61), (1, .int z60.1), (0, .ref (ad 0 0))]) hx hb dX7_reachAll_49 hl (k := 2) rfl (by rw [hx61]; rfl) (by decide) rfl (fun ls hl => ?_)
    refine lv_goto (tgt := 31) hx hb dX7_reachAll_52 (by decide) ?_
    obtain rfl := Option.some.inj hm
    exact hg H locs hw ls (lv_sub hl [2, 1, 0] rfl)
set_option maxRecDepth 100000 in
set_option maxHeartbeats 4000000 in
theorem t_X7_reachAll_L2 (K : Cx p s m args meth c D A (tysC cy) RX7 cX7_reachAll 3 none wsX7_reachAll (fun _ _ => True)) (n : Nat)   (z : CSt) (hE0 : ∀ w : CSt, z = w → ∀ (H : Heap) (locs : List Loc), Wd D A s.heap (GC cy ad w) H locs → ∀ ls : Array Slot, lv_has ls 3 [(0, .ref (ad 0 0))] → W p l e rm_X7_reachAll s m args below meth c H locs 0 0 Q (F0 m 27 ls [])) : ∀ (x : (CSt × Int32)), lpO (b_X7_reachAll_2 n ) n x = some z → (fun (x : (CSt × Int32)) => ∀ (H : Heap) (locs : List Loc), Wd D A s.heap (GC cy ad x.1) H locs → ∀ ls : Array Slot, lv_has ls 3 [(0, .ref (ad 0 0)), (1, .int x.2)] → W p l e rm_X7_reachAll s m args below meth c H locs 0 0 Q (F0 m 2 ls [])) x := by
  intro x hx0
  refine lpO_ind2 (P := fun (x : (CSt × Int32)) => ∀ (H : Heap) (locs : List Loc), Wd D A s.heap (GC cy ad x.1) H locs → ∀ ls : Array Slot, lv_has ls 3 [(0, .ref (ad 0 0)), (1, .int x.2)] → W p l e rm_X7_reachAll s m args below meth c H locs 0 0 Q (F0 m 2 ls [])) (z := z) ?_ n x hx0
  clear hx0 x
  intro x out hm hg H locs hw ls hl 
  obtain ⟨hx, hb, hml, hown, hts, hr, hlo, hK, hA, hX⟩ := id K
  unfold b_X7_reachAll_2 at hm
  refine lv_iload_n hx hb dX7_reachAll_2 rfl (lv_at hl 1 rfl) ?_
  refine lv_bipush (v := 24) hx hb dX7_reachAll_3 (by decide) ?_
  refine lv_icmp_ge (tgt := 27) hx hb dX7_reachAll_5 (by decide) (fun c62 => ?_) (fun c62 => ?_)
  · replace hm := (if_pos c62).symm.trans hm
    obtain rfl := Option.some.inj hm
    exact hE0 _ hg.symm H locs hw ls (lv_sub hl [0] rfl)
  · replace hm := (if_neg c62).symm.trans hm
    refine lv_aload_n hx hb dX7_reachAll_8 rfl (lv_at hl 0 rfl) ?_
    refine g_get (ref := "MigrantHeap") (C := RX7) (T := TX7) (N := 11) (ci := 7) K in_X7_reachAll_X7 hw 0 rfl (by decide : 0 < 1) rfl rfl 2 (by decide) (List.mem_of_getElem? (i := 1) rfl) rfl rfl dX7_reachAll_9 ?_
    refine g_get (ref := "MigrantHeap$Store") (C := RX6) (T := TX6) (N := 3) (ci := 6) K in_X7_reachAll_X6 hw 9 rfl (by decide : 0 < 1) rfl rfl 0 (by decide) (List.mem_of_getElem? (i := 2) rfl) rfl rfl dX7_reachAll_12 ?_
    refine lv_iload_n hx hb dX7_reachAll_15 rfl (lv_at hl 1 rfl) ?_
    obtain ⟨h63, hm⟩ := chkS hm
    refine g_aald K hw 10 3 rfl (by decide) rfl rfl h63 dX7_reachAll_16 ?_
    refine lv_iconst (v := 0) hx hb dX7_reachAll_17 (by decide) ?_
    refine g_put (v := .int 0) (ty := .boolean) (ref := "MigrantHeap$Entry") (C := RX0) (T := TX0) (N := 6) (ci := 0) K in_X7_reachAll_X0 tyX0 tyX0_ok nmX0 hw 11 rfl (inB_lt h63) rfl rfl 3 (by decide) (List.mem_of_getElem? (i := 3) rfl) rfl rfl (by decide +kernel) rfl rfl (Nat.le_of_ble_eq_true rfl) dX7_reachAll_18 (eC_16 cy ad x.1 x.2.toNatClampNeg 0) (fun H locs hw => ?_)
    obtain ⟨S64, hS64, hm⟩ := nm_ex hm
    rw [← hS64] at hw
    obtain ⟨x65, hx65, hm⟩ := nm_ex hm
    refine lv_iinc (v := x65) (lv' := [(1, .int x65), (0, .ref (ad 0 0))]) hx hb dX7_reachAll_21 hl (k := 1) rfl (by rw [hx65]; rfl) (by decide) rfl (fun ls hl => ?_)
    refine lv_goto (tgt := 2) hx hb dX7_reachAll_24 (by decide) ?_
    obtain rfl := Option.some.inj hm
    exact hg H locs hw ls (lv_sub hl [1, 0] rfl)
set_option maxRecDepth 100000 in
set_option maxHeartbeats 4000000 in
theorem t_X7_reachAll_0 (K : Cx p s m args meth c D A (tysC cy) RX7 cX7_reachAll 3 none wsX7_reachAll (fun _ _ => True)) (n : Nat) (S : CSt)   {out : CSt} (hm : m_X7_reachAll n S  = some out) : ∀ (H : Heap) (locs : List Loc), Wd D A s.heap (GC cy ad S) H locs → ∀ ls : Array Slot, lv_has ls 3 [(0, .ref (ad 0 0))] → W p l e rm_X7_reachAll s m args below meth c H locs 0 0 (MQ below (va_Qv (fun (u : CSt) => out = u) (fun u => Pst D (tysC cy) A (GC cy ad u)) A) args s 0 0 A) (F0 m 0 ls []) := by
  intro H locs hw ls hl
  obtain ⟨hx, hb, hml, hown, hts, hr, hlo, hK, hA, hX⟩ := id K
  unfold m_X7_reachAll at hm
  refine lv_iconst (v := 0) hx hb dX7_reachAll_0 (by decide) ?_
  refine lv_istore_n (lv' := [(1, .int 0), (0, .ref (ad 0 0))]) hx hb dX7_reachAll_1 rfl hl (by decide) rfl (fun ls hl => ?_)
  obtain ⟨z66, hz67, hm⟩ := bindS hm
  refine t_X7_reachAll_L2 K n  z66 (fun w68 hww68 => ?_) ((S, 0)) hz67 H locs hw ls (lv_sub hl [1, 0] rfl)
  · intro H locs hw ls hl 
    try rw [hww68] at hm
    refine lv_iconst (v := 0) hx hb dX7_reachAll_27 (by decide) ?_
    refine lv_istore_n (lv' := [(1, .int 0), (0, .ref (ad 0 0))]) hx hb dX7_reachAll_28 rfl hl (by decide) rfl (fun ls hl => ?_)
    refine lv_iconst (v := 0) hx hb dX7_reachAll_29 (by decide) ?_
    refine lv_istore_n (lv' := [(2, .int 0), (1, .int 0), (0, .ref (ad 0 0))]) hx hb dX7_reachAll_30 rfl hl (by decide) rfl (fun ls hl => ?_)
    obtain ⟨z69, hz70, hm⟩ := bindS hm
    refine t_X7_reachAll_L31 K n  z69 (fun w71 hww71 => ?_) ((w68, 0, 0)) hz70 H locs hw ls (lv_sub hl [2, 1, 0] rfl)
    · intro H locs hw ls hl 
      try rw [hww71] at hm
      refine lv_iconst (v := 0) hx hb dX7_reachAll_55 (by decide) ?_
      refine lv_istore_n (lv' := [(2, .int 0), (0, .ref (ad 0 0)), (1, .int w71.2)]) hx hb dX7_reachAll_56 rfl hl (by decide) rfl (fun ls hl => ?_)
      obtain ⟨z72, hz73, hm⟩ := bindS hm
      refine t_X7_reachAll_L57 K n  z72 (fun w74 hww74 => ?_) ((w71.1, w71.2, 0)) hz73 H locs hw ls (lv_sub hl [1, 2, 0] rfl)
      · intro H locs hw ls hl 
        try rw [hww74] at hm
        exact g_vret (GG := GC cy ad) K hw (Option.some.inj hm).symm dX7_reachAll_86
set_option maxRecDepth 100000 in
set_option maxHeartbeats 4000000 in
theorem c_X7_reachAll (l : Launch) (D : va_G) (cy : Nat → ClassId) (ad : Nat → Nat → Nat) (sz n : Nat) (S : CSt)   {out : CSt} (hm : m_X7_reachAll n S  = some out) : Met l yX7_reachAll wsX7_reachAll rm_X7_reachAll (va_Pc [.ref (ad 0 0)] (Pre D (tysC cy) (GC cy ad S) (fun _ _ => True) sz)) (va_Qv (fun (u : CSt) => out = u) (fun u => Pst D (tysC cy) (AA (adrs (GC cy ad S)) sz) (GC cy ad u)) (AA (adrs (GC cy ad S)) sz)) 0 0 (AA (adrs (GC cy ad S)) sz) := by
  refine g_met (by decide) rfl (Nat.le_of_ble_eq_true rfl) ?_
  intro p e s m args below meth c K hw ls hl
  exact t_X7_reachAll_0 (cy := cy) K n S   hm _ _ hw ls hl
end W_X7_reachAll
section W_X7_collect
variable {p : Program} {l : Launch} {e : Env} {s : State} {m : MethodId} {args : Array Value} {below : List Frame} {meth : Method} {c : Code} {D : va_G} {A : Nat → Prop} {cy : Nat → ClassId} {ad : Nat → Nat → Nat} {Q : State → Prop}
abbrev rm_X7_collect : Room := { frames := 5, cells := 0, slots := 0, locals := 113 }
theorem in_X7_collect_X0 : ∀ w ∈ u_ws RX0 TX0 6, w ∈ wsX7_collect := by decide +kernel
theorem in_X7_collect_X6 : ∀ w ∈ u_ws RX6 TX6 3, w ∈ wsX7_collect := by decide +kernel
theorem in_X7_collect_X7 : ∀ w ∈ u_ws RX7 TX7 11, w ∈ wsX7_collect := by decide +kernel
set_option maxRecDepth 100000 in
set_option maxHeartbeats 4000000 in
theorem t_X7_collect_L8 (K : Cx p s m args meth c D A (tysC cy) RX7 cX7_collect 4 (some .int) wsX7_collect (fun _ _ => True)) (n : Nat)   (z : (CSt × Int32)) (hE0 : ∀ w : (CSt × Int32), z = w → ∀ (H : Heap) (locs : List Loc), Wd D A s.heap (GC cy ad w.1) H locs → ∀ ls : Array Slot, lv_has ls 4 [(1, .int w.2)] → W p l e rm_X7_collect s m args below meth c H locs 0 0 Q (F0 m 55 ls [])) : ∀ (x : (CSt × Int32 × Int32)), lpO (b_X7_collect_8 n ) n x = some z → (fun (x : (CSt × Int32 × Int32)) => ∀ (H : Heap) (locs : List Loc), Wd D A s.heap (GC cy ad x.1) H locs → ∀ ls : Array Slot, lv_has ls 4 [(0, .ref (ad 0 0)), (1, .int x.2.1), (2, .int x.2.2)] → W p l e rm_X7_collect s m args below meth c H locs 0 0 Q (F0 m 8 ls [])) x := by
  intro x hx0
  refine lpO_ind2 (P := fun (x : (CSt × Int32 × Int32)) => ∀ (H : Heap) (locs : List Loc), Wd D A s.heap (GC cy ad x.1) H locs → ∀ ls : Array Slot, lv_has ls 4 [(0, .ref (ad 0 0)), (1, .int x.2.1), (2, .int x.2.2)] → W p l e rm_X7_collect s m args below meth c H locs 0 0 Q (F0 m 8 ls [])) (z := z) ?_ n x hx0
  clear hx0 x
  intro x out hm hg H locs hw ls hl 
  obtain ⟨hx, hb, hml, hown, hts, hr, hlo, hK, hA, hX⟩ := id K
  unfold b_X7_collect_8 at hm
  refine lv_iload_n hx hb dX7_collect_8 rfl (lv_at hl 2 rfl) ?_
  refine lv_bipush (v := 24) hx hb dX7_collect_9 (by decide) ?_
  refine lv_icmp_ge (tgt := 55) hx hb dX7_collect_11 (by decide) (fun c26 => ?_) (fun c26 => ?_)
  · replace hm := (if_pos c26).symm.trans hm
    obtain rfl := Option.some.inj hm
    exact hE0 _ hg.symm H locs hw ls (lv_sub hl [1] rfl)
  · replace hm := (if_neg c26).symm.trans hm
    refine lv_aload_n hx hb dX7_collect_14 rfl (lv_at hl 0 rfl) ?_
    refine g_get (ref := "MigrantHeap") (C := RX7) (T := TX7) (N := 11) (ci := 7) K in_X7_collect_X7 hw 0 rfl (by decide : 0 < 1) rfl rfl 2 (by decide) (List.mem_of_getElem? (i := 1) rfl) rfl rfl dX7_collect_15 ?_
    refine g_get (ref := "MigrantHeap$Store") (C := RX6) (T := TX6) (N := 3) (ci := 6) K in_X7_collect_X6 hw 9 rfl (by decide : 0 < 1) rfl rfl 0 (by decide) (List.mem_of_getElem? (i := 2) rfl) rfl rfl dX7_collect_18 ?_
    refine lv_iload_n hx hb dX7_collect_21 rfl (lv_at hl 2 rfl) ?_
    obtain ⟨h27, hm⟩ := chkS hm
    refine g_aald K hw 10 3 rfl (by decide) rfl rfl h27 dX7_collect_22 ?_
    refine lv_astore_n (lv' := [(3, .ref (ad 11 x.2.2.toNatClampNeg)), (0, .ref (ad 0 0)), (1, .int x.2.1), (2, .int x.2.2)]) hx hb dX7_collect_23 rfl hl (by decide) rfl (fun ls hl => ?_)
    refine lv_aload_n hx hb dX7_collect_24 rfl (lv_at hl 0 rfl) ?_
    refine g_get (ref := "MigrantHeap$Entry") (C := RX0) (T := TX0) (N := 6) (ci := 0) K in_X7_collect_X0 hw 11 rfl (inB_lt h27) rfl rfl 0 (by decide) (List.mem_of_getElem? (i := 3) rfl) rfl rfl dX7_collect_25 ?_
    refine lv_if_eq (tgt := 49) hx hb dX7_collect_28 (by decide) (fun c28 => ?_) (fun c28 => ?_)
    · replace hm := (if_pos c28).symm.trans hm
      obtain ⟨x29, hx29, hm⟩ := nm_ex hm
      refine lv_iinc (v := x29) (lv' := [(2, .int x29), (3, .ref (ad 11 x.2.2.toNatClampNeg)), (0, .ref (ad 0 0)), (1, .int x.2.1)]) hx hb dX7_collect_49 hl (k := 3) rfl (by rw [hx29]; rfl) (by decide) rfl (fun ls hl => ?_)
      refine lv_goto (tgt := 8) hx hb dX7_collect_52 (by decide) ?_
      obtain rfl := Option.some.inj hm
      exact hg H locs hw ls (lv_sub hl [2, 3, 0] rfl)
    · replace hm := (if_neg c28).symm.trans hm
      refine lv_aload_n hx hb dX7_collect_31 rfl (lv_at hl 0 rfl) ?_
      refine g_get (ref := "MigrantHeap$Entry") (C := RX0) (T := TX0) (N := 6) (ci := 0) K in_X7_collect_X0 hw 11 rfl (inB_lt h27) rfl rfl 3 (by decide) (List.mem_of_getElem? (i := 4) rfl) rfl rfl dX7_collect_32 ?_
      refine lv_if_ne (tgt := 49) hx hb dX7_collect_35 (by decide) (fun c30 => ?_) (fun c30 => ?_)
      · replace hm := (if_pos c30).symm.trans hm
        obtain ⟨x31, hx31, hm⟩ := nm_ex hm
        refine lv_iinc (v := x31) (lv' := [(2, .int x31), (3, .ref (ad 11 x.2.2.toNatClampNeg)), (0, .ref (ad 0 0)), (1, .int x.2.1)]) hx hb dX7_collect_49 hl (k := 3) rfl (by rw [hx31]; rfl) (by decide) rfl (fun ls hl => ?_)
        refine lv_goto (tgt := 8) hx hb dX7_collect_52 (by decide) ?_
        obtain rfl := Option.some.inj hm
        exact hg H locs hw ls (lv_sub hl [2, 3, 0] rfl)
      · replace hm := (if_neg (fun h => h c30)).symm.trans hm
        refine lv_aload_n hx hb dX7_collect_38 rfl (lv_at hl 1 rfl) ?_
        refine g_get (ref := "MigrantHeap") (C := RX7) (T := TX7) (N := 11) (ci := 7) K in_X7_collect_X7 hw 0 rfl (by decide : 0 < 1) rfl rfl 2 (by decide) (List.mem_of_getElem? (i := 1) rfl) rfl rfl dX7_collect_39 ?_
        refine lv_aload_n hx hb dX7_collect_42 rfl (lv_at hl 0 rfl) ?_
        obtain ⟨z33, hc32, hm⟩ := bindS hm
        refine g_callv (GG := GC cy ad) K hw (va_runV (As := [.ref (ad 11 x.2.2.toNatClampNeg)]) (rest := []) (g_fix K) (c_X6_remove l D cy ad H.size n x.1 x.2.2.toNatClampNeg (inB_lt h27) hc32) (cwV 1 (g_hts K) gX7_collect_X6_remove rfl rfl rfl (by decide +kernel) ⟨Nat.le_of_ble_eq_true rfl, Nat.le_of_ble_eq_true rfl⟩) ⟨g_blind rides_none, g_recv K hw 9 rfl (by decide : 0 < 1) rfl rfl, g_pre (X2 := fun _ _ => True) K hw (fun _ _ _ => trivial)⟩ rfl rfl hl.1 rfl (lv_room (Nat.le_of_ble_eq_true rfl)) dX7_collect_43 ⟨Nat.le_of_ble_eq_true rfl, Nat.le_of_ble_eq_true rfl⟩) (fun u H locs hp hw => ?_)
        obtain rfl := hp
        obtain ⟨x34, hx34, hm⟩ := nm_ex hm
        refine lv_iinc (v := x34) (lv' := [(1, .int x34), (3, .ref (ad 11 x.2.2.toNatClampNeg)), (0, .ref (ad 0 0)), (2, .int x.2.2)]) hx hb dX7_collect_46 hl (k := 2) rfl (by rw [hx34]; rfl) (by decide) rfl (fun ls hl => ?_)
        obtain ⟨x35, hx35, hm⟩ := nm_ex hm
        refine lv_iinc (v := x35) (lv' := [(2, .int x35), (1, .int x34), (3, .ref (ad 11 x.2.2.toNatClampNeg)), (0, .ref (ad 0 0))]) hx hb dX7_collect_49 hl (k := 3) rfl (by rw [hx35]; rfl) (by decide) rfl (fun ls hl => ?_)
        refine lv_goto (tgt := 8) hx hb dX7_collect_52 (by decide) ?_
        obtain rfl := Option.some.inj hm
        exact hg H locs hw ls (lv_sub hl [3, 1, 0] rfl)
set_option maxRecDepth 100000 in
set_option maxHeartbeats 4000000 in
theorem t_X7_collect_0 (K : Cx p s m args meth c D A (tysC cy) RX7 cX7_collect 4 (some .int) wsX7_collect (fun _ _ => True)) (n : Nat) (S : CSt)   {out : Int32 × CSt} (hm : m_X7_collect n S  = some out) : ∀ (H : Heap) (locs : List Loc), Wd D A s.heap (GC cy ad S) H locs → ∀ ls : Array Slot, lv_has ls 4 [(0, .ref (ad 0 0))] → W p l e rm_X7_collect s m args below meth c H locs 0 0 (MQ below (va_Qi (fun r (u : CSt) => out = (r, u)) (fun u => Pst D (tysC cy) A (GC cy ad u)) A) args s 0 0 A) (F0 m 0 ls []) := by
  intro H locs hw ls hl
  obtain ⟨hx, hb, hml, hown, hts, hr, hlo, hK, hA, hX⟩ := id K
  unfold m_X7_collect at hm
  refine lv_aload_n hx hb dX7_collect_0 rfl (lv_at hl 0 rfl) ?_
  obtain ⟨z37, hc36, hm⟩ := bindS hm
  refine g_callv (GG := GC cy ad) K hw (va_runV (As := []) (rest := []) (g_fix K) (c_X7_reachAll l D cy ad H.size n S   hc36) (cwV 0 (g_hts K) gX7_collect_X7_reachAll rfl rfl rfl (by decide +kernel) ⟨Nat.le_of_ble_eq_true rfl, Nat.le_of_ble_eq_true rfl⟩) ⟨g_blind rides_none, g_recv K hw 0 rfl (by decide : 0 < 1) rfl rfl, g_pre (X2 := fun _ _ => True) K hw (fun _ _ _ => trivial)⟩ rfl rfl hl.1 rfl (lv_room (Nat.le_of_ble_eq_true rfl)) dX7_collect_1 ⟨Nat.le_of_ble_eq_true rfl, Nat.le_of_ble_eq_true rfl⟩) (fun u H locs hp hw => ?_)
  obtain rfl := hp
  refine lv_iconst (v := 0) hx hb dX7_collect_4 (by decide) ?_
  refine lv_istore_n (lv' := [(1, .int 0), (0, .ref (ad 0 0))]) hx hb dX7_collect_5 rfl hl (by decide) rfl (fun ls hl => ?_)
  refine lv_iconst (v := 0) hx hb dX7_collect_6 (by decide) ?_
  refine lv_istore_n (lv' := [(2, .int 0), (1, .int 0), (0, .ref (ad 0 0))]) hx hb dX7_collect_7 rfl hl (by decide) rfl (fun ls hl => ?_)
  obtain ⟨z38, hz39, hm⟩ := bindS hm
  refine t_X7_collect_L8 K n  z38 (fun w40 hww40 => ?_) ((z37, 0, 0)) hz39 H locs hw ls (lv_sub hl [2, 1, 0] rfl)
  · intro H locs hw ls hl 
    try rw [hww40] at hm
    refine lv_iload_n hx hb dX7_collect_55 rfl (lv_at hl 0 rfl) ?_
    exact g_iret (GG := GC cy ad) K hw (Option.some.inj hm).symm dX7_collect_56
set_option maxRecDepth 100000 in
set_option maxHeartbeats 4000000 in
theorem c_X7_collect (l : Launch) (D : va_G) (cy : Nat → ClassId) (ad : Nat → Nat → Nat) (sz n : Nat) (S : CSt)   {out : Int32 × CSt} (hm : m_X7_collect n S  = some out) : Met l yX7_collect wsX7_collect rm_X7_collect (va_Pc [.ref (ad 0 0)] (Pre D (tysC cy) (GC cy ad S) (fun _ _ => True) sz)) (va_Qi (fun r (u : CSt) => out = (r, u)) (fun u => Pst D (tysC cy) (AA (adrs (GC cy ad S)) sz) (GC cy ad u)) (AA (adrs (GC cy ad S)) sz)) 0 0 (AA (adrs (GC cy ad S)) sz) := by
  refine g_met (by decide) rfl (Nat.le_of_ble_eq_true rfl) ?_
  intro p e s m args below meth c K hw ls hl
  exact t_X7_collect_0 (cy := cy) K n S   hm _ _ hw ls hl
end W_X7_collect
section W_X7_about
variable {p : Program} {l : Launch} {e : Env} {s : State} {m : MethodId} {args : Array Value} {below : List Frame} {meth : Method} {c : Code} {D : va_G} {A : Nat → Prop} {cy : Nat → ClassId} {ad : Nat → Nat → Nat} {Q : State → Prop}
abbrev rm_X7_about : Room := { frames := 7, cells := 2, slots := 12, locals := 121 }
theorem in_X7_about_X2 : ∀ w ∈ u_ws RX2 TX2 4, w ∈ wsX7_about := by decide +kernel
theorem in_X7_about_X4 : ∀ w ∈ u_ws RX4 TX4 6, w ∈ wsX7_about := by decide +kernel
theorem in_X7_about_X7 : ∀ w ∈ u_ws RX7 TX7 11, w ∈ wsX7_about := by decide +kernel
set_option maxRecDepth 100000 in
set_option maxHeartbeats 4000000 in
theorem t_X7_about_0 (K : Cx p s m args meth c D A (tysC cy) RX7 cX7_about 3 (some .int) wsX7_about EV) (hno : ∀ x ∈ c.exceptionTable.toList, False) (hl9 : l.stackTraces = false) (n : Nat) (S : CSt) (x1 : Int32) (x2 : Int32)  {out : (Int32) ⊕ (Nat × CSt)} (hm : m_X7_about n S x1 x2 = some out) : ∀ (H : Heap) (locs : List Loc), Wd D A s.heap (GC cy ad S) H locs → ∀ ls : Array Slot, lv_has ls 3 [(0, .ref (ad 0 0)), (1, .int x1), (2, .int x2)] → W p l e rm_X7_about s m args below meth c H locs 0 0 (vx_MQ below (va_Qi (fun r (u : CSt) => out = .inl r ∧ u = S) (fun u => Pst D (tysC cy) A (GC cy ad u)) A) (XCx D (tysC cy) A (GC cy ad) out) args s 2 12 A) (F0 m 0 ls []) := by
  intro H locs hw ls hl
  obtain ⟨hx, hb, hml, hown, hts, hr, hlo, hK, hA, hX⟩ := id K
  unfold m_X7_about at hm
  refine lv_aload_n hx hb dX7_about_0 rfl (lv_at hl 0 rfl) ?_
  refine lv_iload_n hx hb dX7_about_1 rfl (lv_at hl 1 rfl) ?_
  obtain ⟨z26, hc25, hm⟩ := bindS hm
  refine g_xcallv (GG := GC cy ad) K hno hw (vx_runV (As := [.int x1]) (rest := []) (g_fix K) (c_X7_needClass l hl9 D cy ad H.size n S x1  hc25) (cwV 1 (g_hts K) gX7_about_X7_needClass rfl rfl rfl (by decide +kernel) ⟨Nat.le_of_ble_eq_true rfl, Nat.le_of_ble_eq_true rfl⟩) ⟨g_blind rides_EV, g_recv K hw 0 rfl (by decide : 0 < 1) rfl rfl, g_pre K hw (g_ride rides_EV K hw)⟩ rfl rfl hl.1 rfl (lv_room (Nat.le_of_ble_eq_true rfl)) dX7_about_2 ⟨Nat.le_of_ble_eq_true rfl, Nat.le_of_ble_eq_true rfl⟩) (fun u hu => by subst hu; exact sumX hm) (Nat.le_of_ble_eq_true rfl) (Nat.le_of_ble_eq_true rfl) (fun u H locs hp hw => ?_)
  obtain ⟨hp, hu⟩ := hp
  rw [hu] at hw
  obtain ⟨w27, hw27⟩ : ∃ q : Unit, q = () := ⟨_, rfl⟩
  subst hp
  replace hm := (sumL _ _ _).symm.trans hm
  refine lv_iload_n hx hb dX7_about_5 rfl (lv_at hl 2 rfl) ?_
  by_cases c28 : x2 = 0
  · replace hm := (if_pos c28).symm.trans hm
    refine lv_tableIn (off := 30) (tgt := 36) hx hb dX7_about_6 (by rw [c28]; decide) (by rw [c28]; decide) (by rw [c28]; rfl) (by decide) ?_
    refine lv_aload_n hx hb dX7_about_36 rfl (lv_at hl 0 rfl) ?_
    refine g_get (ref := "MigrantHeap") (C := RX7) (T := TX7) (N := 11) (ci := 7) K in_X7_about_X7 hw 0 rfl (by decide : 0 < 1) rfl rfl 0 (by decide) (List.mem_of_getElem? (i := 3) rfl) rfl rfl dX7_about_37 ?_
    refine lv_iload_n hx hb dX7_about_40 rfl (lv_at hl 1 rfl) ?_
    obtain ⟨h29, hm⟩ := chkS hm
    refine g_aald K hw 1 4 rfl (by decide) rfl rfl h29 dX7_about_41 ?_
    refine g_get (ref := "MigrantHeap$Kind") (C := RX2) (T := TX2) (N := 4) (ci := 2) K in_X7_about_X2 hw 2 rfl (inB_lt h29) rfl rfl 0 (by decide) (List.mem_of_getElem? (i := 4) rfl) rfl rfl dX7_about_42 ?_
    refine vx_ret (W.widen (k := 2) (n := 12) (Nat.le_of_ble_eq_true rfl) (Nat.le_of_ble_eq_true rfl) ?_)
    exact g_iret (GG := GC cy ad) K hw ⟨(Option.some.inj hm).symm, rfl⟩ dX7_about_45
  · replace hm := (if_neg c28).symm.trans hm
    by_cases c30 : x2 = 1
    · replace hm := (if_pos c30).symm.trans hm
      refine lv_tableIn (off := 40) (tgt := 46) hx hb dX7_about_6 (by rw [c30]; decide) (by rw [c30]; decide) (by rw [c30]; rfl) (by decide) ?_
      refine lv_aload_n hx hb dX7_about_46 rfl (lv_at hl 0 rfl) ?_
      refine g_get (ref := "MigrantHeap") (C := RX7) (T := TX7) (N := 11) (ci := 7) K in_X7_about_X7 hw 0 rfl (by decide : 0 < 1) rfl rfl 2 (by decide) (List.mem_of_getElem? (i := 5) rfl) rfl rfl dX7_about_47 ?_
      refine lv_iload_n hx hb dX7_about_50 rfl (lv_at hl 1 rfl) ?_
      obtain ⟨z32, hc31, hm⟩ := bindS hm
      refine g_calli (GG := GC cy ad) K hw (va_runV (As := [.int x1]) (rest := []) (g_fix K) (c_X6_countOf l D cy ad H.size n S x1  hc31) (cwV 1 (g_hts K) gX7_about_X6_countOf rfl rfl rfl (by decide +kernel) ⟨Nat.le_of_ble_eq_true rfl, Nat.le_of_ble_eq_true rfl⟩) ⟨g_blind rides_none, g_recv K hw 9 rfl (by decide : 0 < 1) rfl rfl, g_pre (X2 := fun _ _ => True) K hw (fun _ _ _ => trivial)⟩ rfl rfl hl.1 rfl (lv_room (Nat.le_of_ble_eq_true rfl)) dX7_about_51 ⟨Nat.le_of_ble_eq_true rfl, Nat.le_of_ble_eq_true rfl⟩) (fun r u H locs hp hw => ?_)
      obtain ⟨rfl, hu⟩ := hp
      rw [hu] at hw
      refine vx_ret (W.widen (k := 2) (n := 12) (Nat.le_of_ble_eq_true rfl) (Nat.le_of_ble_eq_true rfl) ?_)
      exact g_iret (GG := GC cy ad) K hw ⟨(Option.some.inj hm).symm, rfl⟩ dX7_about_54
    · replace hm := (if_neg c30).symm.trans hm
      by_cases c33 : x2 = 2
      · replace hm := (if_pos c33).symm.trans hm
        refine lv_tableIn (off := 49) (tgt := 55) hx hb dX7_about_6 (by rw [c33]; decide) (by rw [c33]; decide) (by rw [c33]; rfl) (by decide) ?_
        refine lv_aload_n hx hb dX7_about_55 rfl (lv_at hl 0 rfl) ?_
        refine g_get (ref := "MigrantHeap") (C := RX7) (T := TX7) (N := 11) (ci := 7) K in_X7_about_X7 hw 0 rfl (by decide : 0 < 1) rfl rfl 2 (by decide) (List.mem_of_getElem? (i := 5) rfl) rfl rfl dX7_about_56 ?_
        refine lv_iload_n hx hb dX7_about_59 rfl (lv_at hl 1 rfl) ?_
        obtain ⟨z35, hc34, hm⟩ := bindS hm
        refine g_calli (GG := GC cy ad) K hw (va_runV (As := [.int x1]) (rest := []) (g_fix K) (c_X6_countOf l D cy ad H.size n S x1  hc34) (cwV 1 (g_hts K) gX7_about_X6_countOf rfl rfl rfl (by decide +kernel) ⟨Nat.le_of_ble_eq_true rfl, Nat.le_of_ble_eq_true rfl⟩) ⟨g_blind rides_none, g_recv K hw 9 rfl (by decide : 0 < 1) rfl rfl, g_pre (X2 := fun _ _ => True) K hw (fun _ _ _ => trivial)⟩ rfl rfl hl.1 rfl (lv_room (Nat.le_of_ble_eq_true rfl)) dX7_about_60 ⟨Nat.le_of_ble_eq_true rfl, Nat.le_of_ble_eq_true rfl⟩) (fun r u H locs hp hw => ?_)
        obtain ⟨rfl, hu⟩ := hp
        rw [hu] at hw
        refine lv_aload_n hx hb dX7_about_63 rfl (lv_at hl 0 rfl) ?_
        refine g_get (ref := "MigrantHeap") (C := RX7) (T := TX7) (N := 11) (ci := 7) K in_X7_about_X7 hw 0 rfl (by decide : 0 < 1) rfl rfl 2 (by decide) (List.mem_of_getElem? (i := 5) rfl) rfl rfl dX7_about_64 ?_
        refine lv_iload_n hx hb dX7_about_67 rfl (lv_at hl 1 rfl) ?_
        refine lv_aload_n hx hb dX7_about_68 rfl (lv_at hl 0 rfl) ?_
        refine g_get (ref := "MigrantHeap") (C := RX7) (T := TX7) (N := 11) (ci := 7) K in_X7_about_X7 hw 0 rfl (by decide : 0 < 1) rfl rfl 0 (by decide) (List.mem_of_getElem? (i := 3) rfl) rfl rfl dX7_about_69 ?_
        refine lv_iload_n hx hb dX7_about_72 rfl (lv_at hl 1 rfl) ?_
        obtain ⟨h36, hm⟩ := chkS hm
        refine g_aald K hw 1 4 rfl (by decide) rfl rfl h36 dX7_about_73 ?_
        refine g_get (ref := "MigrantHeap$Kind") (C := RX2) (T := TX2) (N := 4) (ci := 2) K in_X7_about_X2 hw 2 rfl (inB_lt h36) rfl rfl 0 (by decide) (List.mem_of_getElem? (i := 4) rfl) rfl rfl dX7_about_74 ?_
        obtain ⟨z38, hc37, hm⟩ := bindS hm
        refine g_calli (GG := GC cy ad) K hw (va_runV (As := [.int x1, .int (S.1 3 x1.toNatClampNeg 0)]) (rest := [.int z35]) (g_fix K) (c_X6_countKeptAs l D cy ad H.size n S x1 (S.1 3 x1.toNatClampNeg 0)  hc37) (cwV 2 (g_hts K) gX7_about_X6_countKeptAs rfl rfl rfl (by decide +kernel) ⟨Nat.le_of_ble_eq_true rfl, Nat.le_of_ble_eq_true rfl⟩) ⟨g_blind rides_none, g_recv K hw 9 rfl (by decide : 0 < 1) rfl rfl, g_pre (X2 := fun _ _ => True) K hw (fun _ _ _ => trivial)⟩ rfl rfl hl.1 rfl (lv_room (Nat.le_of_ble_eq_true rfl)) dX7_about_77 ⟨Nat.le_of_ble_eq_true rfl, Nat.le_of_ble_eq_true rfl⟩) (fun r u H locs hp hw => ?_)
        obtain ⟨rfl, hu⟩ := hp
        rw [hu] at hw
        refine lv_isub hx hb dX7_about_80 ?_
        refine vx_ret (W.widen (k := 2) (n := 12) (Nat.le_of_ble_eq_true rfl) (Nat.le_of_ble_eq_true rfl) ?_)
        exact g_iret (GG := GC cy ad) K hw ⟨(Option.some.inj hm).symm, rfl⟩ dX7_about_81
      · replace hm := (if_neg c33).symm.trans hm
        by_cases c39 : x2 = 3
        · replace hm := (if_pos c39).symm.trans hm
          refine lv_tableIn (off := 76) (tgt := 82) hx hb dX7_about_6 (by rw [c39]; decide) (by rw [c39]; decide) (by rw [c39]; rfl) (by decide) ?_
          refine lv_aload_n hx hb dX7_about_82 rfl (lv_at hl 0 rfl) ?_
          refine g_get (ref := "MigrantHeap") (C := RX7) (T := TX7) (N := 11) (ci := 7) K in_X7_about_X7 hw 0 rfl (by decide : 0 < 1) rfl rfl 0 (by decide) (List.mem_of_getElem? (i := 3) rfl) rfl rfl dX7_about_83 ?_
          refine lv_iload_n hx hb dX7_about_86 rfl (lv_at hl 1 rfl) ?_
          obtain ⟨h40, hm⟩ := chkS hm
          refine g_aald K hw 1 4 rfl (by decide) rfl rfl h40 dX7_about_87 ?_
          refine g_get (ref := "MigrantHeap$Kind") (C := RX2) (T := TX2) (N := 4) (ci := 2) K in_X7_about_X2 hw 2 rfl (inB_lt h40) rfl rfl 2 (by decide) (List.mem_of_getElem? (i := 6) rfl) rfl rfl dX7_about_88 ?_
          refine g_get (ref := "MigrantHeap$Shape") (C := RX4) (T := TX4) (N := 6) (ci := 4) K in_X7_about_X4 hw 3 rfl (by have := (inB_lt h40); omega : (2 * x1.toNatClampNeg) < 9) rfl rfl 0 (by decide) (List.mem_of_getElem? (i := 7) rfl) rfl rfl dX7_about_91 ?_
          refine vx_ret (W.widen (k := 2) (n := 12) (Nat.le_of_ble_eq_true rfl) (Nat.le_of_ble_eq_true rfl) ?_)
          exact g_iret (GG := GC cy ad) K hw ⟨(Option.some.inj hm).symm, rfl⟩ dX7_about_94
        · replace hm := (if_neg c39).symm.trans hm
          have hsw43 : Int32.toInt x2 < 0 ∨ 3 < Int32.toInt x2 := by
            refine sw_out (fun k h1 h2 => ?_)
            rcases (show k = 0 ∨ k = 1 ∨ k = 2 ∨ k = 3 by omega) with rfl | rfl | rfl | rfl
            · exact c28
            · exact c30
            · exact c33
            · exact c39
          refine lv_tableOut (tgt := 95) hx hb dX7_about_6 hsw43 (by decide) ?_
          obtain ⟨sa41, hs42⟩ := hX.2.1 (239, _) (List.mem_of_getElem? (i := 12) rfl)
          exact vx_throwS (own := RX7) (cls := "java/lang/IllegalArgumentException") (names := rteL) (sa := sa41) hx hb hl9 hown (by decide +kernel) (by decide +kernel) (hts _ (List.mem_of_getElem? (i := 1) rfl)) (hts _ (List.mem_of_getElem? (i := 2) rfl)) hs42 (ev_hat hX (by decide) hts (by decide +kernel) (by decide +kernel)) (by decide +kernel) hX.2.2.2.2.1 hX.2.2.2.2.2 hw.2.2 (hl.1.trans hml.symm) dX7_about_95 dX7_about_98 dX7_about_99 dX7_about_101 dX7_about_104 (fun x h => (hno x h).elim) (Nat.le_of_ble_eq_true rfl) (Nat.le_of_ble_eq_true rfl) (Nat.le_of_ble_eq_true rfl) (Nat.le_of_ble_eq_true rfl) hlo (g_xc (GG := GC cy ad) K hw (Option.some.inj hm).symm rfl) hw.2.2.2.2 (Nat.le_of_ble_eq_true rfl) (Nat.le_of_ble_eq_true rfl)
set_option maxRecDepth 100000 in
set_option maxHeartbeats 4000000 in
theorem c_X7_about (l : Launch) (hl9 : l.stackTraces = false) (D : va_G) (cy : Nat → ClassId) (ad : Nat → Nat → Nat) (sz n : Nat) (S : CSt) (x1 : Int32) (x2 : Int32)  {out : (Int32) ⊕ (Nat × CSt)} (hm : m_X7_about n S x1 x2 = some out) : vx_Met l yX7_about wsX7_about rm_X7_about (va_Pc [.ref (ad 0 0), .int x1, .int x2] (Pre D (tysC cy) (GC cy ad S) EV sz)) (va_Qi (fun r (u : CSt) => out = .inl r ∧ u = S) (fun u => Pst D (tysC cy) (AA (adrs (GC cy ad S)) sz) (GC cy ad u)) (AA (adrs (GC cy ad S)) sz)) (XCx D (tysC cy) (AA (adrs (GC cy ad S)) sz) (GC cy ad) out) 2 12 (AA (adrs (GC cy ad S)) sz) := by
  refine g_xmet (by decide) rfl (Nat.le_of_ble_eq_true rfl) ?_
  intro p e s m args below meth c K hno hw ls hl
  exact t_X7_about_0 (cy := cy) K hno hl9 n S x1 x2  hm _ _ hw ls hl
end W_X7_about
section W_X7_field
variable {p : Program} {l : Launch} {e : Env} {s : State} {m : MethodId} {args : Array Value} {below : List Frame} {meth : Method} {c : Code} {D : va_G} {A : Nat → Prop} {cy : Nat → ClassId} {ad : Nat → Nat → Nat} {Q : State → Prop}
abbrev rm_X7_field : Room := { frames := 7, cells := 2, slots := 12, locals := 121 }
theorem in_X7_field_X2 : ∀ w ∈ u_ws RX2 TX2 4, w ∈ wsX7_field := by decide +kernel
theorem in_X7_field_X4 : ∀ w ∈ u_ws RX4 TX4 6, w ∈ wsX7_field := by decide +kernel
theorem in_X7_field_X7 : ∀ w ∈ u_ws RX7 TX7 11, w ∈ wsX7_field := by decide +kernel
set_option maxRecDepth 100000 in
set_option maxHeartbeats 4000000 in
theorem t_X7_field_0 (K : Cx p s m args meth c D A (tysC cy) RX7 cX7_field 5 (some .int) wsX7_field EV) (hno : ∀ x ∈ c.exceptionTable.toList, False) (hl9 : l.stackTraces = false) (n : Nat) (S : CSt) (x1 : Int32) (x2 : Int32) (x3 : Int32)  {out : (Int32) ⊕ (Nat × CSt)} (hm : m_X7_field n S x1 x2 x3 = some out) : ∀ (H : Heap) (locs : List Loc), Wd D A s.heap (GC cy ad S) H locs → ∀ ls : Array Slot, lv_has ls 5 [(0, .ref (ad 0 0)), (1, .int x1), (2, .int x2), (3, .int x3)] → W p l e rm_X7_field s m args below meth c H locs 0 0 (vx_MQ below (va_Qi (fun r (u : CSt) => out = .inl r ∧ u = S) (fun u => Pst D (tysC cy) A (GC cy ad u)) A) (XCx D (tysC cy) A (GC cy ad) out) args s 2 12 A) (F0 m 0 ls []) := by
  intro H locs hw ls hl
  obtain ⟨hx, hb, hml, hown, hts, hr, hlo, hK, hA, hX⟩ := id K
  unfold m_X7_field at hm
  refine lv_aload_n hx hb dX7_field_0 rfl (lv_at hl 0 rfl) ?_
  refine lv_iload_n hx hb dX7_field_1 rfl (lv_at hl 1 rfl) ?_
  obtain ⟨z18, hc17, hm⟩ := bindS hm
  refine g_xcallv (GG := GC cy ad) K hno hw (vx_runV (As := [.int x1]) (rest := []) (g_fix K) (c_X7_needClass l hl9 D cy ad H.size n S x1  hc17) (cwV 1 (g_hts K) gX7_field_X7_needClass rfl rfl rfl (by decide +kernel) ⟨Nat.le_of_ble_eq_true rfl, Nat.le_of_ble_eq_true rfl⟩) ⟨g_blind rides_EV, g_recv K hw 0 rfl (by decide : 0 < 1) rfl rfl, g_pre K hw (g_ride rides_EV K hw)⟩ rfl rfl hl.1 rfl (lv_room (Nat.le_of_ble_eq_true rfl)) dX7_field_2 ⟨Nat.le_of_ble_eq_true rfl, Nat.le_of_ble_eq_true rfl⟩) (fun u hu => by subst hu; exact sumX hm) (Nat.le_of_ble_eq_true rfl) (Nat.le_of_ble_eq_true rfl) (fun u H locs hp hw => ?_)
  obtain ⟨hp, hu⟩ := hp
  rw [hu] at hw
  obtain ⟨w19, hw19⟩ : ∃ q : Unit, q = () := ⟨_, rfl⟩
  subst hp
  replace hm := (sumL _ _ _).symm.trans hm
  refine lv_iload_n hx hb dX7_field_5 rfl (lv_at hl 3 rfl) ?_
  refine lv_if_lt (tgt := 14) hx hb dX7_field_6 (by decide) (fun c20 => ?_) (fun c20 => ?_)
  · replace hm := (if_pos c20).symm.trans hm
    obtain ⟨sa21, hs22⟩ := hX.2.1 (239, _) (List.mem_of_getElem? (i := 12) rfl)
    exact vx_throwS (own := RX7) (cls := "java/lang/IllegalArgumentException") (names := rteL) (sa := sa21) hx hb hl9 hown (by decide +kernel) (by decide +kernel) (hts _ (List.mem_of_getElem? (i := 1) rfl)) (hts _ (List.mem_of_getElem? (i := 2) rfl)) hs22 (ev_hat hX (by decide) hts (by decide +kernel) (by decide +kernel)) (by decide +kernel) hX.2.2.2.2.1 hX.2.2.2.2.2 hw.2.2 (hl.1.trans hml.symm) dX7_field_14 dX7_field_17 dX7_field_18 dX7_field_20 dX7_field_23 (fun x h => (hno x h).elim) (Nat.le_of_ble_eq_true rfl) (Nat.le_of_ble_eq_true rfl) (Nat.le_of_ble_eq_true rfl) (Nat.le_of_ble_eq_true rfl) hlo (g_xc (GG := GC cy ad) K hw (Option.some.inj hm).symm rfl) hw.2.2.2.2 (Nat.le_of_ble_eq_true rfl) (Nat.le_of_ble_eq_true rfl)
  · replace hm := (if_neg c20).symm.trans hm
    refine lv_iload_n hx hb dX7_field_9 rfl (lv_at hl 3 rfl) ?_
    refine lv_iconst (v := 3) hx hb dX7_field_10 (by decide) ?_
    refine lv_icmp_le (tgt := 24) hx hb dX7_field_11 (by decide) (fun c23 => ?_) (fun c23 => ?_)
    · replace hm := (if_pos c23).symm.trans hm
      refine lv_aload_n hx hb dX7_field_24 rfl (lv_at hl 0 rfl) ?_
      refine g_get (ref := "MigrantHeap") (C := RX7) (T := TX7) (N := 11) (ci := 7) K in_X7_field_X7 hw 0 rfl (by decide : 0 < 1) rfl rfl 0 (by decide) (List.mem_of_getElem? (i := 5) rfl) rfl rfl dX7_field_25 ?_
      refine lv_iload_n hx hb dX7_field_28 rfl (lv_at hl 1 rfl) ?_
      obtain ⟨h24, hm⟩ := chkS hm
      refine g_aald K hw 1 4 rfl (by decide) rfl rfl h24 dX7_field_29 ?_
      refine g_get (ref := "MigrantHeap$Kind") (C := RX2) (T := TX2) (N := 4) (ci := 2) K in_X7_field_X2 hw 2 rfl (inB_lt h24) rfl rfl 2 (by decide) (List.mem_of_getElem? (i := 6) rfl) rfl rfl dX7_field_30 ?_
      refine lv_astore (lv' := [(4, .ref (ad 3 (2 * x1.toNatClampNeg))), (0, .ref (ad 0 0)), (1, .int x1), (2, .int x2), (3, .int x3)]) hx hb dX7_field_33 hl (by decide) rfl (fun ls hl => ?_)
      refine lv_iload_n hx hb dX7_field_35 rfl (lv_at hl 3 rfl) ?_
      refine lv_if_lt (tgt := 48) hx hb dX7_field_36 (by decide) (fun c25 => ?_) (fun c25 => ?_)
      · replace hm := (if_pos c25).symm.trans hm
        obtain ⟨sa26, hs27⟩ := hX.2.1 (243, _) (List.mem_of_getElem? (i := 13) rfl)
        exact vx_throwS (own := RX7) (cls := "java/lang/IndexOutOfBoundsException") (names := rteL) (sa := sa26) hx hb hl9 hown (by decide +kernel) (by decide +kernel) (hts _ (List.mem_of_getElem? (i := 3) rfl)) (hts _ (List.mem_of_getElem? (i := 4) rfl)) hs27 (ev_hat hX (by decide) hts (by decide +kernel) (by decide +kernel)) (by decide +kernel) hX.2.2.2.2.1 hX.2.2.2.2.2 hw.2.2 (hl.1.trans hml.symm) dX7_field_48 dX7_field_51 dX7_field_52 dX7_field_54 dX7_field_57 (fun x h => (hno x h).elim) (Nat.le_of_ble_eq_true rfl) (Nat.le_of_ble_eq_true rfl) (Nat.le_of_ble_eq_true rfl) (Nat.le_of_ble_eq_true rfl) hlo (g_xc (GG := GC cy ad) K hw (Option.some.inj hm).symm rfl) hw.2.2.2.2 (Nat.le_of_ble_eq_true rfl) (Nat.le_of_ble_eq_true rfl)
      · replace hm := (if_neg c25).symm.trans hm
        refine lv_iload_n hx hb dX7_field_39 rfl (lv_at hl 3 rfl) ?_
        refine lv_aload hx hb dX7_field_40 (lv_at hl 0 rfl) ?_
        refine g_get (ref := "MigrantHeap$Shape") (C := RX4) (T := TX4) (N := 6) (ci := 4) K in_X7_field_X4 hw 3 rfl (by have := (inB_lt h24); omega : (2 * x1.toNatClampNeg) < 9) rfl rfl 0 (by decide) (List.mem_of_getElem? (i := 7) rfl) rfl rfl dX7_field_42 ?_
        refine lv_icmp_lt (tgt := 58) hx hb dX7_field_45 (by decide) (fun c28 => ?_) (fun c28 => ?_)
        · replace hm := (if_pos c28).symm.trans hm
          refine lv_iload_n hx hb dX7_field_58 rfl (lv_at hl 4 rfl) ?_
          by_cases c29 : x3 = 0
          · replace hm := (if_pos c29).symm.trans hm
            refine lv_tableIn (off := 25) (tgt := 84) hx hb dX7_field_59 (by rw [c29]; decide) (by rw [c29]; decide) (by rw [c29]; rfl) (by decide) ?_
            refine lv_aload hx hb dX7_field_84 (lv_at hl 0 rfl) ?_
            refine g_get (ref := "MigrantHeap$Shape") (C := RX4) (T := TX4) (N := 6) (ci := 4) K in_X7_field_X4 hw 3 rfl (by have := (inB_lt h24); omega : (2 * x1.toNatClampNeg) < 9) rfl rfl 1 (by decide) (List.mem_of_getElem? (i := 8) rfl) rfl rfl dX7_field_86 ?_
            refine lv_iload_n hx hb dX7_field_89 rfl (lv_at hl 3 rfl) ?_
            obtain ⟨h30, hm⟩ := chkS hm
            refine g_iald K hw 4 0 rfl (by have := (inB_lt h24); omega : (2 * x1.toNatClampNeg) < 9) rfl rfl h30 dX7_field_90 ?_
            refine vx_ret (W.widen (k := 2) (n := 12) (Nat.le_of_ble_eq_true rfl) (Nat.le_of_ble_eq_true rfl) ?_)
            exact g_iret (GG := GC cy ad) K hw ⟨(Option.some.inj hm).symm, rfl⟩ dX7_field_91
          · replace hm := (if_neg c29).symm.trans hm
            by_cases c31 : x3 = 1
            · replace hm := (if_pos c31).symm.trans hm
              refine lv_tableIn (off := 33) (tgt := 92) hx hb dX7_field_59 (by rw [c31]; decide) (by rw [c31]; decide) (by rw [c31]; rfl) (by decide) ?_
              refine lv_aload hx hb dX7_field_92 (lv_at hl 0 rfl) ?_
              refine g_get (ref := "MigrantHeap$Shape") (C := RX4) (T := TX4) (N := 6) (ci := 4) K in_X7_field_X4 hw 3 rfl (by have := (inB_lt h24); omega : (2 * x1.toNatClampNeg) < 9) rfl rfl 2 (by decide) (List.mem_of_getElem? (i := 9) rfl) rfl rfl dX7_field_94 ?_
              refine lv_iload_n hx hb dX7_field_97 rfl (lv_at hl 3 rfl) ?_
              obtain ⟨h32, hm⟩ := chkS hm
              refine g_iald K hw 5 0 rfl (by have := (inB_lt h24); omega : (2 * x1.toNatClampNeg) < 9) rfl rfl h32 dX7_field_98 ?_
              refine vx_ret (W.widen (k := 2) (n := 12) (Nat.le_of_ble_eq_true rfl) (Nat.le_of_ble_eq_true rfl) ?_)
              exact g_iret (GG := GC cy ad) K hw ⟨(Option.some.inj hm).symm, rfl⟩ dX7_field_99
            · replace hm := (if_neg c31).symm.trans hm
              by_cases c33 : x3 = 2
              · replace hm := (if_pos c33).symm.trans hm
                refine lv_tableIn (off := 41) (tgt := 100) hx hb dX7_field_59 (by rw [c33]; decide) (by rw [c33]; decide) (by rw [c33]; rfl) (by decide) ?_
                refine lv_aload hx hb dX7_field_100 (lv_at hl 0 rfl) ?_
                refine g_get (ref := "MigrantHeap$Shape") (C := RX4) (T := TX4) (N := 6) (ci := 4) K in_X7_field_X4 hw 3 rfl (by have := (inB_lt h24); omega : (2 * x1.toNatClampNeg) < 9) rfl rfl 3 (by decide) (List.mem_of_getElem? (i := 10) rfl) rfl rfl dX7_field_102 ?_
                refine lv_iload_n hx hb dX7_field_105 rfl (lv_at hl 3 rfl) ?_
                obtain ⟨h34, hm⟩ := chkS hm
                refine g_iald K hw 6 0 rfl (by have := (inB_lt h24); omega : (2 * x1.toNatClampNeg) < 9) rfl rfl h34 dX7_field_106 ?_
                refine vx_ret (W.widen (k := 2) (n := 12) (Nat.le_of_ble_eq_true rfl) (Nat.le_of_ble_eq_true rfl) ?_)
                exact g_iret (GG := GC cy ad) K hw ⟨(Option.some.inj hm).symm, rfl⟩ dX7_field_107
              · replace hm := (if_neg c33).symm.trans hm
                have hsw36 : Int32.toInt x3 < 0 ∨ 2 < Int32.toInt x3 := by
                  refine sw_out (fun k h1 h2 => ?_)
                  rcases (show k = 0 ∨ k = 1 ∨ k = 2 by omega) with rfl | rfl | rfl
                  · exact c29
                  · exact c31
                  · exact c33
                refine lv_tableOut (tgt := 108) hx hb dX7_field_59 hsw36 (by decide) ?_
                refine lv_aload hx hb dX7_field_108 (lv_at hl 0 rfl) ?_
                refine g_get (ref := "MigrantHeap$Shape") (C := RX4) (T := TX4) (N := 6) (ci := 4) K in_X7_field_X4 hw 3 rfl (by have := (inB_lt h24); omega : (2 * x1.toNatClampNeg) < 9) rfl rfl 4 (by decide) (List.mem_of_getElem? (i := 11) rfl) rfl rfl dX7_field_110 ?_
                refine lv_iload_n hx hb dX7_field_113 rfl (lv_at hl 3 rfl) ?_
                obtain ⟨h35, hm⟩ := chkS hm
                refine g_iald K hw 7 0 rfl (by have := (inB_lt h24); omega : (2 * x1.toNatClampNeg) < 9) rfl rfl h35 dX7_field_114 ?_
                refine vx_ret (W.widen (k := 2) (n := 12) (Nat.le_of_ble_eq_true rfl) (Nat.le_of_ble_eq_true rfl) ?_)
                exact g_iret (GG := GC cy ad) K hw ⟨(Option.some.inj hm).symm, rfl⟩ dX7_field_115
        · replace hm := (if_neg c28).symm.trans hm
          obtain ⟨sa37, hs38⟩ := hX.2.1 (243, _) (List.mem_of_getElem? (i := 13) rfl)
          exact vx_throwS (own := RX7) (cls := "java/lang/IndexOutOfBoundsException") (names := rteL) (sa := sa37) hx hb hl9 hown (by decide +kernel) (by decide +kernel) (hts _ (List.mem_of_getElem? (i := 3) rfl)) (hts _ (List.mem_of_getElem? (i := 4) rfl)) hs38 (ev_hat hX (by decide) hts (by decide +kernel) (by decide +kernel)) (by decide +kernel) hX.2.2.2.2.1 hX.2.2.2.2.2 hw.2.2 (hl.1.trans hml.symm) dX7_field_48 dX7_field_51 dX7_field_52 dX7_field_54 dX7_field_57 (fun x h => (hno x h).elim) (Nat.le_of_ble_eq_true rfl) (Nat.le_of_ble_eq_true rfl) (Nat.le_of_ble_eq_true rfl) (Nat.le_of_ble_eq_true rfl) hlo (g_xc (GG := GC cy ad) K hw (Option.some.inj hm).symm rfl) hw.2.2.2.2 (Nat.le_of_ble_eq_true rfl) (Nat.le_of_ble_eq_true rfl)
    · replace hm := (if_neg c23).symm.trans hm
      obtain ⟨sa39, hs40⟩ := hX.2.1 (239, _) (List.mem_of_getElem? (i := 12) rfl)
      exact vx_throwS (own := RX7) (cls := "java/lang/IllegalArgumentException") (names := rteL) (sa := sa39) hx hb hl9 hown (by decide +kernel) (by decide +kernel) (hts _ (List.mem_of_getElem? (i := 1) rfl)) (hts _ (List.mem_of_getElem? (i := 2) rfl)) hs40 (ev_hat hX (by decide) hts (by decide +kernel) (by decide +kernel)) (by decide +kernel) hX.2.2.2.2.1 hX.2.2.2.2.2 hw.2.2 (hl.1.trans hml.symm) dX7_field_14 dX7_field_17 dX7_field_18 dX7_field_20 dX7_field_23 (fun x h => (hno x h).elim) (Nat.le_of_ble_eq_true rfl) (Nat.le_of_ble_eq_true rfl) (Nat.le_of_ble_eq_true rfl) (Nat.le_of_ble_eq_true rfl) hlo (g_xc (GG := GC cy ad) K hw (Option.some.inj hm).symm rfl) hw.2.2.2.2 (Nat.le_of_ble_eq_true rfl) (Nat.le_of_ble_eq_true rfl)
set_option maxRecDepth 100000 in
set_option maxHeartbeats 4000000 in
theorem c_X7_field (l : Launch) (hl9 : l.stackTraces = false) (D : va_G) (cy : Nat → ClassId) (ad : Nat → Nat → Nat) (sz n : Nat) (S : CSt) (x1 : Int32) (x2 : Int32) (x3 : Int32)  {out : (Int32) ⊕ (Nat × CSt)} (hm : m_X7_field n S x1 x2 x3 = some out) : vx_Met l yX7_field wsX7_field rm_X7_field (va_Pc [.ref (ad 0 0), .int x1, .int x2, .int x3] (Pre D (tysC cy) (GC cy ad S) EV sz)) (va_Qi (fun r (u : CSt) => out = .inl r ∧ u = S) (fun u => Pst D (tysC cy) (AA (adrs (GC cy ad S)) sz) (GC cy ad u)) (AA (adrs (GC cy ad S)) sz)) (XCx D (tysC cy) (AA (adrs (GC cy ad S)) sz) (GC cy ad) out) 2 12 (AA (adrs (GC cy ad S)) sz) := by
  refine g_xmet (by decide) rfl (Nat.le_of_ble_eq_true rfl) ?_
  intro p e s m args below meth c K hno hw ls hl
  exact t_X7_field_0 (cy := cy) K hno hl9 n S x1 x2 x3  hm _ _ hw ls hl
end W_X7_field
section W_X7_fault
variable {p : Program} {l : Launch} {e : Env} {s : State} {m : MethodId} {args : Array Value} {below : List Frame} {meth : Method} {c : Code} {D : va_G} {A : Nat → Prop} {cy : Nat → ClassId} {ad : Nat → Nat → Nat} {Q : State → Prop}
abbrev rm_X7_fault : Room := { frames := 0, cells := 0, slots := 0, locals := 0 }
theorem in_X7_fault_X7 : ∀ w ∈ u_ws RX7 TX7 11, w ∈ wsX7_fault := by decide +kernel
set_option maxRecDepth 100000 in
set_option maxHeartbeats 4000000 in
theorem t_X7_fault_0 (K : Cx p s m args meth c D A (tysC cy) RX7 cX7_fault 1 (some .int) wsX7_fault (fun _ _ => True)) (n : Nat) (S : CSt)   {out : Int32} (hm : m_X7_fault n S  = some out) : ∀ (H : Heap) (locs : List Loc), Wd D A s.heap (GC cy ad S) H locs → ∀ ls : Array Slot, lv_has ls 1 [(0, .ref (ad 0 0))] → W p l e rm_X7_fault s m args below meth c H locs 0 0 (MQ below (va_Qi (fun r (u : CSt) => out = r ∧ u = S) (fun u => Pst D (tysC cy) A (GC cy ad u)) A) args s 0 0 A) (F0 m 0 ls []) := by
  intro H locs hw ls hl
  obtain ⟨hx, hb, hml, hown, hts, hr, hlo, hK, hA, hX⟩ := id K
  unfold m_X7_fault at hm
  refine lv_aload_n hx hb dX7_fault_0 rfl (lv_at hl 0 rfl) ?_
  refine g_get (ref := "MigrantHeap") (C := RX7) (T := TX7) (N := 11) (ci := 7) K in_X7_fault_X7 hw 0 rfl (by decide : 0 < 1) rfl rfl 7 (by decide) (List.mem_of_getElem? (i := 1) rfl) rfl rfl dX7_fault_1 ?_
  exact g_iret (GG := GC cy ad) K hw ⟨(Option.some.inj hm).symm, rfl⟩ dX7_fault_4
set_option maxRecDepth 100000 in
set_option maxHeartbeats 4000000 in
theorem c_X7_fault (l : Launch) (D : va_G) (cy : Nat → ClassId) (ad : Nat → Nat → Nat) (sz n : Nat) (S : CSt)   {out : Int32} (hm : m_X7_fault n S  = some out) : Met l yX7_fault wsX7_fault rm_X7_fault (va_Pc [.ref (ad 0 0)] (Pre D (tysC cy) (GC cy ad S) (fun _ _ => True) sz)) (va_Qi (fun r (u : CSt) => out = r ∧ u = S) (fun u => Pst D (tysC cy) (AA (adrs (GC cy ad S)) sz) (GC cy ad u)) (AA (adrs (GC cy ad S)) sz)) 0 0 (AA (adrs (GC cy ad S)) sz) := by
  refine g_met (by decide) rfl (Nat.le_of_ble_eq_true rfl) ?_
  intro p e s m args below meth c K hw ls hl
  exact t_X7_fault_0 (cy := cy) K n S   hm _ _ hw ls hl
end W_X7_fault
