section W_X7_isOwned
variable {p : Program} {l : Launch} {e : Env} {s : State} {m : MethodId} {args : Array Value} {below : List Frame} {meth : Method} {c : Code} {D : va_G} {A : Nat → Prop} {cy : Nat → ClassId} {ad : Nat → Nat → Nat} {Q : State → Prop}
abbrev rm_X7_isOwned : Room := { frames := 3, cells := 0, slots := 0, locals := 66 }
theorem in_X7_isOwned_X0 : ∀ w ∈ u_ws RX0 TX0 6, w ∈ wsX7_isOwned := by decide +kernel
theorem in_X7_isOwned_X6 : ∀ w ∈ u_ws RX6 TX6 3, w ∈ wsX7_isOwned := by decide +kernel
theorem in_X7_isOwned_X7 : ∀ w ∈ u_ws RX7 TX7 11, w ∈ wsX7_isOwned := by decide +kernel
set_option maxRecDepth 100000 in
set_option maxHeartbeats 4000000 in
theorem t_X7_isOwned_L2 (K : Cx p s m args meth c D A (tysC cy) RX7 cX7_isOwned 4 (some .boolean) wsX7_isOwned (fun _ _ => True)) (n : Nat) (S : CSt) (x1 : Int32)  (z : (Unit ⊕ Unit)) (hE0 : ∀ w : Unit, z = .inl w → ∀ (H : Heap) (locs : List Loc), Wd D A s.heap (GC cy ad S) H locs → ∀ ls : Array Slot, lv_has ls 4 [] → W p l e rm_X7_isOwned s m args below meth c H locs 0 0 Q (F0 m 34 ls [])) (hE1 : ∀ w : Unit, z = .inr w → ∀ (H : Heap) (locs : List Loc), Wd D A s.heap (GC cy ad S) H locs → ∀ ls : Array Slot, lv_has ls 4 [] → W p l e rm_X7_isOwned s m args below meth c H locs 0 0 Q (F0 m 42 ls [])) : ∀ (x : Int32), lpO (b_X7_isOwned_2 n S x1) n x = some z → (fun (x : Int32) => ∀ (H : Heap) (locs : List Loc), Wd D A s.heap (GC cy ad S) H locs → ∀ ls : Array Slot, lv_has ls 4 [(0, .ref (ad 0 0)), (1, .int x1), (2, .int x)] → W p l e rm_X7_isOwned s m args below meth c H locs 0 0 Q (F0 m 2 ls [])) x := by
  intro x hx0
  refine lpO_ind2 (P := fun (x : Int32) => ∀ (H : Heap) (locs : List Loc), Wd D A s.heap (GC cy ad S) H locs → ∀ ls : Array Slot, lv_has ls 4 [(0, .ref (ad 0 0)), (1, .int x1), (2, .int x)] → W p l e rm_X7_isOwned s m args below meth c H locs 0 0 Q (F0 m 2 ls [])) (z := z) ?_ n x hx0
  clear hx0 x
  intro x out hm hg H locs hw ls hl 
  obtain ⟨hx, hb, hml, hown, hts, hr, hlo, hK, hA, hX⟩ := id K
  unfold b_X7_isOwned_2 at hm
  refine lv_iload_n hx hb dX7_isOwned_2 rfl (lv_at hl 2 rfl) ?_
  refine lv_bipush (v := 24) hx hb dX7_isOwned_3 (by decide) ?_
  refine lv_icmp_ge (tgt := 42) hx hb dX7_isOwned_5 (by decide) (fun c15 => ?_) (fun c15 => ?_)
  · replace hm := (if_pos c15).symm.trans hm
    obtain rfl := Option.some.inj hm
    exact hE1 _ hg.symm H locs hw ls (lv_sub hl [] rfl)
  · replace hm := (if_neg c15).symm.trans hm
    refine lv_aload_n hx hb dX7_isOwned_8 rfl (lv_at hl 0 rfl) ?_
    refine g_get (ref := "MigrantHeap") (C := RX7) (T := TX7) (N := 11) (ci := 7) K in_X7_isOwned_X7 hw 0 rfl (by decide : 0 < 1) rfl rfl 2 (by decide) (List.mem_of_getElem? (i := 1) rfl) rfl rfl dX7_isOwned_9 ?_
    refine g_get (ref := "MigrantHeap$Store") (C := RX6) (T := TX6) (N := 3) (ci := 6) K in_X7_isOwned_X6 hw 9 rfl (by decide : 0 < 1) rfl rfl 0 (by decide) (List.mem_of_getElem? (i := 2) rfl) rfl rfl dX7_isOwned_12 ?_
    refine lv_iload_n hx hb dX7_isOwned_15 rfl (lv_at hl 2 rfl) ?_
    obtain ⟨h16, hm⟩ := chkS hm
    refine g_aald K hw 10 3 rfl (by decide) rfl rfl h16 dX7_isOwned_16 ?_
    refine lv_astore_n (lv' := [(3, .ref (ad 11 x.toNatClampNeg)), (0, .ref (ad 0 0)), (1, .int x1), (2, .int x)]) hx hb dX7_isOwned_17 rfl hl (by decide) rfl (fun ls hl => ?_)
    refine lv_aload_n hx hb dX7_isOwned_18 rfl (lv_at hl 0 rfl) ?_
    refine g_get (ref := "MigrantHeap$Entry") (C := RX0) (T := TX0) (N := 6) (ci := 0) K in_X7_isOwned_X0 hw 11 rfl (inB_lt h16) rfl rfl 0 (by decide) (List.mem_of_getElem? (i := 3) rfl) rfl rfl dX7_isOwned_19 ?_
    refine lv_if_eq (tgt := 36) hx hb dX7_isOwned_22 (by decide) (fun c17 => ?_) (fun c17 => ?_)
    · replace hm := (if_pos c17).symm.trans hm
      obtain ⟨x18, hx18, hm⟩ := nm_ex hm
      refine lv_iinc (v := x18) (lv' := [(2, .int x18), (3, .ref (ad 11 x.toNatClampNeg)), (0, .ref (ad 0 0)), (1, .int x1)]) hx hb dX7_isOwned_36 hl (k := 3) rfl (by rw [hx18]; rfl) (by decide) rfl (fun ls hl => ?_)
      refine lv_goto (tgt := 2) hx hb dX7_isOwned_39 (by decide) ?_
      obtain rfl := Option.some.inj hm
      exact hg H locs hw ls (lv_sub hl [2, 3, 0] rfl)
    · replace hm := (if_neg c17).symm.trans hm
      refine lv_aload_n hx hb dX7_isOwned_25 rfl (lv_at hl 1 rfl) ?_
      refine lv_aload_n hx hb dX7_isOwned_26 rfl (lv_at hl 0 rfl) ?_
      refine lv_iload_n hx hb dX7_isOwned_27 rfl (lv_at hl 2 rfl) ?_
      obtain ⟨z20, hc19, hm⟩ := bindS hm
      refine g_calli (GG := GC cy ad) K hw (va_runV (As := [.ref (ad 11 x.toNatClampNeg), .int x1]) (rest := []) (g_fix K) (c_X7_owns l D cy ad H.size n S x.toNatClampNeg x1 (inB_lt h16) hc19) (cwV 2 (g_hts K) gX7_isOwned_X7_owns rfl rfl rfl (by decide +kernel) ⟨Nat.le_of_ble_eq_true rfl, Nat.le_of_ble_eq_true rfl⟩) ⟨g_blind rides_none, g_recv K hw 0 rfl (by decide : 0 < 1) rfl rfl, g_pre (X2 := fun _ _ => True) K hw (fun _ _ _ => trivial)⟩ rfl rfl hl.1 rfl (lv_room (Nat.le_of_ble_eq_true rfl)) dX7_isOwned_28 ⟨Nat.le_of_ble_eq_true rfl, Nat.le_of_ble_eq_true rfl⟩) (fun r u H locs hp hw => ?_)
      obtain ⟨rfl, hu⟩ := hp
      rw [hu] at hw
      refine lv_if_eq (tgt := 36) hx hb dX7_isOwned_31 (by decide) (fun c21 => ?_) (fun c21 => ?_)
      · replace hm := (if_pos c21).symm.trans hm
        obtain ⟨x22, hx22, hm⟩ := nm_ex hm
        refine lv_iinc (v := x22) (lv' := [(2, .int x22), (3, .ref (ad 11 x.toNatClampNeg)), (0, .ref (ad 0 0)), (1, .int x1)]) hx hb dX7_isOwned_36 hl (k := 3) rfl (by rw [hx22]; rfl) (by decide) rfl (fun ls hl => ?_)
        refine lv_goto (tgt := 2) hx hb dX7_isOwned_39 (by decide) ?_
        obtain rfl := Option.some.inj hm
        exact hg H locs hw ls (lv_sub hl [2, 3, 0] rfl)
      · replace hm := (if_neg c21).symm.trans hm
        obtain rfl := Option.some.inj hm
        exact hE0 _ hg.symm H locs hw ls (lv_sub hl [] rfl)
set_option maxRecDepth 100000 in
set_option maxHeartbeats 4000000 in
theorem t_X7_isOwned_0 (K : Cx p s m args meth c D A (tysC cy) RX7 cX7_isOwned 4 (some .boolean) wsX7_isOwned (fun _ _ => True)) (n : Nat) (S : CSt) (x1 : Int32)  {out : Int32} (hm : m_X7_isOwned n S x1 = some out) : ∀ (H : Heap) (locs : List Loc), Wd D A s.heap (GC cy ad S) H locs → ∀ ls : Array Slot, lv_has ls 4 [(0, .ref (ad 0 0)), (1, .int x1)] → W p l e rm_X7_isOwned s m args below meth c H locs 0 0 (MQ below (va_Qi (fun r (u : CSt) => out = r ∧ u = S) (fun u => Pst D (tysC cy) A (GC cy ad u)) A) args s 0 0 A) (F0 m 0 ls []) := by
  intro H locs hw ls hl
  obtain ⟨hx, hb, hml, hown, hts, hr, hlo, hK, hA, hX⟩ := id K
  unfold m_X7_isOwned at hm
  refine lv_iconst (v := 0) hx hb dX7_isOwned_0 (by decide) ?_
  refine lv_istore_n (lv' := [(2, .int 0), (0, .ref (ad 0 0)), (1, .int x1)]) hx hb dX7_isOwned_1 rfl hl (by decide) rfl (fun ls hl => ?_)
  obtain ⟨z23, hz24, hm⟩ := bindS hm
  refine t_X7_isOwned_L2 K n S x1 z23 (fun w25 hww25 => ?_) (fun w26 hww26 => ?_) (0) hz24 H locs hw ls (lv_sub hl [1, 2, 0] rfl)
  · intro H locs hw ls hl 
    subst hww25
    replace hm := (sumL _ _ _).symm.trans hm
    refine lv_iconst (v := 1) hx hb dX7_isOwned_34 (by decide) ?_
    exact g_zret (GG := GC cy ad) K hw rfl ⟨(Option.some.inj hm).symm, rfl⟩ dX7_isOwned_35
  · intro H locs hw ls hl 
    subst hww26
    replace hm := (sumR _ _ _).symm.trans hm
    refine lv_iconst (v := 0) hx hb dX7_isOwned_42 (by decide) ?_
    exact g_zret (GG := GC cy ad) K hw rfl ⟨(Option.some.inj hm).symm, rfl⟩ dX7_isOwned_43
set_option maxRecDepth 100000 in
set_option maxHeartbeats 4000000 in
theorem c_X7_isOwned (l : Launch) (D : va_G) (cy : Nat → ClassId) (ad : Nat → Nat → Nat) (sz n : Nat) (S : CSt) (x1 : Int32)  {out : Int32} (hm : m_X7_isOwned n S x1 = some out) : Met l yX7_isOwned wsX7_isOwned rm_X7_isOwned (va_Pc [.ref (ad 0 0), .int x1] (Pre D (tysC cy) (GC cy ad S) (fun _ _ => True) sz)) (va_Qi (fun r (u : CSt) => out = r ∧ u = S) (fun u => Pst D (tysC cy) (AA (adrs (GC cy ad S)) sz) (GC cy ad u)) (AA (adrs (GC cy ad S)) sz)) 0 0 (AA (adrs (GC cy ad S)) sz) := by
  refine g_met (by decide) rfl (Nat.le_of_ble_eq_true rfl) ?_
  intro p e s m args below meth c K hw ls hl
  exact t_X7_isOwned_0 (cy := cy) K n S x1  hm _ _ hw ls hl
end W_X7_isOwned
section W_X7_mayBeReferredTo
variable {p : Program} {l : Launch} {e : Env} {s : State} {m : MethodId} {args : Array Value} {below : List Frame} {meth : Method} {c : Code} {D : va_G} {A : Nat → Prop} {cy : Nat → ClassId} {ad : Nat → Nat → Nat} {Q : State → Prop}
abbrev rm_X7_mayBeReferredTo : Room := { frames := 4, cells := 0, slots := 0, locals := 89 }
theorem in_X7_mayBeReferredTo_X0 : ∀ w ∈ u_ws RX0 TX0 6, w ∈ wsX7_mayBeReferredTo := by decide +kernel
theorem in_X7_mayBeReferredTo_X7 : ∀ w ∈ u_ws RX7 TX7 11, w ∈ wsX7_mayBeReferredTo := by decide +kernel
set_option maxRecDepth 100000 in
set_option maxHeartbeats 4000000 in
theorem t_X7_mayBeReferredTo_0 (K : Cx p s m args meth c D A (tysC cy) RX7 cX7_mayBeReferredTo 4 (some .boolean) wsX7_mayBeReferredTo (fun _ _ => True)) (n : Nat) (S : CSt) (x1 : Int32) (x2 : Int32)  {out : Int32} (hm : m_X7_mayBeReferredTo n S x1 x2 = some out) : ∀ (H : Heap) (locs : List Loc), Wd D A s.heap (GC cy ad S) H locs → ∀ ls : Array Slot, lv_has ls 4 [(0, .ref (ad 0 0)), (1, .int x1), (2, .int x2)] → W p l e rm_X7_mayBeReferredTo s m args below meth c H locs 0 0 (MQ below (va_Qi (fun r (u : CSt) => out = r ∧ u = S) (fun u => Pst D (tysC cy) A (GC cy ad u)) A) args s 0 0 A) (F0 m 0 ls []) := by
  intro H locs hw ls hl
  obtain ⟨hx, hb, hml, hown, hts, hr, hlo, hK, hA, hX⟩ := id K
  unfold m_X7_mayBeReferredTo at hm
  refine lv_aload_n hx hb dX7_mayBeReferredTo_0 rfl (lv_at hl 0 rfl) ?_
  refine g_get (ref := "MigrantHeap") (C := RX7) (T := TX7) (N := 11) (ci := 7) K in_X7_mayBeReferredTo_X7 hw 0 rfl (by decide : 0 < 1) rfl rfl 2 (by decide) (List.mem_of_getElem? (i := 1) rfl) rfl rfl dX7_mayBeReferredTo_1 ?_
  refine lv_iload_n hx hb dX7_mayBeReferredTo_4 rfl (lv_at hl 1 rfl) ?_
  obtain ⟨z12, hc11, hm⟩ := bindS hm
  refine g_callq (GG := GC cy ad) K hw (va_runV (As := [.int x1]) (rest := []) (g_fix K) (c_X6_find l D cy ad H.size n S x1  hc11) (cwV 1 (g_hts K) gX7_mayBeReferredTo_X6_find rfl rfl rfl (by decide +kernel) ⟨Nat.le_of_ble_eq_true rfl, Nat.le_of_ble_eq_true rfl⟩) ⟨g_blind rides_none, g_recv K hw 9 rfl (by decide : 0 < 1) rfl rfl, g_pre (X2 := fun _ _ => True) K hw (fun _ _ _ => trivial)⟩ rfl rfl hl.1 rfl (lv_room (Nat.le_of_ble_eq_true rfl)) dX7_mayBeReferredTo_5 ⟨Nat.le_of_ble_eq_true rfl, Nat.le_of_ble_eq_true rfl⟩) (fun r u H locs hp hw => ?_)
  obtain ⟨rfl, hu⟩ := hp
  rw [hu] at hw
  rcases hq15 : z12 with _ | i13
  · rw [hq15] at hm
    replace hm := (optN _ _).symm.trans hm
    refine W.eq (g2 := F0 m 8 ls (.null :: [])) (by first | rfl | (rw [hq15]; rfl)) ?_
    refine lv_astore_nN (lv' := [(3, .null), (0, .ref (ad 0 0)), (1, .int x1), (2, .int x2)]) hx hb dX7_mayBeReferredTo_8 rfl hl (by decide) rfl (fun ls hl => ?_)
    refine lv_aload_nN hx hb dX7_mayBeReferredTo_9 rfl (lv_at hl 0 rfl) ?_
    refine lv_ifnullN (tgt := 29) hx hb dX7_mayBeReferredTo_10 (by decide) ?_
    refine lv_iconst (v := 1) hx hb dX7_mayBeReferredTo_29 (by decide) ?_
    refine lv_goto (tgt := 34) hx hb dX7_mayBeReferredTo_30 (by decide) ?_
    exact g_zret (GG := GC cy ad) K hw rfl ⟨(Option.some.inj hm).symm, rfl⟩ dX7_mayBeReferredTo_34
  · rw [hq15] at hm
    replace hm := (optS _ _ _).symm.trans hm
    obtain ⟨h14, hm⟩ := chkS hm
    replace h14 := of_decide_eq_true h14
    refine W.eq (g2 := F0 m 8 ls (.ref (ad 11 i13) :: [])) (by first | rfl | (rw [hq15]; rfl)) ?_
    refine lv_astore_n (lv' := [(3, .ref (ad 11 i13)), (0, .ref (ad 0 0)), (1, .int x1), (2, .int x2)]) hx hb dX7_mayBeReferredTo_8 rfl hl (by decide) rfl (fun ls hl => ?_)
    refine lv_aload_n hx hb dX7_mayBeReferredTo_9 rfl (lv_at hl 0 rfl) ?_
    refine lv_ifnull hx hb dX7_mayBeReferredTo_10 ?_
    refine lv_aload_n hx hb dX7_mayBeReferredTo_13 rfl (lv_at hl 0 rfl) ?_
    refine g_get (ref := "MigrantHeap$Entry") (C := RX0) (T := TX0) (N := 6) (ci := 0) K in_X7_mayBeReferredTo_X0 hw 11 rfl h14 rfl rfl 1 (by decide) (List.mem_of_getElem? (i := 2) rfl) rfl rfl dX7_mayBeReferredTo_14 ?_
    refine lv_iload_n hx hb dX7_mayBeReferredTo_17 rfl (lv_at hl 3 rfl) ?_
    refine lv_icmp_ne (tgt := 33) hx hb dX7_mayBeReferredTo_18 (by decide) (fun c16 => ?_) (fun c16 => ?_)
    · replace hm := (if_pos c16).symm.trans hm
      refine lv_iconst (v := 0) hx hb dX7_mayBeReferredTo_33 (by decide) ?_
      exact g_zret (GG := GC cy ad) K hw rfl ⟨(Option.some.inj hm).symm, rfl⟩ dX7_mayBeReferredTo_34
    · replace hm := (if_neg (fun h => h c16)).symm.trans hm
      refine lv_aload_n hx hb dX7_mayBeReferredTo_21 rfl (lv_at hl 1 rfl) ?_
      refine lv_iload_n hx hb dX7_mayBeReferredTo_22 rfl (lv_at hl 2 rfl) ?_
      obtain ⟨z18, hc17, hm⟩ := bindS hm
      refine g_calli (GG := GC cy ad) K hw (va_runV (As := [.int x1]) (rest := []) (g_fix K) (c_X7_isOwned l D cy ad H.size n S x1  hc17) (cwV 1 (g_hts K) gX7_mayBeReferredTo_X7_isOwned rfl rfl rfl (by decide +kernel) ⟨Nat.le_of_ble_eq_true rfl, Nat.le_of_ble_eq_true rfl⟩) ⟨g_blind rides_none, g_recv K hw 0 rfl (by decide : 0 < 1) rfl rfl, g_pre (X2 := fun _ _ => True) K hw (fun _ _ _ => trivial)⟩ rfl rfl hl.1 rfl (lv_room (Nat.le_of_ble_eq_true rfl)) dX7_mayBeReferredTo_23 ⟨Nat.le_of_ble_eq_true rfl, Nat.le_of_ble_eq_true rfl⟩) (fun r u H locs hp hw => ?_)
      obtain ⟨rfl, hu⟩ := hp
      rw [hu] at hw
      refine lv_if_ne (tgt := 33) hx hb dX7_mayBeReferredTo_26 (by decide) (fun c19 => ?_) (fun c19 => ?_)
      · replace hm := (if_pos c19).symm.trans hm
        refine lv_iconst (v := 0) hx hb dX7_mayBeReferredTo_33 (by decide) ?_
        exact g_zret (GG := GC cy ad) K hw rfl ⟨(Option.some.inj hm).symm, rfl⟩ dX7_mayBeReferredTo_34
      · replace hm := (if_neg (fun h => h c19)).symm.trans hm
        refine lv_iconst (v := 1) hx hb dX7_mayBeReferredTo_29 (by decide) ?_
        refine lv_goto (tgt := 34) hx hb dX7_mayBeReferredTo_30 (by decide) ?_
        exact g_zret (GG := GC cy ad) K hw rfl ⟨(Option.some.inj hm).symm, rfl⟩ dX7_mayBeReferredTo_34
set_option maxRecDepth 100000 in
set_option maxHeartbeats 4000000 in
theorem c_X7_mayBeReferredTo (l : Launch) (D : va_G) (cy : Nat → ClassId) (ad : Nat → Nat → Nat) (sz n : Nat) (S : CSt) (x1 : Int32) (x2 : Int32)  {out : Int32} (hm : m_X7_mayBeReferredTo n S x1 x2 = some out) : Met l yX7_mayBeReferredTo wsX7_mayBeReferredTo rm_X7_mayBeReferredTo (va_Pc [.ref (ad 0 0), .int x1, .int x2] (Pre D (tysC cy) (GC cy ad S) (fun _ _ => True) sz)) (va_Qi (fun r (u : CSt) => out = r ∧ u = S) (fun u => Pst D (tysC cy) (AA (adrs (GC cy ad S)) sz) (GC cy ad u)) (AA (adrs (GC cy ad S)) sz)) 0 0 (AA (adrs (GC cy ad S)) sz) := by
  refine g_met (by decide) rfl (Nat.le_of_ble_eq_true rfl) ?_
  intro p e s m args below meth c K hw ls hl
  exact t_X7_mayBeReferredTo_0 (cy := cy) K n S x1 x2  hm _ _ hw ls hl
end W_X7_mayBeReferredTo
section W_X7_referencePlace
variable {p : Program} {l : Launch} {e : Env} {s : State} {m : MethodId} {args : Array Value} {below : List Frame} {meth : Method} {c : Code} {D : va_G} {A : Nat → Prop} {cy : Nat → ClassId} {ad : Nat → Nat → Nat} {Q : State → Prop}
abbrev rm_X7_referencePlace : Room := { frames := 6, cells := 1, slots := 6, locals := 100 }
theorem in_X7_referencePlace_X0 : ∀ w ∈ u_ws RX0 TX0 6, w ∈ wsX7_referencePlace := by decide +kernel
theorem in_X7_referencePlace_X2 : ∀ w ∈ u_ws RX2 TX2 4, w ∈ wsX7_referencePlace := by decide +kernel
theorem in_X7_referencePlace_X7 : ∀ w ∈ u_ws RX7 TX7 11, w ∈ wsX7_referencePlace := by decide +kernel
set_option maxRecDepth 100000 in
set_option maxHeartbeats 4000000 in
theorem t_X7_referencePlace_0 (K : Cx p s m args meth c D A (tysC cy) RX7 cX7_referencePlace 5 (some .int) wsX7_referencePlace EV) (hno : ∀ x ∈ c.exceptionTable.toList, False) (hl9 : l.stackTraces = false) (n : Nat) (S : CSt) (x1 : Nat) (x2 : Int32) (hb_x1 : x1 < 24) {out : (Int32) ⊕ (Nat × CSt)} (hm : m_X7_referencePlace n S x1 x2 = some out) : ∀ (H : Heap) (locs : List Loc), Wd D A s.heap (GC cy ad S) H locs → ∀ ls : Array Slot, lv_has ls 5 [(0, .ref (ad 0 0)), (1, .ref (ad 11 x1)), (2, .int x2)] → W p l e rm_X7_referencePlace s m args below meth c H locs 0 0 (vx_MQ below (va_Qi (fun r (u : CSt) => out = .inl r ∧ u = S) (fun u => Pst D (tysC cy) A (GC cy ad u)) A) (XCx D (tysC cy) A (GC cy ad) out) args s 1 6 A) (F0 m 0 ls []) := by
  intro H locs hw ls hl
  obtain ⟨hx, hb, hml, hown, hts, hr, hlo, hK, hA, hX⟩ := id K
  unfold m_X7_referencePlace at hm
  refine lv_aload_n hx hb dX7_referencePlace_0 rfl (lv_at hl 0 rfl) ?_
  refine g_get (ref := "MigrantHeap") (C := RX7) (T := TX7) (N := 11) (ci := 7) K in_X7_referencePlace_X7 hw 0 rfl (by decide : 0 < 1) rfl rfl 0 (by decide) (List.mem_of_getElem? (i := 3) rfl) rfl rfl dX7_referencePlace_1 ?_
  refine lv_aload_n hx hb dX7_referencePlace_4 rfl (lv_at hl 1 rfl) ?_
  refine g_get (ref := "MigrantHeap$Entry") (C := RX0) (T := TX0) (N := 6) (ci := 0) K in_X7_referencePlace_X0 hw 11 rfl hb_x1 rfl rfl 1 (by decide) (List.mem_of_getElem? (i := 4) rfl) rfl rfl dX7_referencePlace_5 ?_
  obtain ⟨h11, hm⟩ := chkS hm
  refine g_aald K hw 1 4 rfl (by decide) rfl rfl h11 dX7_referencePlace_8 ?_
  refine g_get (ref := "MigrantHeap$Kind") (C := RX2) (T := TX2) (N := 4) (ci := 2) K in_X7_referencePlace_X2 hw 2 rfl (inB_lt h11) rfl rfl 2 (by decide) (List.mem_of_getElem? (i := 5) rfl) rfl rfl dX7_referencePlace_9 ?_
  refine lv_astore_n (lv' := [(3, .ref (ad 3 (2 * (S.1 14 x1 0).toNatClampNeg))), (0, .ref (ad 0 0)), (1, .ref (ad 11 x1)), (2, .int x2)]) hx hb dX7_referencePlace_12 rfl hl (by decide) rfl (fun ls hl => ?_)
  refine lv_aload_n hx hb dX7_referencePlace_13 rfl (lv_at hl 0 rfl) ?_
  refine lv_iload_n hx hb dX7_referencePlace_14 rfl (lv_at hl 3 rfl) ?_
  obtain ⟨z13, hc12, hm⟩ := bindS hm
  refine g_calli (GG := GC cy ad) K hw (va_runV (As := [.int x2]) (rest := []) (g_fix K) (c_X4_placeOf l D cy ad H.size n S (2 * (S.1 14 x1 0).toNatClampNeg) x2 (by have := (inB_lt h11); omega : (2 * (S.1 14 x1 0).toNatClampNeg) < 9) hc12) (cwV 1 (g_hts K) gX7_referencePlace_X4_placeOf rfl rfl rfl (by decide +kernel) ⟨Nat.le_of_ble_eq_true rfl, Nat.le_of_ble_eq_true rfl⟩) ⟨g_blind rides_none, g_recv K hw 3 rfl (by have := (inB_lt h11); omega : (2 * (S.1 14 x1 0).toNatClampNeg) < 9) rfl rfl, g_pre (X2 := fun _ _ => True) K hw (fun _ _ _ => trivial)⟩ rfl rfl hl.1 rfl (lv_room (Nat.le_of_ble_eq_true rfl)) dX7_referencePlace_15 ⟨Nat.le_of_ble_eq_true rfl, Nat.le_of_ble_eq_true rfl⟩) (fun r u H locs hp hw => ?_)
  obtain ⟨rfl, hu⟩ := hp
  rw [hu] at hw
  refine lv_istore (lv' := [(4, .int z13), (3, .ref (ad 3 (2 * (S.1 14 x1 0).toNatClampNeg))), (0, .ref (ad 0 0)), (1, .ref (ad 11 x1)), (2, .int x2)]) hx hb dX7_referencePlace_18 hl (by decide) rfl (fun ls hl => ?_)
  refine lv_aload_n hx hb dX7_referencePlace_20 rfl (lv_at hl 1 rfl) ?_
  refine lv_iload hx hb dX7_referencePlace_21 (lv_at hl 0 rfl) ?_
  obtain ⟨z15, hc14, hm⟩ := bindS hm
  refine g_calli (GG := GC cy ad) K hw (va_runV (As := [.int z13]) (rest := []) (g_fix K) (c_X4_isReference l D cy ad H.size n S (2 * (S.1 14 x1 0).toNatClampNeg) z13 (by have := (inB_lt h11); omega : (2 * (S.1 14 x1 0).toNatClampNeg) < 9) hc14) (cwV 1 (g_hts K) gX7_referencePlace_X4_isReference rfl rfl rfl (by decide +kernel) ⟨Nat.le_of_ble_eq_true rfl, Nat.le_of_ble_eq_true rfl⟩) ⟨g_blind rides_none, g_recv K hw 3 rfl (by have := (inB_lt h11); omega : (2 * (S.1 14 x1 0).toNatClampNeg) < 9) rfl rfl, g_pre (X2 := fun _ _ => True) K hw (fun _ _ _ => trivial)⟩ rfl rfl hl.1 rfl (lv_room (Nat.le_of_ble_eq_true rfl)) dX7_referencePlace_23 ⟨Nat.le_of_ble_eq_true rfl, Nat.le_of_ble_eq_true rfl⟩) (fun r u H locs hp hw => ?_)
  obtain ⟨rfl, hu⟩ := hp
  rw [hu] at hw
  refine lv_if_ne (tgt := 40) hx hb dX7_referencePlace_26 (by decide) (fun c16 => ?_) (fun c16 => ?_)
  · replace hm := (if_pos c16).symm.trans hm
    refine lv_iload hx hb dX7_referencePlace_40 (lv_at hl 0 rfl) ?_
    refine vx_ret (W.widen (k := 1) (n := 6) (Nat.le_of_ble_eq_true rfl) (Nat.le_of_ble_eq_true rfl) ?_)
    exact g_iret (GG := GC cy ad) K hw ⟨(Option.some.inj hm).symm, rfl⟩ dX7_referencePlace_42
  · replace hm := (if_neg (fun h => h c16)).symm.trans hm
    obtain ⟨sa17, hs18⟩ := hX.2.1 (292, _) (List.mem_of_getElem? (i := 19) rfl)
    exact nse_throw (sa := sa17) hx hb hl9 hown (hts _ (List.mem_of_getElem? (i := 1) rfl)) (hts _ (List.mem_of_getElem? (i := 2) rfl)) hs18 (nse_hat hX hts (by decide +kernel)) hX.2.2.2.2.1 hX.2.2.2.2.2 hw.2.2 (hl.1.trans hml.symm) dX7_referencePlace_29 dX7_referencePlace_32 dX7_referencePlace_33 dX7_referencePlace_36 dX7_referencePlace_39 (fun x h => (hno x h).elim) (Nat.le_of_ble_eq_true rfl) (Nat.le_of_ble_eq_true rfl) (Nat.le_of_ble_eq_true rfl) (Nat.le_of_ble_eq_true rfl) hlo (g_xc (GG := GC cy ad) K hw (Option.some.inj hm).symm rfl) hw.2.2.2.2 (Nat.le_of_ble_eq_true rfl) (Nat.le_of_ble_eq_true rfl)
set_option maxRecDepth 100000 in
set_option maxHeartbeats 4000000 in
theorem c_X7_referencePlace (l : Launch) (hl9 : l.stackTraces = false) (D : va_G) (cy : Nat → ClassId) (ad : Nat → Nat → Nat) (sz n : Nat) (S : CSt) (x1 : Nat) (x2 : Int32) (hb_x1 : x1 < 24) {out : (Int32) ⊕ (Nat × CSt)} (hm : m_X7_referencePlace n S x1 x2 = some out) : vx_Met l yX7_referencePlace wsX7_referencePlace rm_X7_referencePlace (va_Pc [.ref (ad 0 0), .ref (ad 11 x1), .int x2] (Pre D (tysC cy) (GC cy ad S) EV sz)) (va_Qi (fun r (u : CSt) => out = .inl r ∧ u = S) (fun u => Pst D (tysC cy) (AA (adrs (GC cy ad S)) sz) (GC cy ad u)) (AA (adrs (GC cy ad S)) sz)) (XCx D (tysC cy) (AA (adrs (GC cy ad S)) sz) (GC cy ad) out) 1 6 (AA (adrs (GC cy ad S)) sz) := by
  refine g_xmet (by decide) rfl (Nat.le_of_ble_eq_true rfl) ?_
  intro p e s m args below meth c K hno hw ls hl
  exact t_X7_referencePlace_0 (cy := cy) K hno hl9 n S x1 x2 hb_x1 hm _ _ hw ls hl
end W_X7_referencePlace
section W_X7_link
variable {p : Program} {l : Launch} {e : Env} {s : State} {m : MethodId} {args : Array Value} {below : List Frame} {meth : Method} {c : Code} {D : va_G} {A : Nat → Prop} {cy : Nat → ClassId} {ad : Nat → Nat → Nat} {Q : State → Prop}
abbrev rm_X7_link : Room := { frames := 7, cells := 6, slots := 36, locals := 124 }
theorem in_X7_link_X0 : ∀ w ∈ u_ws RX0 TX0 6, w ∈ wsX7_link := by decide +kernel
theorem in_X7_link_X2 : ∀ w ∈ u_ws RX2 TX2 4, w ∈ wsX7_link := by decide +kernel
theorem in_X7_link_X4 : ∀ w ∈ u_ws RX4 TX4 6, w ∈ wsX7_link := by decide +kernel
theorem in_X7_link_X7 : ∀ w ∈ u_ws RX7 TX7 11, w ∈ wsX7_link := by decide +kernel
set_option maxRecDepth 100000 in
set_option maxHeartbeats 4000000 in
theorem t_X7_link_0 (K : Cx p s m args meth c D A (tysC cy) RX7 cX7_link 7 none wsX7_link EV) (hno : ∀ x ∈ c.exceptionTable.toList, False) (hl9 : l.stackTraces = false) (n : Nat) (S : CSt) (x1 : Int32) (x2 : Int32) (x3 : Int32)  {out : (CSt) ⊕ (Nat × CSt)} (hm : m_X7_link n S x1 x2 x3 = some out) : ∀ (H : Heap) (locs : List Loc), Wd D A s.heap (GC cy ad S) H locs → ∀ ls : Array Slot, lv_has ls 7 [(0, .ref (ad 0 0)), (1, .int x1), (2, .int x2), (3, .int x3)] → W p l e rm_X7_link s m args below meth c H locs 0 0 (vx_MQ below (va_Qv (fun (u : CSt) => out = .inl u) (fun u => Pst D (tysC cy) A (GC cy ad u)) A) (XCx D (tysC cy) A (GC cy ad) out) args s 6 36 A) (F0 m 0 ls []) := by
  intro H locs hw ls hl
  obtain ⟨hx, hb, hml, hown, hts, hr, hlo, hK, hA, hX⟩ := id K
  unfold m_X7_link at hm
  refine lv_iload_n hx hb dX7_link_0 rfl (lv_at hl 1 rfl) ?_
  obtain ⟨z58, hc57, hm⟩ := bindS hm
  refine g_xcallv (GG := GC cy ad) K hno hw (vx_runS (As := [.int x1]) (rest := []) (g_fix K) (c_X7_needRoot l hl9 D cy ad H.size n S x1  hc57) (va_cwS 1 (g_hts K) gX7_link_X7_needRoot rfl rfl rfl (by decide +kernel) ⟨Nat.le_of_ble_eq_true rfl, Nat.le_of_ble_eq_true rfl⟩) ⟨g_blind rides_EV, g_pre K hw (g_ride rides_EV K hw)⟩ rfl rfl hl.1 rfl (lv_room (Nat.le_of_ble_eq_true rfl)) dX7_link_1 ⟨Nat.le_of_ble_eq_true rfl, Nat.le_of_ble_eq_true rfl⟩) (fun u hu => by subst hu; exact sumX hm) (Nat.le_of_ble_eq_true rfl) (Nat.le_of_ble_eq_true rfl) (fun u H locs hp hw => ?_)
  obtain ⟨hp, hu⟩ := hp
  rw [hu] at hw
  obtain ⟨w59, hw59⟩ : ∃ q : Unit, q = () := ⟨_, rfl⟩
  subst hp
  replace hm := (sumL _ _ _).symm.trans hm
  refine lv_iload_n hx hb dX7_link_4 rfl (lv_at hl 2 rfl) ?_
  obtain ⟨z61, hc60, hm⟩ := bindS hm
  refine g_xcallv (GG := GC cy ad) K hno hw (vx_runS (As := [.int x2]) (rest := []) (g_fix K) (c_X7_needName l hl9 D cy ad H.size n S x2  hc60) (va_cwS 1 (g_hts K) gX7_link_X7_needName rfl rfl rfl (by decide +kernel) ⟨Nat.le_of_ble_eq_true rfl, Nat.le_of_ble_eq_true rfl⟩) ⟨g_blind rides_EV, g_pre K hw (g_ride rides_EV K hw)⟩ rfl rfl hl.1 rfl (lv_room (Nat.le_of_ble_eq_true rfl)) dX7_link_5 ⟨Nat.le_of_ble_eq_true rfl, Nat.le_of_ble_eq_true rfl⟩) (fun u hu => by subst hu; exact sumX hm) (Nat.le_of_ble_eq_true rfl) (Nat.le_of_ble_eq_true rfl) (fun u H locs hp hw => ?_)
  obtain ⟨hp, hu⟩ := hp
  rw [hu] at hw
  obtain ⟨w62, hw62⟩ : ∃ q : Unit, q = () := ⟨_, rfl⟩
  subst hp
  replace hm := (sumL _ _ _).symm.trans hm
  refine lv_iload_n hx hb dX7_link_8 rfl (lv_at hl 3 rfl) ?_
  obtain ⟨z64, hc63, hm⟩ := bindS hm
  refine g_xcallv (GG := GC cy ad) K hno hw (vx_runS (As := [.int x3]) (rest := []) (g_fix K) (c_X7_needRoot l hl9 D cy ad H.size n S x3  hc63) (va_cwS 1 (g_hts K) gX7_link_X7_needRoot rfl rfl rfl (by decide +kernel) ⟨Nat.le_of_ble_eq_true rfl, Nat.le_of_ble_eq_true rfl⟩) ⟨g_blind rides_EV, g_pre K hw (g_ride rides_EV K hw)⟩ rfl rfl hl.1 rfl (lv_room (Nat.le_of_ble_eq_true rfl)) dX7_link_9 ⟨Nat.le_of_ble_eq_true rfl, Nat.le_of_ble_eq_true rfl⟩) (fun u hu => by subst hu; exact sumX hm) (Nat.le_of_ble_eq_true rfl) (Nat.le_of_ble_eq_true rfl) (fun u H locs hp hw => ?_)
  obtain ⟨hp, hu⟩ := hp
  rw [hu] at hw
  obtain ⟨w65, hw65⟩ : ∃ q : Unit, q = () := ⟨_, rfl⟩
  subst hp
  replace hm := (sumL _ _ _).symm.trans hm
  refine lv_aload_n hx hb dX7_link_12 rfl (lv_at hl 0 rfl) ?_
  refine lv_iload_n hx hb dX7_link_13 rfl (lv_at hl 1 rfl) ?_
  obtain ⟨z67, hc66, hm⟩ := bindS hm
  refine g_xcallq (GG := GC cy ad) K hno hw (vx_runV (As := [.int x1]) (rest := []) (g_fix K) (c_X7_heldBy l hl9 D cy ad H.size n S x1  hc66) (cwV 1 (g_hts K) gX7_link_X7_heldBy rfl rfl rfl (by decide +kernel) ⟨Nat.le_of_ble_eq_true rfl, Nat.le_of_ble_eq_true rfl⟩) ⟨g_blind rides_EV, g_recv K hw 0 rfl (by decide : 0 < 1) rfl rfl, g_pre K hw (g_ride rides_EV K hw)⟩ rfl rfl hl.1 rfl (lv_room (Nat.le_of_ble_eq_true rfl)) dX7_link_14 ⟨Nat.le_of_ble_eq_true rfl, Nat.le_of_ble_eq_true rfl⟩) (fun u hu => by subst hu; exact sumX hm) (Nat.le_of_ble_eq_true rfl) (Nat.le_of_ble_eq_true rfl) (fun r u H locs hp hw => ?_)
  obtain ⟨⟨w68, hp, rfl⟩, hu⟩ := hp
  rw [hu] at hw
  subst hp
  replace hm := (sumL _ _ _).symm.trans hm
  obtain ⟨hw68_b, hm⟩ := chkS hm
  replace hw68_b := of_decide_eq_true hw68_b
  refine lv_astore (lv' := [(4, .ref (ad 11 w68)), (0, .ref (ad 0 0)), (1, .int x1), (2, .int x2), (3, .int x3)]) hx hb dX7_link_17 hl (by decide) rfl (fun ls hl => ?_)
  refine lv_aload_n hx hb dX7_link_19 rfl (lv_at hl 1 rfl) ?_
  refine lv_aload hx hb dX7_link_20 (lv_at hl 0 rfl) ?_
  refine lv_iload_n hx hb dX7_link_22 rfl (lv_at hl 3 rfl) ?_
  obtain ⟨z70, hc69, hm⟩ := bindS hm
  refine g_xcalli (GG := GC cy ad) K hno hw (vx_runV (As := [.ref (ad 11 w68), .int x2]) (rest := []) (g_fix K) (c_X7_referencePlace l hl9 D cy ad H.size n S w68 x2 hw68_b hc69) (cwV 2 (g_hts K) gX7_link_X7_referencePlace rfl rfl rfl (by decide +kernel) ⟨Nat.le_of_ble_eq_true rfl, Nat.le_of_ble_eq_true rfl⟩) ⟨g_blind rides_EV, g_recv K hw 0 rfl (by decide : 0 < 1) rfl rfl, g_pre K hw (g_ride rides_EV K hw)⟩ rfl rfl hl.1 rfl (lv_room (Nat.le_of_ble_eq_true rfl)) dX7_link_23 ⟨Nat.le_of_ble_eq_true rfl, Nat.le_of_ble_eq_true rfl⟩) (fun u hu => by subst hu; exact sumX hm) (Nat.le_of_ble_eq_true rfl) (Nat.le_of_ble_eq_true rfl) (fun r u H locs hp hw => ?_)
  obtain ⟨hp, hu⟩ := hp
  rw [hu] at hw
  obtain ⟨w71, hw71⟩ : ∃ q, q = r := ⟨_, rfl⟩; rw [← hw71] at hp ⊢; clear hw71
  subst hp
  replace hm := (sumL _ _ _).symm.trans hm
  refine lv_istore (lv' := [(5, .int w71), (4, .ref (ad 11 w68)), (0, .ref (ad 0 0)), (1, .int x1), (2, .int x2), (3, .int x3)]) hx hb dX7_link_26 hl (by decide) rfl (fun ls hl => ?_)
  refine lv_aload_n hx hb dX7_link_28 rfl (lv_at hl 2 rfl) ?_
  refine g_get (ref := "MigrantHeap") (C := RX7) (T := TX7) (N := 11) (ci := 7) K in_X7_link_X7 hw 0 rfl (by decide : 0 < 1) rfl rfl 0 (by decide) (List.mem_of_getElem? (i := 3) rfl) rfl rfl dX7_link_29 ?_
  refine lv_aload hx hb dX7_link_32 (lv_at hl 1 rfl) ?_
  refine g_get (ref := "MigrantHeap$Entry") (C := RX0) (T := TX0) (N := 6) (ci := 0) K in_X7_link_X0 hw 11 rfl hw68_b rfl rfl 1 (by decide) (List.mem_of_getElem? (i := 4) rfl) rfl rfl dX7_link_34 ?_
  obtain ⟨h72, hm⟩ := chkS hm
  refine g_aald K hw 1 4 rfl (by decide) rfl rfl h72 dX7_link_37 ?_
  refine lv_astore (lv' := [(6, .ref (ad 2 ((S.1 14 w68 0).toNatClampNeg))), (5, .int w71), (4, .ref (ad 11 w68)), (0, .ref (ad 0 0)), (1, .int x1), (2, .int x2), (3, .int x3)]) hx hb dX7_link_38 hl (by decide) rfl (fun ls hl => ?_)
  refine lv_aload hx hb dX7_link_40 (lv_at hl 0 rfl) ?_
  refine g_get (ref := "MigrantHeap$Kind") (C := RX2) (T := TX2) (N := 4) (ci := 2) K in_X7_link_X2 hw 2 rfl (inB_lt h72) rfl rfl 2 (by decide) (List.mem_of_getElem? (i := 5) rfl) rfl rfl dX7_link_42 ?_
  refine lv_iload hx hb dX7_link_45 (lv_at hl 1 rfl) ?_
  obtain ⟨z74, hc73, hm⟩ := bindS hm
  refine g_calli (GG := GC cy ad) K hw (va_runV (As := [.int w71]) (rest := []) (g_fix K) (c_X4_isOwning l D cy ad H.size n S (2 * (S.1 14 w68 0).toNatClampNeg) w71 (by have := (inB_lt h72); omega : (2 * (S.1 14 w68 0).toNatClampNeg) < 9) hc73) (cwV 1 (g_hts K) gX7_link_X4_isOwning rfl rfl rfl (by decide +kernel) ⟨Nat.le_of_ble_eq_true rfl, Nat.le_of_ble_eq_true rfl⟩) ⟨g_blind rides_none, g_recv K hw 3 rfl (by have := (inB_lt h72); omega : (2 * (S.1 14 w68 0).toNatClampNeg) < 9) rfl rfl, g_pre (X2 := fun _ _ => True) K hw (fun _ _ _ => trivial)⟩ rfl rfl hl.1 rfl (lv_room (Nat.le_of_ble_eq_true rfl)) dX7_link_47 ⟨Nat.le_of_ble_eq_true rfl, Nat.le_of_ble_eq_true rfl⟩) (fun r u H locs hp hw => ?_)
  obtain ⟨rfl, hu⟩ := hp
  rw [hu] at hw
  refine lv_if_ne (tgt := 77) hx hb dX7_link_50 (by decide) (fun c75 => ?_) (fun c75 => ?_)
  · replace hm := (if_pos c75).symm.trans hm
    obtain ⟨sa76, hs77⟩ := hX.2.1 (141, _) (List.mem_of_getElem? (i := 3) rfl)
    exact vx_throwS (own := RX7) (cls := "java/lang/IllegalStateException") (names := rteL) (sa := sa76) hx hb hl9 hown (by decide +kernel) (by decide +kernel) (hts _ (List.mem_of_getElem? (i := 1) rfl)) (hts _ (List.mem_of_getElem? (i := 2) rfl)) hs77 (ev_hat hX (by decide) hts (by decide +kernel) (by decide +kernel)) (by decide +kernel) hX.2.2.2.2.1 hX.2.2.2.2.2 hw.2.2 (hl.1.trans hml.symm) dX7_link_77 dX7_link_80 dX7_link_81 dX7_link_83 dX7_link_86 (fun x h => (hno x h).elim) (Nat.le_of_ble_eq_true rfl) (Nat.le_of_ble_eq_true rfl) (Nat.le_of_ble_eq_true rfl) (Nat.le_of_ble_eq_true rfl) hlo (g_xc (GG := GC cy ad) K hw (Option.some.inj hm).symm rfl) hw.2.2.2.2 (Nat.le_of_ble_eq_true rfl) (Nat.le_of_ble_eq_true rfl)
  · replace hm := (if_neg (fun h => h c75)).symm.trans hm
    refine lv_aload_n hx hb dX7_link_53 rfl (lv_at hl 3 rfl) ?_
    refine lv_aload_n hx hb dX7_link_54 rfl (lv_at hl 3 rfl) ?_
    refine g_get (ref := "MigrantHeap") (C := RX7) (T := TX7) (N := 11) (ci := 7) K in_X7_link_X7 hw 0 rfl (by decide : 0 < 1) rfl rfl 3 (by decide) (List.mem_of_getElem? (i := 6) rfl) rfl rfl dX7_link_55 ?_
    refine lv_iload_n hx hb dX7_link_58 rfl (lv_at hl 6 rfl) ?_
    obtain ⟨h78, hm⟩ := chkS hm
    refine g_iald K hw 14 0 rfl (by decide) rfl rfl h78 dX7_link_59 ?_
    refine lv_aload hx hb dX7_link_60 (lv_at hl 0 rfl) ?_
    refine g_get (ref := "MigrantHeap$Kind") (C := RX2) (T := TX2) (N := 4) (ci := 2) K in_X7_link_X2 hw 2 rfl (inB_lt h72) rfl rfl 2 (by decide) (List.mem_of_getElem? (i := 5) rfl) rfl rfl dX7_link_62 ?_
    refine g_get (ref := "MigrantHeap$Shape") (C := RX4) (T := TX4) (N := 6) (ci := 4) K in_X7_link_X4 hw 3 rfl (by have := (inB_lt h72); omega : (2 * (S.1 14 w68 0).toNatClampNeg) < 9) rfl rfl 3 (by decide) (List.mem_of_getElem? (i := 7) rfl) rfl rfl dX7_link_65 ?_
    refine lv_iload hx hb dX7_link_68 (lv_at hl 1 rfl) ?_
    obtain ⟨h79, hm⟩ := chkS hm
    refine g_iald K hw 6 0 rfl (by have := (inB_lt h72); omega : (2 * (S.1 14 w68 0).toNatClampNeg) < 9) rfl rfl h79 dX7_link_70 ?_
    obtain ⟨z81, hc80, hm⟩ := bindS hm
    refine g_calli (GG := GC cy ad) K hw (va_runV (As := [.int (S.1 19 0 x3.toNatClampNeg), .int (S.1 8 (2 * (S.1 14 w68 0).toNatClampNeg) w71.toNatClampNeg)]) (rest := []) (g_fix K) (c_X7_mayBeReferredTo l D cy ad H.size n S (S.1 19 0 x3.toNatClampNeg) (S.1 8 (2 * (S.1 14 w68 0).toNatClampNeg) w71.toNatClampNeg)  hc80) (cwV 2 (g_hts K) gX7_link_X7_mayBeReferredTo rfl rfl rfl (by decide +kernel) ⟨Nat.le_of_ble_eq_true rfl, Nat.le_of_ble_eq_true rfl⟩) ⟨g_blind rides_none, g_recv K hw 0 rfl (by decide : 0 < 1) rfl rfl, g_pre (X2 := fun _ _ => True) K hw (fun _ _ _ => trivial)⟩ rfl rfl hl.1 rfl (lv_room (Nat.le_of_ble_eq_true rfl)) dX7_link_71 ⟨Nat.le_of_ble_eq_true rfl, Nat.le_of_ble_eq_true rfl⟩) (fun r u H locs hp hw => ?_)
    obtain ⟨rfl, hu⟩ := hp
    rw [hu] at hw
    refine lv_if_ne (tgt := 87) hx hb dX7_link_74 (by decide) (fun c82 => ?_) (fun c82 => ?_)
    · replace hm := (if_pos c82).symm.trans hm
      refine lv_aload hx hb dX7_link_87 (lv_at hl 2 rfl) ?_
      refine g_get (ref := "MigrantHeap$Entry") (C := RX0) (T := TX0) (N := 6) (ci := 0) K in_X7_link_X0 hw 11 rfl hw68_b rfl rfl 4 (by decide) (List.mem_of_getElem? (i := 8) rfl) rfl rfl dX7_link_89 ?_
      refine lv_iload hx hb dX7_link_92 (lv_at hl 1 rfl) ?_
      refine lv_aload_n hx hb dX7_link_94 rfl (lv_at hl 3 rfl) ?_
      refine g_get (ref := "MigrantHeap") (C := RX7) (T := TX7) (N := 11) (ci := 7) K in_X7_link_X7 hw 0 rfl (by decide : 0 < 1) rfl rfl 3 (by decide) (List.mem_of_getElem? (i := 6) rfl) rfl rfl dX7_link_95 ?_
      refine lv_iload_n hx hb dX7_link_98 rfl (lv_at hl 6 rfl) ?_
      obtain ⟨h83, hm⟩ := chkS hm
      refine g_iald K hw 14 0 rfl (by decide) rfl rfl h83 dX7_link_99 ?_
      obtain ⟨h84, hm⟩ := chkS hm
      refine g_iast K hw 12 0 rfl hw68_b rfl rfl h84 dX7_link_100 (eC_17 cy ad S w68 w71.toNatClampNeg (S.1 19 0 x3.toNatClampNeg)) (fun H locs hw => ?_)
      obtain ⟨S85, hS85, hm⟩ := nm_ex hm
      rw [← hS85] at hw
      refine lv_aload hx hb dX7_link_101 (lv_at hl 0 rfl) ?_
      refine lv_iconst (v := 0) hx hb dX7_link_103 (by decide) ?_
      refine g_put (v := .int 0) (ty := .boolean) (ref := "MigrantHeap$Kind") (C := RX2) (T := TX2) (N := 4) (ci := 2) K in_X7_link_X2 tyX2 tyX2_ok nmX2 hw 2 rfl (inB_lt h72) rfl rfl 1 (by decide) (List.mem_of_getElem? (i := 9) rfl) rfl rfl (by decide +kernel) rfl rfl (Nat.le_of_ble_eq_true rfl) dX7_link_104 (eC_4 cy ad S85 ((S.1 14 w68 0).toNatClampNeg) 0) (fun H locs hw => ?_)
      obtain ⟨S86, hS86, hm⟩ := nm_ex hm
      rw [← hS86] at hw
      refine lv_aload_n hx hb dX7_link_107 rfl (lv_at hl 3 rfl) ?_
      refine lv_aload hx hb dX7_link_108 (lv_at hl 2 rfl) ?_
      obtain ⟨z88, hc87, hm⟩ := bindS hm
      refine g_calli (GG := GC cy ad) K hw (va_runV (As := [.ref (ad 11 w68)]) (rest := []) (g_fix K) (c_X7_bringForward l D cy ad H.size n S86 w68 hw68_b hc87) (cwV 1 (g_hts K) gX7_link_X7_bringForward rfl rfl rfl (by decide +kernel) ⟨Nat.le_of_ble_eq_true rfl, Nat.le_of_ble_eq_true rfl⟩) ⟨g_blind rides_none, g_recv K hw 0 rfl (by decide : 0 < 1) rfl rfl, g_pre (X2 := fun _ _ => True) K hw (fun _ _ _ => trivial)⟩ rfl rfl hl.1 rfl (lv_room (Nat.le_of_ble_eq_true rfl)) dX7_link_110 ⟨Nat.le_of_ble_eq_true rfl, Nat.le_of_ble_eq_true rfl⟩) (fun r u H locs hp hw => ?_)
      obtain ⟨rfl, rfl⟩ : r = z88.1 ∧ u = z88.2 := by rw [hp]; exact ⟨rfl, rfl⟩
      refine lv_pop hx hb dX7_link_113 rfl ?_
      refine vx_ret (W.widen (k := 6) (n := 36) (Nat.le_of_ble_eq_true rfl) (Nat.le_of_ble_eq_true rfl) ?_)
      exact g_vret (GG := GC cy ad) K hw (Option.some.inj hm).symm dX7_link_114
    · replace hm := (if_neg (fun h => h c82)).symm.trans hm
      obtain ⟨sa89, hs90⟩ := hX.2.1 (141, _) (List.mem_of_getElem? (i := 3) rfl)
      exact vx_throwS (own := RX7) (cls := "java/lang/IllegalStateException") (names := rteL) (sa := sa89) hx hb hl9 hown (by decide +kernel) (by decide +kernel) (hts _ (List.mem_of_getElem? (i := 1) rfl)) (hts _ (List.mem_of_getElem? (i := 2) rfl)) hs90 (ev_hat hX (by decide) hts (by decide +kernel) (by decide +kernel)) (by decide +kernel) hX.2.2.2.2.1 hX.2.2.2.2.2 hw.2.2 (hl.1.trans hml.symm) dX7_link_77 dX7_link_80 dX7_link_81 dX7_link_83 dX7_link_86 (fun x h => (hno x h).elim) (Nat.le_of_ble_eq_true rfl) (Nat.le_of_ble_eq_true rfl) (Nat.le_of_ble_eq_true rfl) (Nat.le_of_ble_eq_true rfl) hlo (g_xc (GG := GC cy ad) K hw (Option.some.inj hm).symm rfl) hw.2.2.2.2 (Nat.le_of_ble_eq_true rfl) (Nat.le_of_ble_eq_true rfl)
set_option maxRecDepth 100000 in
set_option maxHeartbeats 4000000 in
theorem c_X7_link (l : Launch) (hl9 : l.stackTraces = false) (D : va_G) (cy : Nat → ClassId) (ad : Nat → Nat → Nat) (sz n : Nat) (S : CSt) (x1 : Int32) (x2 : Int32) (x3 : Int32)  {out : (CSt) ⊕ (Nat × CSt)} (hm : m_X7_link n S x1 x2 x3 = some out) : vx_Met l yX7_link wsX7_link rm_X7_link (va_Pc [.ref (ad 0 0), .int x1, .int x2, .int x3] (Pre D (tysC cy) (GC cy ad S) EV sz)) (va_Qv (fun (u : CSt) => out = .inl u) (fun u => Pst D (tysC cy) (AA (adrs (GC cy ad S)) sz) (GC cy ad u)) (AA (adrs (GC cy ad S)) sz)) (XCx D (tysC cy) (AA (adrs (GC cy ad S)) sz) (GC cy ad) out) 6 36 (AA (adrs (GC cy ad S)) sz) := by
  refine g_xmet (by decide) rfl (Nat.le_of_ble_eq_true rfl) ?_
  intro p e s m args below meth c K hno hw ls hl
  exact t_X7_link_0 (cy := cy) K hno hl9 n S x1 x2 x3  hm _ _ hw ls hl
end W_X7_link
section W_X7_follow
variable {p : Program} {l : Launch} {e : Env} {s : State} {m : MethodId} {args : Array Value} {below : List Frame} {meth : Method} {c : Code} {D : va_G} {A : Nat → Prop} {cy : Nat → ClassId} {ad : Nat → Nat → Nat} {Q : State → Prop}
abbrev rm_X7_follow : Room := { frames := 7, cells := 5, slots := 30, locals := 124 }
theorem in_X7_follow_X0 : ∀ w ∈ u_ws RX0 TX0 6, w ∈ wsX7_follow := by decide +kernel
theorem in_X7_follow_X7 : ∀ w ∈ u_ws RX7 TX7 11, w ∈ wsX7_follow := by decide +kernel
set_option maxRecDepth 100000 in
set_option maxHeartbeats 4000000 in
theorem t_X7_follow_0 (K : Cx p s m args meth c D A (tysC cy) RX7 cX7_follow 6 none wsX7_follow EV) (hno : ∀ x ∈ c.exceptionTable.toList, False) (hl9 : l.stackTraces = false) (n : Nat) (S : CSt) (x1 : Int32) (x2 : Int32) (x3 : Int32)  {out : (CSt) ⊕ (Nat × CSt)} (hm : m_X7_follow n S x1 x2 x3 = some out) : ∀ (H : Heap) (locs : List Loc), Wd D A s.heap (GC cy ad S) H locs → ∀ ls : Array Slot, lv_has ls 6 [(0, .ref (ad 0 0)), (1, .int x1), (2, .int x2), (3, .int x3)] → W p l e rm_X7_follow s m args below meth c H locs 0 0 (vx_MQ below (va_Qv (fun (u : CSt) => out = .inl u) (fun u => Pst D (tysC cy) A (GC cy ad u)) A) (XCx D (tysC cy) A (GC cy ad) out) args s 5 30 A) (F0 m 0 ls []) := by
  intro H locs hw ls hl
  obtain ⟨hx, hb, hml, hown, hts, hr, hlo, hK, hA, hX⟩ := id K
  unfold m_X7_follow at hm
  refine lv_iload_n hx hb dX7_follow_0 rfl (lv_at hl 1 rfl) ?_
  obtain ⟨z42, hc41, hm⟩ := bindS hm
  refine g_xcallv (GG := GC cy ad) K hno hw (vx_runS (As := [.int x1]) (rest := []) (g_fix K) (c_X7_needRoot l hl9 D cy ad H.size n S x1  hc41) (va_cwS 1 (g_hts K) gX7_follow_X7_needRoot rfl rfl rfl (by decide +kernel) ⟨Nat.le_of_ble_eq_true rfl, Nat.le_of_ble_eq_true rfl⟩) ⟨g_blind rides_EV, g_pre K hw (g_ride rides_EV K hw)⟩ rfl rfl hl.1 rfl (lv_room (Nat.le_of_ble_eq_true rfl)) dX7_follow_1 ⟨Nat.le_of_ble_eq_true rfl, Nat.le_of_ble_eq_true rfl⟩) (fun u hu => by subst hu; exact sumX hm) (Nat.le_of_ble_eq_true rfl) (Nat.le_of_ble_eq_true rfl) (fun u H locs hp hw => ?_)
  obtain ⟨hp, hu⟩ := hp
  rw [hu] at hw
  obtain ⟨w43, hw43⟩ : ∃ q : Unit, q = () := ⟨_, rfl⟩
  subst hp
  replace hm := (sumL _ _ _).symm.trans hm
  refine lv_iload_n hx hb dX7_follow_4 rfl (lv_at hl 2 rfl) ?_
  obtain ⟨z45, hc44, hm⟩ := bindS hm
  refine g_xcallv (GG := GC cy ad) K hno hw (vx_runS (As := [.int x2]) (rest := []) (g_fix K) (c_X7_needName l hl9 D cy ad H.size n S x2  hc44) (va_cwS 1 (g_hts K) gX7_follow_X7_needName rfl rfl rfl (by decide +kernel) ⟨Nat.le_of_ble_eq_true rfl, Nat.le_of_ble_eq_true rfl⟩) ⟨g_blind rides_EV, g_pre K hw (g_ride rides_EV K hw)⟩ rfl rfl hl.1 rfl (lv_room (Nat.le_of_ble_eq_true rfl)) dX7_follow_5 ⟨Nat.le_of_ble_eq_true rfl, Nat.le_of_ble_eq_true rfl⟩) (fun u hu => by subst hu; exact sumX hm) (Nat.le_of_ble_eq_true rfl) (Nat.le_of_ble_eq_true rfl) (fun u H locs hp hw => ?_)
  obtain ⟨hp, hu⟩ := hp
  rw [hu] at hw
  obtain ⟨w46, hw46⟩ : ∃ q : Unit, q = () := ⟨_, rfl⟩
  subst hp
  replace hm := (sumL _ _ _).symm.trans hm
  refine lv_iload_n hx hb dX7_follow_8 rfl (lv_at hl 3 rfl) ?_
  obtain ⟨z48, hc47, hm⟩ := bindS hm
  refine g_xcallv (GG := GC cy ad) K hno hw (vx_runS (As := [.int x3]) (rest := []) (g_fix K) (c_X7_needRoot l hl9 D cy ad H.size n S x3  hc47) (va_cwS 1 (g_hts K) gX7_follow_X7_needRoot rfl rfl rfl (by decide +kernel) ⟨Nat.le_of_ble_eq_true rfl, Nat.le_of_ble_eq_true rfl⟩) ⟨g_blind rides_EV, g_pre K hw (g_ride rides_EV K hw)⟩ rfl rfl hl.1 rfl (lv_room (Nat.le_of_ble_eq_true rfl)) dX7_follow_9 ⟨Nat.le_of_ble_eq_true rfl, Nat.le_of_ble_eq_true rfl⟩) (fun u hu => by subst hu; exact sumX hm) (Nat.le_of_ble_eq_true rfl) (Nat.le_of_ble_eq_true rfl) (fun u H locs hp hw => ?_)
  obtain ⟨hp, hu⟩ := hp
  rw [hu] at hw
  obtain ⟨w49, hw49⟩ : ∃ q : Unit, q = () := ⟨_, rfl⟩
  subst hp
  replace hm := (sumL _ _ _).symm.trans hm
  refine lv_aload_n hx hb dX7_follow_12 rfl (lv_at hl 0 rfl) ?_
  refine lv_iload_n hx hb dX7_follow_13 rfl (lv_at hl 1 rfl) ?_
  obtain ⟨z51, hc50, hm⟩ := bindS hm
  refine g_xcallq (GG := GC cy ad) K hno hw (vx_runV (As := [.int x1]) (rest := []) (g_fix K) (c_X7_heldBy l hl9 D cy ad H.size n S x1  hc50) (cwV 1 (g_hts K) gX7_follow_X7_heldBy rfl rfl rfl (by decide +kernel) ⟨Nat.le_of_ble_eq_true rfl, Nat.le_of_ble_eq_true rfl⟩) ⟨g_blind rides_EV, g_recv K hw 0 rfl (by decide : 0 < 1) rfl rfl, g_pre K hw (g_ride rides_EV K hw)⟩ rfl rfl hl.1 rfl (lv_room (Nat.le_of_ble_eq_true rfl)) dX7_follow_14 ⟨Nat.le_of_ble_eq_true rfl, Nat.le_of_ble_eq_true rfl⟩) (fun u hu => by subst hu; exact sumX hm) (Nat.le_of_ble_eq_true rfl) (Nat.le_of_ble_eq_true rfl) (fun r u H locs hp hw => ?_)
  obtain ⟨⟨w52, hp, rfl⟩, hu⟩ := hp
  rw [hu] at hw
  subst hp
  replace hm := (sumL _ _ _).symm.trans hm
  obtain ⟨hw52_b, hm⟩ := chkS hm
  replace hw52_b := of_decide_eq_true hw52_b
  refine lv_astore (lv' := [(4, .ref (ad 11 w52)), (0, .ref (ad 0 0)), (1, .int x1), (2, .int x2), (3, .int x3)]) hx hb dX7_follow_17 hl (by decide) rfl (fun ls hl => ?_)
  refine lv_aload_n hx hb dX7_follow_19 rfl (lv_at hl 1 rfl) ?_
  refine lv_aload hx hb dX7_follow_20 (lv_at hl 0 rfl) ?_
  refine lv_iload_n hx hb dX7_follow_22 rfl (lv_at hl 3 rfl) ?_
  obtain ⟨z54, hc53, hm⟩ := bindS hm
  refine g_xcalli (GG := GC cy ad) K hno hw (vx_runV (As := [.ref (ad 11 w52), .int x2]) (rest := []) (g_fix K) (c_X7_referencePlace l hl9 D cy ad H.size n S w52 x2 hw52_b hc53) (cwV 2 (g_hts K) gX7_follow_X7_referencePlace rfl rfl rfl (by decide +kernel) ⟨Nat.le_of_ble_eq_true rfl, Nat.le_of_ble_eq_true rfl⟩) ⟨g_blind rides_EV, g_recv K hw 0 rfl (by decide : 0 < 1) rfl rfl, g_pre K hw (g_ride rides_EV K hw)⟩ rfl rfl hl.1 rfl (lv_room (Nat.le_of_ble_eq_true rfl)) dX7_follow_23 ⟨Nat.le_of_ble_eq_true rfl, Nat.le_of_ble_eq_true rfl⟩) (fun u hu => by subst hu; exact sumX hm) (Nat.le_of_ble_eq_true rfl) (Nat.le_of_ble_eq_true rfl) (fun r u H locs hp hw => ?_)
  obtain ⟨hp, hu⟩ := hp
  rw [hu] at hw
  obtain ⟨w55, hw55⟩ : ∃ q, q = r := ⟨_, rfl⟩; rw [← hw55] at hp ⊢; clear hw55
  subst hp
  replace hm := (sumL _ _ _).symm.trans hm
  refine lv_istore (lv' := [(5, .int w55), (4, .ref (ad 11 w52)), (0, .ref (ad 0 0)), (1, .int x1), (2, .int x2), (3, .int x3)]) hx hb dX7_follow_26 hl (by decide) rfl (fun ls hl => ?_)
  refine lv_aload_n hx hb dX7_follow_28 rfl (lv_at hl 2 rfl) ?_
  refine lv_aload hx hb dX7_follow_29 (lv_at hl 1 rfl) ?_
  obtain ⟨z57, hc56, hm⟩ := bindS hm
  refine g_calli (GG := GC cy ad) K hw (va_runV (As := [.ref (ad 11 w52)]) (rest := []) (g_fix K) (c_X7_bringForward l D cy ad H.size n S w52 hw52_b hc56) (cwV 1 (g_hts K) gX7_follow_X7_bringForward rfl rfl rfl (by decide +kernel) ⟨Nat.le_of_ble_eq_true rfl, Nat.le_of_ble_eq_true rfl⟩) ⟨g_blind rides_none, g_recv K hw 0 rfl (by decide : 0 < 1) rfl rfl, g_pre (X2 := fun _ _ => True) K hw (fun _ _ _ => trivial)⟩ rfl rfl hl.1 rfl (lv_room (Nat.le_of_ble_eq_true rfl)) dX7_follow_31 ⟨Nat.le_of_ble_eq_true rfl, Nat.le_of_ble_eq_true rfl⟩) (fun r u H locs hp hw => ?_)
  obtain ⟨rfl, rfl⟩ : r = z57.1 ∧ u = z57.2 := by rw [hp]; exact ⟨rfl, rfl⟩
  refine lv_pop hx hb dX7_follow_34 rfl ?_
  refine lv_aload_n hx hb dX7_follow_35 rfl (lv_at hl 2 rfl) ?_
  refine g_get (ref := "MigrantHeap") (C := RX7) (T := TX7) (N := 11) (ci := 7) K in_X7_follow_X7 hw 0 rfl (by decide : 0 < 1) rfl rfl 3 (by decide) (List.mem_of_getElem? (i := 1) rfl) rfl rfl dX7_follow_36 ?_
  refine lv_iload_n hx hb dX7_follow_39 rfl (lv_at hl 5 rfl) ?_
  refine lv_aload hx hb dX7_follow_40 (lv_at hl 1 rfl) ?_
  refine g_get (ref := "MigrantHeap$Entry") (C := RX0) (T := TX0) (N := 6) (ci := 0) K in_X7_follow_X0 hw 11 rfl hw52_b rfl rfl 4 (by decide) (List.mem_of_getElem? (i := 2) rfl) rfl rfl dX7_follow_42 ?_
  refine lv_iload hx hb dX7_follow_45 (lv_at hl 0 rfl) ?_
  obtain ⟨h58, hm⟩ := chkS hm
  refine g_iald K hw 12 0 rfl hw52_b rfl rfl h58 dX7_follow_47 ?_
  obtain ⟨h59, hm⟩ := chkS hm
  refine g_iast K hw 14 0 rfl (by decide) rfl rfl h59 dX7_follow_48 (eC_19 cy ad z57.2 0 x3.toNatClampNeg (z57.2.1 17 w52 w55.toNatClampNeg)) (fun H locs hw => ?_)
  obtain ⟨S60, hS60, hm⟩ := nm_ex hm
  rw [← hS60] at hw
  refine vx_ret (W.widen (k := 5) (n := 30) (Nat.le_of_ble_eq_true rfl) (Nat.le_of_ble_eq_true rfl) ?_)
  exact g_vret (GG := GC cy ad) K hw (Option.some.inj hm).symm dX7_follow_49
set_option maxRecDepth 100000 in
set_option maxHeartbeats 4000000 in
theorem c_X7_follow (l : Launch) (hl9 : l.stackTraces = false) (D : va_G) (cy : Nat → ClassId) (ad : Nat → Nat → Nat) (sz n : Nat) (S : CSt) (x1 : Int32) (x2 : Int32) (x3 : Int32)  {out : (CSt) ⊕ (Nat × CSt)} (hm : m_X7_follow n S x1 x2 x3 = some out) : vx_Met l yX7_follow wsX7_follow rm_X7_follow (va_Pc [.ref (ad 0 0), .int x1, .int x2, .int x3] (Pre D (tysC cy) (GC cy ad S) EV sz)) (va_Qv (fun (u : CSt) => out = .inl u) (fun u => Pst D (tysC cy) (AA (adrs (GC cy ad S)) sz) (GC cy ad u)) (AA (adrs (GC cy ad S)) sz)) (XCx D (tysC cy) (AA (adrs (GC cy ad S)) sz) (GC cy ad) out) 5 30 (AA (adrs (GC cy ad S)) sz) := by
  refine g_xmet (by decide) rfl (Nat.le_of_ble_eq_true rfl) ?_
  intro p e s m args below meth c K hno hw ls hl
  exact t_X7_follow_0 (cy := cy) K hno hl9 n S x1 x2 x3  hm _ _ hw ls hl
end W_X7_follow
section W_X7_drop
variable {p : Program} {l : Launch} {e : Env} {s : State} {m : MethodId} {args : Array Value} {below : List Frame} {meth : Method} {c : Code} {D : va_G} {A : Nat → Prop} {cy : Nat → ClassId} {ad : Nat → Nat → Nat} {Q : State → Prop}
abbrev rm_X7_drop : Room := { frames := 7, cells := 1, slots := 6, locals := 120 }
theorem in_X7_drop_X7 : ∀ w ∈ u_ws RX7 TX7 11, w ∈ wsX7_drop := by decide +kernel
set_option maxRecDepth 100000 in
set_option maxHeartbeats 4000000 in
theorem t_X7_drop_J18 (K : Cx p s m args meth c D A (tysC cy) RX7 cX7_drop 3 (some .boolean) wsX7_drop EV) (hno : ∀ x ∈ c.exceptionTable.toList, False) (hl9 : l.stackTraces = false) (n : Nat) (S : CSt) (x1 : Int32) (y0 : Int32) {out : (Int32 × CSt) ⊕ (Nat × CSt)} (hm : m_X7_drop_J18 n S x1 y0 = some out) : ∀ (H : Heap) (locs : List Loc), Wd D A s.heap (GC cy ad S) H locs → ∀ ls : Array Slot, lv_has ls 3 [(0, .ref (ad 0 0)), (1, .int x1)] → W p l e rm_X7_drop s m args below meth c H locs 1 6 (vx_MQ below (va_Qi (fun r (u : CSt) => out = .inl (r, u)) (fun u => Pst D (tysC cy) A (GC cy ad u)) A) (XCx D (tysC cy) A (GC cy ad) out) args s 1 6 A) (F0 m 18 ls [.int y0]) := by
  intro H locs hw ls hl 
  obtain ⟨hx, hb, hml, hown, hts, hr, hlo, hK, hA, hX⟩ := id K
  unfold m_X7_drop_J18 at hm
  refine lv_istore_n (lv' := [(2, .int y0), (0, .ref (ad 0 0)), (1, .int x1)]) hx hb dX7_drop_18 rfl hl (by decide) rfl (fun ls hl => ?_)
  refine lv_aload_n hx hb dX7_drop_19 rfl (lv_at hl 1 rfl) ?_
  refine g_get (ref := "MigrantHeap") (C := RX7) (T := TX7) (N := 11) (ci := 7) K in_X7_drop_X7 hw 0 rfl (by decide : 0 < 1) rfl rfl 3 (by decide) (List.mem_of_getElem? (i := 1) rfl) rfl rfl dX7_drop_20 ?_
  refine lv_iload_n hx hb dX7_drop_23 rfl (lv_at hl 2 rfl) ?_
  refine lv_iconst (v := 0) hx hb dX7_drop_24 (by decide) ?_
  obtain ⟨h19, hm⟩ := chkS hm
  refine g_iast K hw 14 0 rfl (by decide) rfl rfl h19 dX7_drop_25 (eC_19 cy ad S 0 x1.toNatClampNeg 0) (fun H locs hw => ?_)
  obtain ⟨S20, hS20, hm⟩ := nm_ex hm
  rw [← hS20] at hw
  refine lv_iload_n hx hb dX7_drop_26 rfl (lv_at hl 0 rfl) ?_
  refine vx_ret (W.widen (k := 1) (n := 6) (Nat.le_of_ble_eq_true rfl) (Nat.le_of_ble_eq_true rfl) ?_)
  obtain ⟨h21, hm⟩ := chkS hm
  exact g_zret (GG := GC cy ad) K hw h21 (Option.some.inj hm).symm dX7_drop_27
set_option maxRecDepth 100000 in
set_option maxHeartbeats 4000000 in
theorem t_X7_drop_0 (K : Cx p s m args meth c D A (tysC cy) RX7 cX7_drop 3 (some .boolean) wsX7_drop EV) (hno : ∀ x ∈ c.exceptionTable.toList, False) (hl9 : l.stackTraces = false) (n : Nat) (S : CSt) (x1 : Int32)  {out : (Int32 × CSt) ⊕ (Nat × CSt)} (hm : m_X7_drop n S x1 = some out) : ∀ (H : Heap) (locs : List Loc), Wd D A s.heap (GC cy ad S) H locs → ∀ ls : Array Slot, lv_has ls 3 [(0, .ref (ad 0 0)), (1, .int x1)] → W p l e rm_X7_drop s m args below meth c H locs 0 0 (vx_MQ below (va_Qi (fun r (u : CSt) => out = .inl (r, u)) (fun u => Pst D (tysC cy) A (GC cy ad u)) A) (XCx D (tysC cy) A (GC cy ad) out) args s 1 6 A) (F0 m 0 ls []) := by
  intro H locs hw ls hl
  obtain ⟨hx, hb, hml, hown, hts, hr, hlo, hK, hA, hX⟩ := id K
  unfold m_X7_drop at hm
  refine lv_iload_n hx hb dX7_drop_0 rfl (lv_at hl 1 rfl) ?_
  obtain ⟨z23, hc22, hm⟩ := bindS hm
  refine g_xcallv (GG := GC cy ad) K hno hw (vx_runS (As := [.int x1]) (rest := []) (g_fix K) (c_X7_needRoot l hl9 D cy ad H.size n S x1  hc22) (va_cwS 1 (g_hts K) gX7_drop_X7_needRoot rfl rfl rfl (by decide +kernel) ⟨Nat.le_of_ble_eq_true rfl, Nat.le_of_ble_eq_true rfl⟩) ⟨g_blind rides_EV, g_pre K hw (g_ride rides_EV K hw)⟩ rfl rfl hl.1 rfl (lv_room (Nat.le_of_ble_eq_true rfl)) dX7_drop_1 ⟨Nat.le_of_ble_eq_true rfl, Nat.le_of_ble_eq_true rfl⟩) (fun u hu => by subst hu; exact sumX hm) (Nat.le_of_ble_eq_true rfl) (Nat.le_of_ble_eq_true rfl) (fun u H locs hp hw => ?_)
  obtain ⟨hp, hu⟩ := hp
  rw [hu] at hw
  obtain ⟨w24, hw24⟩ : ∃ q : Unit, q = () := ⟨_, rfl⟩
  subst hp
  replace hm := (sumL _ _ _).symm.trans hm
  refine lv_aload_n hx hb dX7_drop_4 rfl (lv_at hl 0 rfl) ?_
  refine g_get (ref := "MigrantHeap") (C := RX7) (T := TX7) (N := 11) (ci := 7) K in_X7_drop_X7 hw 0 rfl (by decide : 0 < 1) rfl rfl 3 (by decide) (List.mem_of_getElem? (i := 1) rfl) rfl rfl dX7_drop_5 ?_
  refine lv_iload_n hx hb dX7_drop_8 rfl (lv_at hl 1 rfl) ?_
  obtain ⟨h25, hm⟩ := chkS hm
  refine g_iald K hw 14 0 rfl (by decide) rfl rfl h25 dX7_drop_9 ?_
  refine lv_if_eq (tgt := 17) hx hb dX7_drop_10 (by decide) (fun c26 => ?_) (fun c26 => ?_)
  · replace hm := (if_pos c26).symm.trans hm
    refine lv_iconst (v := 0) hx hb dX7_drop_17 (by decide) ?_
    exact t_X7_drop_J18 K hno hl9 n S x1 0 hm H locs hw ls (lv_sub hl [0, 1] rfl)
  · replace hm := (if_neg c26).symm.trans hm
    refine lv_iconst (v := 1) hx hb dX7_drop_13 (by decide) ?_
    refine lv_goto (tgt := 18) hx hb dX7_drop_14 (by decide) ?_
    exact t_X7_drop_J18 K hno hl9 n S x1 1 hm H locs hw ls (lv_sub hl [0, 1] rfl)
set_option maxRecDepth 100000 in
set_option maxHeartbeats 4000000 in
theorem c_X7_drop (l : Launch) (hl9 : l.stackTraces = false) (D : va_G) (cy : Nat → ClassId) (ad : Nat → Nat → Nat) (sz n : Nat) (S : CSt) (x1 : Int32)  {out : (Int32 × CSt) ⊕ (Nat × CSt)} (hm : m_X7_drop n S x1 = some out) : vx_Met l yX7_drop wsX7_drop rm_X7_drop (va_Pc [.ref (ad 0 0), .int x1] (Pre D (tysC cy) (GC cy ad S) EV sz)) (va_Qi (fun r (u : CSt) => out = .inl (r, u)) (fun u => Pst D (tysC cy) (AA (adrs (GC cy ad S)) sz) (GC cy ad u)) (AA (adrs (GC cy ad S)) sz)) (XCx D (tysC cy) (AA (adrs (GC cy ad S)) sz) (GC cy ad) out) 1 6 (AA (adrs (GC cy ad S)) sz) := by
  refine g_xmet (by decide) rfl (Nat.le_of_ble_eq_true rfl) ?_
  intro p e s m args below meth c K hno hw ls hl
  exact t_X7_drop_0 (cy := cy) K hno hl9 n S x1  hm _ _ hw ls hl
end W_X7_drop
section W_X7_same
variable {p : Program} {l : Launch} {e : Env} {s : State} {m : MethodId} {args : Array Value} {below : List Frame} {meth : Method} {c : Code} {D : va_G} {A : Nat → Prop} {cy : Nat → ClassId} {ad : Nat → Nat → Nat} {Q : State → Prop}
abbrev rm_X7_same : Room := { frames := 7, cells := 2, slots := 12, locals := 120 }
theorem in_X7_same_X7 : ∀ w ∈ u_ws RX7 TX7 11, w ∈ wsX7_same := by decide +kernel
set_option maxRecDepth 100000 in
set_option maxHeartbeats 4000000 in
theorem t_X7_same_0 (K : Cx p s m args meth c D A (tysC cy) RX7 cX7_same 3 (some .boolean) wsX7_same EV) (hno : ∀ x ∈ c.exceptionTable.toList, False) (hl9 : l.stackTraces = false) (n : Nat) (S : CSt) (x1 : Int32) (x2 : Int32)  {out : (Int32) ⊕ (Nat × CSt)} (hm : m_X7_same n S x1 x2 = some out) : ∀ (H : Heap) (locs : List Loc), Wd D A s.heap (GC cy ad S) H locs → ∀ ls : Array Slot, lv_has ls 3 [(0, .ref (ad 0 0)), (1, .int x1), (2, .int x2)] → W p l e rm_X7_same s m args below meth c H locs 0 0 (vx_MQ below (va_Qi (fun r (u : CSt) => out = .inl r ∧ u = S) (fun u => Pst D (tysC cy) A (GC cy ad u)) A) (XCx D (tysC cy) A (GC cy ad) out) args s 2 12 A) (F0 m 0 ls []) := by
  intro H locs hw ls hl
  obtain ⟨hx, hb, hml, hown, hts, hr, hlo, hK, hA, hX⟩ := id K
  unfold m_X7_same at hm
  refine lv_iload_n hx hb dX7_same_0 rfl (lv_at hl 1 rfl) ?_
  obtain ⟨z18, hc17, hm⟩ := bindS hm
  refine g_xcallv (GG := GC cy ad) K hno hw (vx_runS (As := [.int x1]) (rest := []) (g_fix K) (c_X7_needRoot l hl9 D cy ad H.size n S x1  hc17) (va_cwS 1 (g_hts K) gX7_same_X7_needRoot rfl rfl rfl (by decide +kernel) ⟨Nat.le_of_ble_eq_true rfl, Nat.le_of_ble_eq_true rfl⟩) ⟨g_blind rides_EV, g_pre K hw (g_ride rides_EV K hw)⟩ rfl rfl hl.1 rfl (lv_room (Nat.le_of_ble_eq_true rfl)) dX7_same_1 ⟨Nat.le_of_ble_eq_true rfl, Nat.le_of_ble_eq_true rfl⟩) (fun u hu => by subst hu; exact sumX hm) (Nat.le_of_ble_eq_true rfl) (Nat.le_of_ble_eq_true rfl) (fun u H locs hp hw => ?_)
  obtain ⟨hp, hu⟩ := hp
  rw [hu] at hw
  obtain ⟨w19, hw19⟩ : ∃ q : Unit, q = () := ⟨_, rfl⟩
  subst hp
  replace hm := (sumL _ _ _).symm.trans hm
  refine lv_iload_n hx hb dX7_same_4 rfl (lv_at hl 2 rfl) ?_
  obtain ⟨z21, hc20, hm⟩ := bindS hm
  refine g_xcallv (GG := GC cy ad) K hno hw (vx_runS (As := [.int x2]) (rest := []) (g_fix K) (c_X7_needRoot l hl9 D cy ad H.size n S x2  hc20) (va_cwS 1 (g_hts K) gX7_same_X7_needRoot rfl rfl rfl (by decide +kernel) ⟨Nat.le_of_ble_eq_true rfl, Nat.le_of_ble_eq_true rfl⟩) ⟨g_blind rides_EV, g_pre K hw (g_ride rides_EV K hw)⟩ rfl rfl hl.1 rfl (lv_room (Nat.le_of_ble_eq_true rfl)) dX7_same_5 ⟨Nat.le_of_ble_eq_true rfl, Nat.le_of_ble_eq_true rfl⟩) (fun u hu => by subst hu; exact sumX hm) (Nat.le_of_ble_eq_true rfl) (Nat.le_of_ble_eq_true rfl) (fun u H locs hp hw => ?_)
  obtain ⟨hp, hu⟩ := hp
  rw [hu] at hw
  obtain ⟨w22, hw22⟩ : ∃ q : Unit, q = () := ⟨_, rfl⟩
  subst hp
  replace hm := (sumL _ _ _).symm.trans hm
  refine lv_aload_n hx hb dX7_same_8 rfl (lv_at hl 0 rfl) ?_
  refine g_get (ref := "MigrantHeap") (C := RX7) (T := TX7) (N := 11) (ci := 7) K in_X7_same_X7 hw 0 rfl (by decide : 0 < 1) rfl rfl 3 (by decide) (List.mem_of_getElem? (i := 1) rfl) rfl rfl dX7_same_9 ?_
  refine lv_iload_n hx hb dX7_same_12 rfl (lv_at hl 1 rfl) ?_
  obtain ⟨h23, hm⟩ := chkS hm
  refine g_iald K hw 14 0 rfl (by decide) rfl rfl h23 dX7_same_13 ?_
  refine lv_aload_n hx hb dX7_same_14 rfl (lv_at hl 0 rfl) ?_
  refine g_get (ref := "MigrantHeap") (C := RX7) (T := TX7) (N := 11) (ci := 7) K in_X7_same_X7 hw 0 rfl (by decide : 0 < 1) rfl rfl 3 (by decide) (List.mem_of_getElem? (i := 1) rfl) rfl rfl dX7_same_15 ?_
  refine lv_iload_n hx hb dX7_same_18 rfl (lv_at hl 2 rfl) ?_
  obtain ⟨h24, hm⟩ := chkS hm
  refine g_iald K hw 14 0 rfl (by decide) rfl rfl h24 dX7_same_19 ?_
  refine lv_icmp_ne (tgt := 27) hx hb dX7_same_20 (by decide) (fun c25 => ?_) (fun c25 => ?_)
  · replace hm := (if_pos c25).symm.trans hm
    refine lv_iconst (v := 0) hx hb dX7_same_27 (by decide) ?_
    refine vx_ret (W.widen (k := 2) (n := 12) (Nat.le_of_ble_eq_true rfl) (Nat.le_of_ble_eq_true rfl) ?_)
    exact g_zret (GG := GC cy ad) K hw rfl ⟨(Option.some.inj hm).symm, rfl⟩ dX7_same_28
  · replace hm := (if_neg (fun h => h c25)).symm.trans hm
    refine lv_iconst (v := 1) hx hb dX7_same_23 (by decide) ?_
    refine lv_goto (tgt := 28) hx hb dX7_same_24 (by decide) ?_
    refine vx_ret (W.widen (k := 2) (n := 12) (Nat.le_of_ble_eq_true rfl) (Nat.le_of_ble_eq_true rfl) ?_)
    exact g_zret (GG := GC cy ad) K hw rfl ⟨(Option.some.inj hm).symm, rfl⟩ dX7_same_28
set_option maxRecDepth 100000 in
set_option maxHeartbeats 4000000 in
theorem c_X7_same (l : Launch) (hl9 : l.stackTraces = false) (D : va_G) (cy : Nat → ClassId) (ad : Nat → Nat → Nat) (sz n : Nat) (S : CSt) (x1 : Int32) (x2 : Int32)  {out : (Int32) ⊕ (Nat × CSt)} (hm : m_X7_same n S x1 x2 = some out) : vx_Met l yX7_same wsX7_same rm_X7_same (va_Pc [.ref (ad 0 0), .int x1, .int x2] (Pre D (tysC cy) (GC cy ad S) EV sz)) (va_Qi (fun r (u : CSt) => out = .inl r ∧ u = S) (fun u => Pst D (tysC cy) (AA (adrs (GC cy ad S)) sz) (GC cy ad u)) (AA (adrs (GC cy ad S)) sz)) (XCx D (tysC cy) (AA (adrs (GC cy ad S)) sz) (GC cy ad) out) 2 12 (AA (adrs (GC cy ad S)) sz) := by
  refine g_xmet (by decide) rfl (Nat.le_of_ble_eq_true rfl) ?_
  intro p e s m args below meth c K hno hw ls hl
  exact t_X7_same_0 (cy := cy) K hno hl9 n S x1 x2  hm _ _ hw ls hl
end W_X7_same
section W_X7_isWord
variable {p : Program} {l : Launch} {e : Env} {s : State} {m : MethodId} {args : Array Value} {below : List Frame} {meth : Method} {c : Code} {D : va_G} {A : Nat → Prop} {cy : Nat → ClassId} {ad : Nat → Nat → Nat} {Q : State → Prop}
abbrev rm_X7_isWord : Room := { frames := 0, cells := 0, slots := 0, locals := 0 }
set_option maxRecDepth 100000 in
set_option maxHeartbeats 4000000 in
theorem t_X7_isWord_J10 (K : Cx p s m args meth c D A (tysC cy) RX7 cX7_isWord 1 (some .boolean) wsX7_isWord (fun _ _ => True)) (n : Nat) (S : CSt) (x0 : Int32) {out : Int32} (hm : m_X7_isWord_J10 n S x0 = some out) : ∀ (H : Heap) (locs : List Loc), Wd D A s.heap (GC cy ad S) H locs → ∀ ls : Array Slot, lv_has ls 1 [(0, .int x0)] → W p l e rm_X7_isWord s m args below meth c H locs 0 0 (MQ below (va_Qi (fun r (u : CSt) => out = r ∧ u = S) (fun u => Pst D (tysC cy) A (GC cy ad u)) A) args s 0 0 A) (F0 m 10 ls []) := by
  intro H locs hw ls hl 
  obtain ⟨hx, hb, hml, hown, hts, hr, hlo, hK, hA, hX⟩ := id K
  unfold m_X7_isWord_J10 at hm
  refine lv_iload_n hx hb dX7_isWord_10 rfl (lv_at hl 0 rfl) ?_
  refine lv_bipush (v := 100) hx hb dX7_isWord_11 (by decide) ?_
  refine lv_icmp_lt (tgt := 27) hx hb dX7_isWord_13 (by decide) (fun c1 => ?_) (fun c1 => ?_)
  · replace hm := (if_pos c1).symm.trans hm
    refine lv_iconst (v := 0) hx hb dX7_isWord_27 (by decide) ?_
    exact g_zret (GG := GC cy ad) K hw rfl ⟨(Option.some.inj hm).symm, rfl⟩ dX7_isWord_28
  · replace hm := (if_neg c1).symm.trans hm
    refine lv_iload_n hx hb dX7_isWord_16 rfl (lv_at hl 0 rfl) ?_
    refine lv_sipush (v := 300) hx hb dX7_isWord_17 (by decide) ?_
    refine lv_icmp_gt (tgt := 27) hx hb dX7_isWord_20 (by decide) (fun c2 => ?_) (fun c2 => ?_)
    · replace hm := (if_pos c2).symm.trans hm
      refine lv_iconst (v := 0) hx hb dX7_isWord_27 (by decide) ?_
      exact g_zret (GG := GC cy ad) K hw rfl ⟨(Option.some.inj hm).symm, rfl⟩ dX7_isWord_28
    · replace hm := (if_neg c2).symm.trans hm
      refine lv_iconst (v := 1) hx hb dX7_isWord_23 (by decide) ?_
      refine lv_goto (tgt := 28) hx hb dX7_isWord_24 (by decide) ?_
      exact g_zret (GG := GC cy ad) K hw rfl ⟨(Option.some.inj hm).symm, rfl⟩ dX7_isWord_28
set_option maxRecDepth 100000 in
set_option maxHeartbeats 4000000 in
theorem t_X7_isWord_0 (K : Cx p s m args meth c D A (tysC cy) RX7 cX7_isWord 1 (some .boolean) wsX7_isWord (fun _ _ => True)) (n : Nat) (S : CSt) (x0 : Int32)  {out : Int32} (hm : m_X7_isWord n S x0 = some out) : ∀ (H : Heap) (locs : List Loc), Wd D A s.heap (GC cy ad S) H locs → ∀ ls : Array Slot, lv_has ls 1 [(0, .int x0)] → W p l e rm_X7_isWord s m args below meth c H locs 0 0 (MQ below (va_Qi (fun r (u : CSt) => out = r ∧ u = S) (fun u => Pst D (tysC cy) A (GC cy ad u)) A) args s 0 0 A) (F0 m 0 ls []) := by
  intro H locs hw ls hl
  obtain ⟨hx, hb, hml, hown, hts, hr, hlo, hK, hA, hX⟩ := id K
  unfold m_X7_isWord at hm
  refine lv_iload_n hx hb dX7_isWord_0 rfl (lv_at hl 0 rfl) ?_
  refine lv_if_lt (tgt := 10) hx hb dX7_isWord_1 (by decide) (fun c3 => ?_) (fun c3 => ?_)
  · replace hm := (if_pos c3).symm.trans hm
    exact t_X7_isWord_J10 K n S x0 hm H locs hw ls (lv_sub hl [0] rfl)
  · replace hm := (if_neg c3).symm.trans hm
    refine lv_iload_n hx hb dX7_isWord_4 rfl (lv_at hl 0 rfl) ?_
    refine lv_bipush (v := 16) hx hb dX7_isWord_5 (by decide) ?_
    refine lv_icmp_le (tgt := 23) hx hb dX7_isWord_7 (by decide) (fun c4 => ?_) (fun c4 => ?_)
    · replace hm := (if_pos c4).symm.trans hm
      refine lv_iconst (v := 1) hx hb dX7_isWord_23 (by decide) ?_
      refine lv_goto (tgt := 28) hx hb dX7_isWord_24 (by decide) ?_
      exact g_zret (GG := GC cy ad) K hw rfl ⟨(Option.some.inj hm).symm, rfl⟩ dX7_isWord_28
    · replace hm := (if_neg c4).symm.trans hm
      exact t_X7_isWord_J10 K n S x0 hm H locs hw ls (lv_sub hl [0] rfl)
set_option maxRecDepth 100000 in
set_option maxHeartbeats 4000000 in
theorem c_X7_isWord (l : Launch) (D : va_G) (cy : Nat → ClassId) (ad : Nat → Nat → Nat) (sz n : Nat) (S : CSt) (x0 : Int32)  {out : Int32} (hm : m_X7_isWord n S x0 = some out) : Met l yX7_isWord wsX7_isWord rm_X7_isWord (va_Pc [.int x0] (Pre D (tysC cy) (GC cy ad S) (fun _ _ => True) sz)) (va_Qi (fun r (u : CSt) => out = r ∧ u = S) (fun u => Pst D (tysC cy) (AA (adrs (GC cy ad S)) sz) (GC cy ad u)) (AA (adrs (GC cy ad S)) sz)) 0 0 (AA (adrs (GC cy ad S)) sz) := by
  refine g_met (by decide) rfl (Nat.le_of_ble_eq_true rfl) ?_
  intro p e s m args below meth c K hw ls hl
  exact t_X7_isWord_0 (cy := cy) K n S x0  hm _ _ hw ls hl
end W_X7_isWord
section W_X7_word
variable {p : Program} {l : Launch} {e : Env} {s : State} {m : MethodId} {args : Array Value} {below : List Frame} {meth : Method} {c : Code} {D : va_G} {A : Nat → Prop} {cy : Nat → ClassId} {ad : Nat → Nat → Nat} {Q : State → Prop}
abbrev rm_X7_word : Room := { frames := 6, cells := 1, slots := 6, locals := 100 }
theorem in_X7_word_X1 : ∀ w ∈ u_ws RX1 TX1 2, w ∈ wsX7_word := by decide +kernel
theorem in_X7_word_X7 : ∀ w ∈ u_ws RX7 TX7 11, w ∈ wsX7_word := by decide +kernel
set_option maxRecDepth 100000 in
set_option maxHeartbeats 4000000 in
theorem t_X7_word_0 (K : Cx p s m args meth c D A (tysC cy) RX7 cX7_word 2 (some .int) wsX7_word EV) (hno : ∀ x ∈ c.exceptionTable.toList, False) (hl9 : l.stackTraces = false) (n : Nat) (S : CSt) (x1 : Int32)  {out : (Int32 × CSt) ⊕ (Nat × CSt)} (hm : m_X7_word n S x1 = some out) : ∀ (H : Heap) (locs : List Loc), Wd D A s.heap (GC cy ad S) H locs → ∀ ls : Array Slot, lv_has ls 2 [(0, .ref (ad 0 0)), (1, .int x1)] → W p l e rm_X7_word s m args below meth c H locs 0 0 (vx_MQ below (va_Qi (fun r (u : CSt) => out = .inl (r, u)) (fun u => Pst D (tysC cy) A (GC cy ad u)) A) (XCx D (tysC cy) A (GC cy ad) out) args s 1 6 A) (F0 m 0 ls []) := by
  intro H locs hw ls hl
  obtain ⟨hx, hb, hml, hown, hts, hr, hlo, hK, hA, hX⟩ := id K
  unfold m_X7_word at hm
  refine lv_iload_n hx hb dX7_word_0 rfl (lv_at hl 1 rfl) ?_
  obtain ⟨z10, hc9, hm⟩ := bindS hm
  refine g_calli (GG := GC cy ad) K hw (va_runS (As := [.int x1]) (rest := []) (g_fix K) (c_X7_isWord l D cy ad H.size n S x1  hc9) (va_cwS 1 (g_hts K) gX7_word_X7_isWord rfl rfl rfl (by decide +kernel) ⟨Nat.le_of_ble_eq_true rfl, Nat.le_of_ble_eq_true rfl⟩) ⟨g_blind rides_none, g_pre (X2 := fun _ _ => True) K hw (fun _ _ _ => trivial)⟩ rfl rfl hl.1 rfl (lv_room (Nat.le_of_ble_eq_true rfl)) dX7_word_1 ⟨Nat.le_of_ble_eq_true rfl, Nat.le_of_ble_eq_true rfl⟩) (fun r u H locs hp hw => ?_)
  obtain ⟨rfl, hu⟩ := hp
  rw [hu] at hw
  refine lv_if_ne (tgt := 17) hx hb dX7_word_4 (by decide) (fun c11 => ?_) (fun c11 => ?_)
  · replace hm := (if_pos c11).symm.trans hm
    refine lv_aload_n hx hb dX7_word_17 rfl (lv_at hl 0 rfl) ?_
    refine g_get (ref := "MigrantHeap") (C := RX7) (T := TX7) (N := 11) (ci := 7) K in_X7_word_X7 hw 0 rfl (by decide : 0 < 1) rfl rfl 4 (by decide) (List.mem_of_getElem? (i := 5) rfl) rfl rfl dX7_word_18 ?_
    refine g_get (ref := "MigrantHeap$Formula") (C := RX1) (T := TX1) (N := 2) (ci := 1) K in_X7_word_X1 hw 15 rfl (by decide : 6 < 7) rfl rfl 0 (by decide) (List.mem_of_getElem? (i := 6) rfl) rfl rfl dX7_word_21 ?_
    refine lv_bipush (v := 12) hx hb dX7_word_24 (by decide) ?_
    refine lv_icmp_lt (tgt := 39) hx hb dX7_word_26 (by decide) (fun c12 => ?_) (fun c12 => ?_)
    · replace hm := (if_pos c12).symm.trans hm
      refine lv_aload_n hx hb dX7_word_39 rfl (lv_at hl 0 rfl) ?_
      refine g_get (ref := "MigrantHeap") (C := RX7) (T := TX7) (N := 11) (ci := 7) K in_X7_word_X7 hw 0 rfl (by decide : 0 < 1) rfl rfl 4 (by decide) (List.mem_of_getElem? (i := 5) rfl) rfl rfl dX7_word_40 ?_
      refine lv_iload_n hx hb dX7_word_43 rfl (lv_at hl 1 rfl) ?_
      obtain ⟨z14, hc13, hm⟩ := bindS hm
      refine g_callv (GG := GC cy ad) K hw (va_runV (As := [.int x1]) (rest := []) (g_fix K) (c_X1_append l D cy ad H.size n S 6 x1 (by decide : 6 < 7) hc13) (cwV 1 (g_hts K) gX7_word_X1_append rfl rfl rfl (by decide +kernel) ⟨Nat.le_of_ble_eq_true rfl, Nat.le_of_ble_eq_true rfl⟩) ⟨g_blind rides_none, g_recv K hw 15 rfl (by decide : 6 < 7) rfl rfl, g_pre (X2 := fun _ _ => True) K hw (fun _ _ _ => trivial)⟩ rfl rfl hl.1 rfl (lv_room (Nat.le_of_ble_eq_true rfl)) dX7_word_44 ⟨Nat.le_of_ble_eq_true rfl, Nat.le_of_ble_eq_true rfl⟩) (fun u H locs hp hw => ?_)
      obtain rfl := hp
      refine lv_aload_n hx hb dX7_word_47 rfl (lv_at hl 0 rfl) ?_
      refine g_get (ref := "MigrantHeap") (C := RX7) (T := TX7) (N := 11) (ci := 7) K in_X7_word_X7 hw 0 rfl (by decide : 0 < 1) rfl rfl 4 (by decide) (List.mem_of_getElem? (i := 5) rfl) rfl rfl dX7_word_48 ?_
      refine g_get (ref := "MigrantHeap$Formula") (C := RX1) (T := TX1) (N := 2) (ci := 1) K in_X7_word_X1 hw 15 rfl (by decide : 6 < 7) rfl rfl 0 (by decide) (List.mem_of_getElem? (i := 6) rfl) rfl rfl dX7_word_51 ?_
      refine vx_ret (W.widen (k := 1) (n := 6) (Nat.le_of_ble_eq_true rfl) (Nat.le_of_ble_eq_true rfl) ?_)
      exact g_iret (GG := GC cy ad) K hw (Option.some.inj hm).symm dX7_word_54
    · replace hm := (if_neg c12).symm.trans hm
      obtain ⟨sa15, hs16⟩ := hX.2.1 (154, _) (List.mem_of_getElem? (i := 5) rfl)
      exact vx_throwS (own := RX7) (cls := "java/lang/IllegalStateException") (names := rteL) (sa := sa15) hx hb hl9 hown (by decide +kernel) (by decide +kernel) (hts _ (List.mem_of_getElem? (i := 3) rfl)) (hts _ (List.mem_of_getElem? (i := 4) rfl)) hs16 (ev_hat hX (by decide) hts (by decide +kernel) (by decide +kernel)) (by decide +kernel) hX.2.2.2.2.1 hX.2.2.2.2.2 hw.2.2 (hl.1.trans hml.symm) dX7_word_29 dX7_word_32 dX7_word_33 dX7_word_35 dX7_word_38 (fun x h => (hno x h).elim) (Nat.le_of_ble_eq_true rfl) (Nat.le_of_ble_eq_true rfl) (Nat.le_of_ble_eq_true rfl) (Nat.le_of_ble_eq_true rfl) hlo (g_xc (GG := GC cy ad) K hw (Option.some.inj hm).symm rfl) hw.2.2.2.2 (Nat.le_of_ble_eq_true rfl) (Nat.le_of_ble_eq_true rfl)
  · replace hm := (if_neg (fun h => h c11)).symm.trans hm
    obtain ⟨sa17, hs18⟩ := hX.2.1 (148, _) (List.mem_of_getElem? (i := 4) rfl)
    exact vx_throwS (own := RX7) (cls := "java/lang/IllegalArgumentException") (names := rteL) (sa := sa17) hx hb hl9 hown (by decide +kernel) (by decide +kernel) (hts _ (List.mem_of_getElem? (i := 1) rfl)) (hts _ (List.mem_of_getElem? (i := 2) rfl)) hs18 (ev_hat hX (by decide) hts (by decide +kernel) (by decide +kernel)) (by decide +kernel) hX.2.2.2.2.1 hX.2.2.2.2.2 hw.2.2 (hl.1.trans hml.symm) dX7_word_7 dX7_word_10 dX7_word_11 dX7_word_13 dX7_word_16 (fun x h => (hno x h).elim) (Nat.le_of_ble_eq_true rfl) (Nat.le_of_ble_eq_true rfl) (Nat.le_of_ble_eq_true rfl) (Nat.le_of_ble_eq_true rfl) hlo (g_xc (GG := GC cy ad) K hw (Option.some.inj hm).symm rfl) hw.2.2.2.2 (Nat.le_of_ble_eq_true rfl) (Nat.le_of_ble_eq_true rfl)
set_option maxRecDepth 100000 in
set_option maxHeartbeats 4000000 in
theorem c_X7_word (l : Launch) (hl9 : l.stackTraces = false) (D : va_G) (cy : Nat → ClassId) (ad : Nat → Nat → Nat) (sz n : Nat) (S : CSt) (x1 : Int32)  {out : (Int32 × CSt) ⊕ (Nat × CSt)} (hm : m_X7_word n S x1 = some out) : vx_Met l yX7_word wsX7_word rm_X7_word (va_Pc [.ref (ad 0 0), .int x1] (Pre D (tysC cy) (GC cy ad S) EV sz)) (va_Qi (fun r (u : CSt) => out = .inl (r, u)) (fun u => Pst D (tysC cy) (AA (adrs (GC cy ad S)) sz) (GC cy ad u)) (AA (adrs (GC cy ad S)) sz)) (XCx D (tysC cy) (AA (adrs (GC cy ad S)) sz) (GC cy ad) out) 1 6 (AA (adrs (GC cy ad S)) sz) := by
  refine g_xmet (by decide) rfl (Nat.le_of_ble_eq_true rfl) ?_
  intro p e s m args below meth c K hno hw ls hl
  exact t_X7_word_0 (cy := cy) K hno hl9 n S x1  hm _ _ hw ls hl
end W_X7_word
section W_X7_isRange
variable {p : Program} {l : Launch} {e : Env} {s : State} {m : MethodId} {args : Array Value} {below : List Frame} {meth : Method} {c : Code} {D : va_G} {A : Nat → Prop} {cy : Nat → ClassId} {ad : Nat → Nat → Nat} {Q : State → Prop}
abbrev rm_X7_isRange : Room := { frames := 0, cells := 0, slots := 0, locals := 0 }
set_option maxRecDepth 100000 in
set_option maxHeartbeats 4000000 in
theorem t_X7_isRange_0 (K : Cx p s m args meth c D A (tysC cy) RX7 cX7_isRange 2 (some .boolean) wsX7_isRange (fun _ _ => True)) (n : Nat) (S : CSt) (x0 : Int32) (x1 : Int32)  {out : Int32} (hm : m_X7_isRange n S x0 x1 = some out) : ∀ (H : Heap) (locs : List Loc), Wd D A s.heap (GC cy ad S) H locs → ∀ ls : Array Slot, lv_has ls 2 [(0, .int x0), (1, .int x1)] → W p l e rm_X7_isRange s m args below meth c H locs 0 0 (MQ below (va_Qi (fun r (u : CSt) => out = r ∧ u = S) (fun u => Pst D (tysC cy) A (GC cy ad u)) A) args s 0 0 A) (F0 m 0 ls []) := by
  intro H locs hw ls hl
  obtain ⟨hx, hb, hml, hown, hts, hr, hlo, hK, hA, hX⟩ := id K
  unfold m_X7_isRange at hm
  refine lv_iload_n hx hb dX7_isRange_0 rfl (lv_at hl 0 rfl) ?_
  refine lv_ldcw (v := (-1000000)) hx hb hown (hts _ (List.mem_of_getElem? (i := 1) rfl)) dX7_isRange_1 ?_
  refine lv_icmp_lt (tgt := 23) hx hb dX7_isRange_4 (by decide) (fun c1 => ?_) (fun c1 => ?_)
  · replace hm := (if_pos c1).symm.trans hm
    refine lv_iconst (v := 0) hx hb dX7_isRange_23 (by decide) ?_
    exact g_zret (GG := GC cy ad) K hw rfl ⟨(Option.some.inj hm).symm, rfl⟩ dX7_isRange_24
  · replace hm := (if_neg c1).symm.trans hm
    refine lv_iload_n hx hb dX7_isRange_7 rfl (lv_at hl 0 rfl) ?_
    refine lv_iload_n hx hb dX7_isRange_8 rfl (lv_at hl 1 rfl) ?_
    refine lv_icmp_gt (tgt := 23) hx hb dX7_isRange_9 (by decide) (fun c2 => ?_) (fun c2 => ?_)
    · replace hm := (if_pos c2).symm.trans hm
      refine lv_iconst (v := 0) hx hb dX7_isRange_23 (by decide) ?_
      exact g_zret (GG := GC cy ad) K hw rfl ⟨(Option.some.inj hm).symm, rfl⟩ dX7_isRange_24
    · replace hm := (if_neg c2).symm.trans hm
      refine lv_iload_n hx hb dX7_isRange_12 rfl (lv_at hl 1 rfl) ?_
      refine lv_ldcw (v := 1000000) hx hb hown (hts _ (List.mem_of_getElem? (i := 2) rfl)) dX7_isRange_13 ?_
      refine lv_icmp_gt (tgt := 23) hx hb dX7_isRange_16 (by decide) (fun c3 => ?_) (fun c3 => ?_)
      · replace hm := (if_pos c3).symm.trans hm
        refine lv_iconst (v := 0) hx hb dX7_isRange_23 (by decide) ?_
        exact g_zret (GG := GC cy ad) K hw rfl ⟨(Option.some.inj hm).symm, rfl⟩ dX7_isRange_24
      · replace hm := (if_neg c3).symm.trans hm
        refine lv_iconst (v := 1) hx hb dX7_isRange_19 (by decide) ?_
        refine lv_goto (tgt := 24) hx hb dX7_isRange_20 (by decide) ?_
        exact g_zret (GG := GC cy ad) K hw rfl ⟨(Option.some.inj hm).symm, rfl⟩ dX7_isRange_24
set_option maxRecDepth 100000 in
set_option maxHeartbeats 4000000 in
theorem c_X7_isRange (l : Launch) (D : va_G) (cy : Nat → ClassId) (ad : Nat → Nat → Nat) (sz n : Nat) (S : CSt) (x0 : Int32) (x1 : Int32)  {out : Int32} (hm : m_X7_isRange n S x0 x1 = some out) : Met l yX7_isRange wsX7_isRange rm_X7_isRange (va_Pc [.int x0, .int x1] (Pre D (tysC cy) (GC cy ad S) (fun _ _ => True) sz)) (va_Qi (fun r (u : CSt) => out = r ∧ u = S) (fun u => Pst D (tysC cy) (AA (adrs (GC cy ad S)) sz) (GC cy ad u)) (AA (adrs (GC cy ad S)) sz)) 0 0 (AA (adrs (GC cy ad S)) sz) := by
  refine g_met (by decide) rfl (Nat.le_of_ble_eq_true rfl) ?_
  intro p e s m args below meth c K hw ls hl
  exact t_X7_isRange_0 (cy := cy) K n S x0 x1  hm _ _ hw ls hl
end W_X7_isRange
section W_X7_isStep
variable {p : Program} {l : Launch} {e : Env} {s : State} {m : MethodId} {args : Array Value} {below : List Frame} {meth : Method} {c : Code} {D : va_G} {A : Nat → Prop} {cy : Nat → ClassId} {ad : Nat → Nat → Nat} {Q : State → Prop}
abbrev rm_X7_isStep : Room := { frames := 2, cells := 0, slots := 0, locals := 43 }
theorem in_X7_isStep_X7 : ∀ w ∈ u_ws RX7 TX7 11, w ∈ wsX7_isStep := by decide +kernel
set_option maxRecDepth 100000 in
set_option maxHeartbeats 4000000 in
theorem t_X7_isStep_0 (K : Cx p s m args meth c D A (tysC cy) RX7 cX7_isStep 6 (some .boolean) wsX7_isStep (fun _ _ => True)) (n : Nat) (S : CSt) (x1 : Int32) (x2 : Int32) (x3 : Int32) (x4 : Int32) (x5 : Int32)  {out : Int32} (hm : m_X7_isStep n S x1 x2 x3 x4 x5 = some out) : ∀ (H : Heap) (locs : List Loc), Wd D A s.heap (GC cy ad S) H locs → ∀ ls : Array Slot, lv_has ls 6 [(0, .ref (ad 0 0)), (1, .int x1), (2, .int x2), (3, .int x3), (4, .int x4), (5, .int x5)] → W p l e rm_X7_isStep s m args below meth c H locs 0 0 (MQ below (va_Qi (fun r (u : CSt) => out = r ∧ u = S) (fun u => Pst D (tysC cy) A (GC cy ad u)) A) args s 0 0 A) (F0 m 0 ls []) := by
  intro H locs hw ls hl
  obtain ⟨hx, hb, hml, hown, hts, hr, hlo, hK, hA, hX⟩ := id K
  unfold m_X7_isStep at hm
  refine lv_iload_n hx hb dX7_isStep_0 rfl (lv_at hl 2 rfl) ?_
  obtain ⟨z30, hc29, hm⟩ := bindS hm
  refine g_calli (GG := GC cy ad) K hw (va_runS (As := [.int x2]) (rest := []) (g_fix K) (c_X7_isName l D cy ad H.size n S x2  hc29) (va_cwS 1 (g_hts K) gX7_isStep_X7_isName rfl rfl rfl (by decide +kernel) ⟨Nat.le_of_ble_eq_true rfl, Nat.le_of_ble_eq_true rfl⟩) ⟨g_blind rides_none, g_pre (X2 := fun _ _ => True) K hw (fun _ _ _ => trivial)⟩ rfl rfl hl.1 rfl (lv_room (Nat.le_of_ble_eq_true rfl)) dX7_isStep_1 ⟨Nat.le_of_ble_eq_true rfl, Nat.le_of_ble_eq_true rfl⟩) (fun r u H locs hp hw => ?_)
  obtain ⟨rfl, hu⟩ := hp
  rw [hu] at hw
  refine lv_if_ne (tgt := 9) hx hb dX7_isStep_4 (by decide) (fun c31 => ?_) (fun c31 => ?_)
  · replace hm := (if_pos c31).symm.trans hm
    refine lv_iload_n hx hb dX7_isStep_9 rfl (lv_at hl 1 rfl) ?_
    by_cases c32 : x1 = 0
    · replace hm := (if_pos c32).symm.trans hm
      refine lv_tableIn (off := 42) (tgt := 52) hx hb dX7_isStep_10 (by rw [c32]; decide) (by rw [c32]; decide) (by rw [c32]; rfl) (by decide) ?_
      refine lv_iconst (v := 1) hx hb dX7_isStep_52 (by decide) ?_
      exact g_zret (GG := GC cy ad) K hw rfl ⟨(Option.some.inj hm).symm, rfl⟩ dX7_isStep_53
    · replace hm := (if_neg c32).symm.trans hm
      by_cases c33 : x1 = 1
      · replace hm := (if_pos c33).symm.trans hm
        refine lv_tableIn (off := 44) (tgt := 54) hx hb dX7_isStep_10 (by rw [c33]; decide) (by rw [c33]; decide) (by rw [c33]; rfl) (by decide) ?_
        refine lv_iload_n hx hb dX7_isStep_54 rfl (lv_at hl 3 rfl) ?_
        obtain ⟨z35, hc34, hm⟩ := bindS hm
        refine g_calli (GG := GC cy ad) K hw (va_runS (As := [.int x3]) (rest := []) (g_fix K) (c_X7_isName l D cy ad H.size n S x3  hc34) (va_cwS 1 (g_hts K) gX7_isStep_X7_isName rfl rfl rfl (by decide +kernel) ⟨Nat.le_of_ble_eq_true rfl, Nat.le_of_ble_eq_true rfl⟩) ⟨g_blind rides_none, g_pre (X2 := fun _ _ => True) K hw (fun _ _ _ => trivial)⟩ rfl rfl hl.1 rfl (lv_room (Nat.le_of_ble_eq_true rfl)) dX7_isStep_55 ⟨Nat.le_of_ble_eq_true rfl, Nat.le_of_ble_eq_true rfl⟩) (fun r u H locs hp hw => ?_)
        obtain ⟨rfl, hu⟩ := hp
        rw [hu] at hw
        obtain ⟨h36, hm⟩ := chkS hm
        exact g_zret (GG := GC cy ad) K hw h36 ⟨(Option.some.inj hm).symm, rfl⟩ dX7_isStep_58
      · replace hm := (if_neg c33).symm.trans hm
        by_cases c37 : x1 = 2
        · replace hm := (if_pos c37).symm.trans hm
          refine lv_tableIn (off := 49) (tgt := 59) hx hb dX7_isStep_10 (by rw [c37]; decide) (by rw [c37]; decide) (by rw [c37]; rfl) (by decide) ?_
          refine lv_iload_n hx hb dX7_isStep_59 rfl (lv_at hl 3 rfl) ?_
          refine lv_iload hx hb dX7_isStep_60 (lv_at hl 4 rfl) ?_
          obtain ⟨z39, hc38, hm⟩ := bindS hm
          refine g_calli (GG := GC cy ad) K hw (va_runS (As := [.int x3, .int x4]) (rest := []) (g_fix K) (c_X7_isRange l D cy ad H.size n S x3 x4  hc38) (va_cwS 2 (g_hts K) gX7_isStep_X7_isRange rfl rfl rfl (by decide +kernel) ⟨Nat.le_of_ble_eq_true rfl, Nat.le_of_ble_eq_true rfl⟩) ⟨g_blind rides_none, g_pre (X2 := fun _ _ => True) K hw (fun _ _ _ => trivial)⟩ rfl rfl hl.1 rfl (lv_room (Nat.le_of_ble_eq_true rfl)) dX7_isStep_62 ⟨Nat.le_of_ble_eq_true rfl, Nat.le_of_ble_eq_true rfl⟩) (fun r u H locs hp hw => ?_)
          obtain ⟨rfl, hu⟩ := hp
          rw [hu] at hw
          refine lv_if_eq (tgt := 82) hx hb dX7_isStep_65 (by decide) (fun c40 => ?_) (fun c40 => ?_)
          · replace hm := (if_pos c40).symm.trans hm
            refine lv_iconst (v := 0) hx hb dX7_isStep_82 (by decide) ?_
            exact g_zret (GG := GC cy ad) K hw rfl ⟨(Option.some.inj hm).symm, rfl⟩ dX7_isStep_83
          · replace hm := (if_neg c40).symm.trans hm
            refine lv_aload_n hx hb dX7_isStep_68 rfl (lv_at hl 0 rfl) ?_
            refine g_get (ref := "MigrantHeap") (C := RX7) (T := TX7) (N := 11) (ci := 7) K in_X7_isStep_X7 hw 0 rfl (by decide : 0 < 1) rfl rfl 4 (by decide) (List.mem_of_getElem? (i := 1) rfl) rfl rfl dX7_isStep_69 ?_
            obtain ⟨z42, hc41, hm⟩ := bindS hm
            refine g_calli (GG := GC cy ad) K hw (va_runV (As := []) (rest := []) (g_fix K) (c_X1_isRight l D cy ad H.size n S 6 (by decide : 6 < 7) hc41) (cwV 0 (g_hts K) gX7_isStep_X1_isRight rfl rfl rfl (by decide +kernel) ⟨Nat.le_of_ble_eq_true rfl, Nat.le_of_ble_eq_true rfl⟩) ⟨g_blind rides_none, g_recv K hw 15 rfl (by decide : 6 < 7) rfl rfl, g_pre (X2 := fun _ _ => True) K hw (fun _ _ _ => trivial)⟩ rfl rfl hl.1 rfl (lv_room (Nat.le_of_ble_eq_true rfl)) dX7_isStep_72 ⟨Nat.le_of_ble_eq_true rfl, Nat.le_of_ble_eq_true rfl⟩) (fun r u H locs hp hw => ?_)
            obtain ⟨rfl, hu⟩ := hp
            rw [hu] at hw
            refine lv_if_eq (tgt := 82) hx hb dX7_isStep_75 (by decide) (fun c43 => ?_) (fun c43 => ?_)
            · replace hm := (if_pos c43).symm.trans hm
              refine lv_iconst (v := 0) hx hb dX7_isStep_82 (by decide) ?_
              exact g_zret (GG := GC cy ad) K hw rfl ⟨(Option.some.inj hm).symm, rfl⟩ dX7_isStep_83
            · replace hm := (if_neg c43).symm.trans hm
              refine lv_iconst (v := 1) hx hb dX7_isStep_78 (by decide) ?_
              refine lv_goto (tgt := 83) hx hb dX7_isStep_79 (by decide) ?_
              exact g_zret (GG := GC cy ad) K hw rfl ⟨(Option.some.inj hm).symm, rfl⟩ dX7_isStep_83
        · replace hm := (if_neg c37).symm.trans hm
          by_cases c44 : x1 = 3
          · replace hm := (if_pos c44).symm.trans hm
            refine lv_tableIn (off := 74) (tgt := 84) hx hb dX7_isStep_10 (by rw [c44]; decide) (by rw [c44]; decide) (by rw [c44]; rfl) (by decide) ?_
            refine lv_iload_n hx hb dX7_isStep_84 rfl (lv_at hl 3 rfl) ?_
            refine lv_iload hx hb dX7_isStep_85 (lv_at hl 4 rfl) ?_
            obtain ⟨z46, hc45, hm⟩ := bindS hm
            refine g_calli (GG := GC cy ad) K hw (va_runS (As := [.int x3, .int x4]) (rest := []) (g_fix K) (c_X7_isRange l D cy ad H.size n S x3 x4  hc45) (va_cwS 2 (g_hts K) gX7_isStep_X7_isRange rfl rfl rfl (by decide +kernel) ⟨Nat.le_of_ble_eq_true rfl, Nat.le_of_ble_eq_true rfl⟩) ⟨g_blind rides_none, g_pre (X2 := fun _ _ => True) K hw (fun _ _ _ => trivial)⟩ rfl rfl hl.1 rfl (lv_room (Nat.le_of_ble_eq_true rfl)) dX7_isStep_87 ⟨Nat.le_of_ble_eq_true rfl, Nat.le_of_ble_eq_true rfl⟩) (fun r u H locs hp hw => ?_)
            obtain ⟨rfl, hu⟩ := hp
            rw [hu] at hw
            refine lv_if_eq (tgt := 108) hx hb dX7_isStep_90 (by decide) (fun c47 => ?_) (fun c47 => ?_)
            · replace hm := (if_pos c47).symm.trans hm
              refine lv_iconst (v := 0) hx hb dX7_isStep_108 (by decide) ?_
              exact g_zret (GG := GC cy ad) K hw rfl ⟨(Option.some.inj hm).symm, rfl⟩ dX7_isStep_109
            · replace hm := (if_neg c47).symm.trans hm
              refine lv_iload hx hb dX7_isStep_93 (lv_at hl 5 rfl) ?_
              refine lv_if_eq (tgt := 104) hx hb dX7_isStep_95 (by decide) (fun c48 => ?_) (fun c48 => ?_)
              · replace hm := (if_pos c48).symm.trans hm
                refine lv_iconst (v := 1) hx hb dX7_isStep_104 (by decide) ?_
                refine lv_goto (tgt := 109) hx hb dX7_isStep_105 (by decide) ?_
                exact g_zret (GG := GC cy ad) K hw rfl ⟨(Option.some.inj hm).symm, rfl⟩ dX7_isStep_109
              · replace hm := (if_neg c48).symm.trans hm
                refine lv_iload hx hb dX7_isStep_98 (lv_at hl 5 rfl) ?_
                refine lv_iconst (v := 1) hx hb dX7_isStep_100 (by decide) ?_
                refine lv_icmp_ne (tgt := 108) hx hb dX7_isStep_101 (by decide) (fun c49 => ?_) (fun c49 => ?_)
                · replace hm := (if_pos c49).symm.trans hm
                  refine lv_iconst (v := 0) hx hb dX7_isStep_108 (by decide) ?_
                  exact g_zret (GG := GC cy ad) K hw rfl ⟨(Option.some.inj hm).symm, rfl⟩ dX7_isStep_109
                · replace hm := (if_neg (fun h => h c49)).symm.trans hm
                  refine lv_iconst (v := 1) hx hb dX7_isStep_104 (by decide) ?_
                  refine lv_goto (tgt := 109) hx hb dX7_isStep_105 (by decide) ?_
                  exact g_zret (GG := GC cy ad) K hw rfl ⟨(Option.some.inj hm).symm, rfl⟩ dX7_isStep_109
          · replace hm := (if_neg c44).symm.trans hm
            by_cases c50 : x1 = 4
            · replace hm := (if_pos c50).symm.trans hm
              refine lv_tableIn (off := 100) (tgt := 110) hx hb dX7_isStep_10 (by rw [c50]; decide) (by rw [c50]; decide) (by rw [c50]; rfl) (by decide) ?_
              refine lv_aload_n hx hb dX7_isStep_110 rfl (lv_at hl 0 rfl) ?_
              refine lv_iload_n hx hb dX7_isStep_111 rfl (lv_at hl 3 rfl) ?_
              obtain ⟨z52, hc51, hm⟩ := bindS hm
              refine g_calli (GG := GC cy ad) K hw (va_runV (As := [.int x3]) (rest := []) (g_fix K) (c_X7_isClass l D cy ad H.size n S x3  hc51) (cwV 1 (g_hts K) gX7_isStep_X7_isClass rfl rfl rfl (by decide +kernel) ⟨Nat.le_of_ble_eq_true rfl, Nat.le_of_ble_eq_true rfl⟩) ⟨g_blind rides_none, g_recv K hw 0 rfl (by decide : 0 < 1) rfl rfl, g_pre (X2 := fun _ _ => True) K hw (fun _ _ _ => trivial)⟩ rfl rfl hl.1 rfl (lv_room (Nat.le_of_ble_eq_true rfl)) dX7_isStep_112 ⟨Nat.le_of_ble_eq_true rfl, Nat.le_of_ble_eq_true rfl⟩) (fun r u H locs hp hw => ?_)
              obtain ⟨rfl, hu⟩ := hp
              rw [hu] at hw
              obtain ⟨h53, hm⟩ := chkS hm
              exact g_zret (GG := GC cy ad) K hw h53 ⟨(Option.some.inj hm).symm, rfl⟩ dX7_isStep_115
            · replace hm := (if_neg c50).symm.trans hm
              by_cases c54 : x1 = 5
              · replace hm := (if_pos c54).symm.trans hm
                refine lv_tableIn (off := 106) (tgt := 116) hx hb dX7_isStep_10 (by rw [c54]; decide) (by rw [c54]; decide) (by rw [c54]; rfl) (by decide) ?_
                refine lv_aload_n hx hb dX7_isStep_116 rfl (lv_at hl 0 rfl) ?_
                refine lv_iload_n hx hb dX7_isStep_117 rfl (lv_at hl 3 rfl) ?_
                obtain ⟨z56, hc55, hm⟩ := bindS hm
                refine g_calli (GG := GC cy ad) K hw (va_runV (As := [.int x3]) (rest := []) (g_fix K) (c_X7_isClass l D cy ad H.size n S x3  hc55) (cwV 1 (g_hts K) gX7_isStep_X7_isClass rfl rfl rfl (by decide +kernel) ⟨Nat.le_of_ble_eq_true rfl, Nat.le_of_ble_eq_true rfl⟩) ⟨g_blind rides_none, g_recv K hw 0 rfl (by decide : 0 < 1) rfl rfl, g_pre (X2 := fun _ _ => True) K hw (fun _ _ _ => trivial)⟩ rfl rfl hl.1 rfl (lv_room (Nat.le_of_ble_eq_true rfl)) dX7_isStep_118 ⟨Nat.le_of_ble_eq_true rfl, Nat.le_of_ble_eq_true rfl⟩) (fun r u H locs hp hw => ?_)
                obtain ⟨rfl, hu⟩ := hp
                rw [hu] at hw
                refine lv_if_eq (tgt := 142) hx hb dX7_isStep_121 (by decide) (fun c57 => ?_) (fun c57 => ?_)
                · replace hm := (if_pos c57).symm.trans hm
                  refine lv_iconst (v := 0) hx hb dX7_isStep_142 (by decide) ?_
                  exact g_zret (GG := GC cy ad) K hw rfl ⟨(Option.some.inj hm).symm, rfl⟩ dX7_isStep_143
                · replace hm := (if_neg c57).symm.trans hm
                  refine lv_iload hx hb dX7_isStep_124 (lv_at hl 4 rfl) ?_
                  refine lv_iconst (v := 1) hx hb dX7_isStep_126 (by decide) ?_
                  refine lv_icmp_lt (tgt := 142) hx hb dX7_isStep_127 (by decide) (fun c58 => ?_) (fun c58 => ?_)
                  · replace hm := (if_pos c58).symm.trans hm
                    refine lv_iconst (v := 0) hx hb dX7_isStep_142 (by decide) ?_
                    exact g_zret (GG := GC cy ad) K hw rfl ⟨(Option.some.inj hm).symm, rfl⟩ dX7_isStep_143
                  · replace hm := (if_neg c58).symm.trans hm
                    refine lv_iload hx hb dX7_isStep_130 (lv_at hl 4 rfl) ?_
                    refine lv_sipush (v := 1023) hx hb dX7_isStep_132 (by decide) ?_
                    refine lv_icmp_gt (tgt := 142) hx hb dX7_isStep_135 (by decide) (fun c59 => ?_) (fun c59 => ?_)
                    · replace hm := (if_pos c59).symm.trans hm
                      refine lv_iconst (v := 0) hx hb dX7_isStep_142 (by decide) ?_
                      exact g_zret (GG := GC cy ad) K hw rfl ⟨(Option.some.inj hm).symm, rfl⟩ dX7_isStep_143
                    · replace hm := (if_neg c59).symm.trans hm
                      refine lv_iconst (v := 1) hx hb dX7_isStep_138 (by decide) ?_
                      refine lv_goto (tgt := 143) hx hb dX7_isStep_139 (by decide) ?_
                      exact g_zret (GG := GC cy ad) K hw rfl ⟨(Option.some.inj hm).symm, rfl⟩ dX7_isStep_143
              · replace hm := (if_neg c54).symm.trans hm
                by_cases c60 : x1 = 6
                · replace hm := (if_pos c60).symm.trans hm
                  refine lv_tableIn (off := 42) (tgt := 52) hx hb dX7_isStep_10 (by rw [c60]; decide) (by rw [c60]; decide) (by rw [c60]; rfl) (by decide) ?_
                  refine lv_iconst (v := 1) hx hb dX7_isStep_52 (by decide) ?_
                  exact g_zret (GG := GC cy ad) K hw rfl ⟨(Option.some.inj hm).symm, rfl⟩ dX7_isStep_53
                · replace hm := (if_neg c60).symm.trans hm
                  have hsw61 : Int32.toInt x1 < 0 ∨ 6 < Int32.toInt x1 := by
                    refine sw_out (fun k h1 h2 => ?_)
                    rcases (show k = 0 ∨ k = 1 ∨ k = 2 ∨ k = 3 ∨ k = 4 ∨ k = 5 ∨ k = 6 by omega) with rfl | rfl | rfl | rfl | rfl | rfl | rfl
                    · exact c32
                    · exact c33
                    · exact c37
                    · exact c44
                    · exact c50
                    · exact c54
                    · exact c60
                  refine lv_tableOut (tgt := 144) hx hb dX7_isStep_10 hsw61 (by decide) ?_
                  refine lv_iconst (v := 0) hx hb dX7_isStep_144 (by decide) ?_
                  exact g_zret (GG := GC cy ad) K hw rfl ⟨(Option.some.inj hm).symm, rfl⟩ dX7_isStep_145
  · replace hm := (if_neg (fun h => h c31)).symm.trans hm
    refine lv_iconst (v := 0) hx hb dX7_isStep_7 (by decide) ?_
    exact g_zret (GG := GC cy ad) K hw rfl ⟨(Option.some.inj hm).symm, rfl⟩ dX7_isStep_8
set_option maxRecDepth 100000 in
set_option maxHeartbeats 4000000 in
theorem c_X7_isStep (l : Launch) (D : va_G) (cy : Nat → ClassId) (ad : Nat → Nat → Nat) (sz n : Nat) (S : CSt) (x1 : Int32) (x2 : Int32) (x3 : Int32) (x4 : Int32) (x5 : Int32)  {out : Int32} (hm : m_X7_isStep n S x1 x2 x3 x4 x5 = some out) : Met l yX7_isStep wsX7_isStep rm_X7_isStep (va_Pc [.ref (ad 0 0), .int x1, .int x2, .int x3, .int x4, .int x5] (Pre D (tysC cy) (GC cy ad S) (fun _ _ => True) sz)) (va_Qi (fun r (u : CSt) => out = r ∧ u = S) (fun u => Pst D (tysC cy) (AA (adrs (GC cy ad S)) sz) (GC cy ad u)) (AA (adrs (GC cy ad S)) sz)) 0 0 (AA (adrs (GC cy ad S)) sz) := by
  refine g_met (by decide) rfl (Nat.le_of_ble_eq_true rfl) ?_
  intro p e s m args below meth c K hw ls hl
  exact t_X7_isStep_0 (cy := cy) K n S x1 x2 x3 x4 x5  hm _ _ hw ls hl
end W_X7_isStep
section W_X1_copyFrom
variable {p : Program} {l : Launch} {e : Env} {s : State} {m : MethodId} {args : Array Value} {below : List Frame} {meth : Method} {c : Code} {D : va_G} {A : Nat → Prop} {cy : Nat → ClassId} {ad : Nat → Nat → Nat} {Q : State → Prop}
abbrev rm_X1_copyFrom : Room := { frames := 1, cells := 0, slots := 0, locals := 64 }
theorem in_X1_copyFrom_X1 : ∀ w ∈ u_ws RX1 TX1 2, w ∈ wsX1_copyFrom := by decide +kernel
set_option maxRecDepth 100000 in
set_option maxHeartbeats 4000000 in
theorem t_X1_copyFrom_0 (K : Cx p s m args meth c D A (tysC cy) RX1 cX1_copyFrom 2 none wsX1_copyFrom (fun _ _ => True)) (n : Nat) (S : CSt) (x0 : Nat) (x1 : Nat) (hb_x0 : x0 < 7) (hb_x1 : x1 < 7) {out : CSt} (hm : m_X1_copyFrom n S x0 x1 = some out) : ∀ (H : Heap) (locs : List Loc), Wd D A s.heap (GC cy ad S) H locs → ∀ ls : Array Slot, lv_has ls 2 [(0, .ref (ad 15 x0)), (1, .ref (ad 15 x1))] → W p l e rm_X1_copyFrom s m args below meth c H locs 0 0 (MQ below (va_Qv (fun (u : CSt) => out = u) (fun u => Pst D (tysC cy) A (GC cy ad u)) A) args s 0 0 A) (F0 m 0 ls []) := by
  intro H locs hw ls hl
  obtain ⟨hx, hb, hml, hown, hts, hr, hlo, hK, hA, hX⟩ := id K
  unfold m_X1_copyFrom at hm
  refine lv_aload_n hx hb dX1_copyFrom_0 rfl (lv_at hl 1 rfl) ?_
  refine g_get (ref := "MigrantHeap$Formula") (C := RX1) (T := TX1) (N := 2) (ci := 1) K in_X1_copyFrom_X1 hw 15 rfl hb_x1 rfl rfl 1 (by decide) (List.mem_of_getElem? (i := 1) rfl) rfl rfl dX1_copyFrom_1 ?_
  refine lv_iconst (v := 0) hx hb dX1_copyFrom_4 (by decide) ?_
  refine lv_aload_n hx hb dX1_copyFrom_5 rfl (lv_at hl 0 rfl) ?_
  refine g_get (ref := "MigrantHeap$Formula") (C := RX1) (T := TX1) (N := 2) (ci := 1) K in_X1_copyFrom_X1 hw 15 rfl hb_x0 rfl rfl 1 (by decide) (List.mem_of_getElem? (i := 1) rfl) rfl rfl dX1_copyFrom_6 ?_
  refine lv_iconst (v := 0) hx hb dX1_copyFrom_9 (by decide) ?_
  refine lv_bipush (v := 12) hx hb dX1_copyFrom_10 (by decide) ?_
  refine g_copy K hw (List.mem_of_getElem? (i := 2) rfl) (List.mem_of_getElem? (i := 3) rfl) (List.mem_of_getElem? (i := 4) rfl) (List.mem_of_getElem? (i := 5) rfl) hl.1 16 16 0 rfl hb_x1 rfl hb_x0 rfl rfl rfl (by decide) (by decide) (by decide) (by decide) (by decide) (Nat.le_of_ble_eq_true rfl) (by decide) dX1_copyFrom_12 (eR_21 cy ad S x0 _) (fun H locs hw => ?_)
  obtain ⟨S5, hS5, hm⟩ := nm_ex hm
  rw [← hS5] at hw
  refine lv_aload_n hx hb dX1_copyFrom_15 rfl (lv_at hl 0 rfl) ?_
  refine lv_aload_n hx hb dX1_copyFrom_16 rfl (lv_at hl 1 rfl) ?_
  refine g_get (ref := "MigrantHeap$Formula") (C := RX1) (T := TX1) (N := 2) (ci := 1) K in_X1_copyFrom_X1 hw 15 rfl hb_x1 rfl rfl 0 (by decide) (List.mem_of_getElem? (i := 6) rfl) rfl rfl dX1_copyFrom_17 ?_
  refine g_put (v := .int (S5.1 20 x1 0)) (ty := .int) (ref := "MigrantHeap$Formula") (C := RX1) (T := TX1) (N := 2) (ci := 1) K in_X1_copyFrom_X1 tyX1 tyX1_ok nmX1 hw 15 rfl hb_x0 rfl rfl 0 (by decide) (List.mem_of_getElem? (i := 6) rfl) rfl rfl (by decide +kernel) rfl rfl (Nat.le_of_ble_eq_true rfl) dX1_copyFrom_20 (eC_20 cy ad S5 x0 (S5.1 20 x1 0)) (fun H locs hw => ?_)
  obtain ⟨S6, hS6, hm⟩ := nm_ex hm
  rw [← hS6] at hw
  exact g_vret (GG := GC cy ad) K hw (Option.some.inj hm).symm dX1_copyFrom_23
set_option maxRecDepth 100000 in
set_option maxHeartbeats 4000000 in
theorem c_X1_copyFrom (l : Launch) (D : va_G) (cy : Nat → ClassId) (ad : Nat → Nat → Nat) (sz n : Nat) (S : CSt) (x0 : Nat) (x1 : Nat) (hb_x0 : x0 < 7) (hb_x1 : x1 < 7) {out : CSt} (hm : m_X1_copyFrom n S x0 x1 = some out) : Met l yX1_copyFrom wsX1_copyFrom rm_X1_copyFrom (va_Pc [.ref (ad 15 x0), .ref (ad 15 x1)] (Pre D (tysC cy) (GC cy ad S) (fun _ _ => True) sz)) (va_Qv (fun (u : CSt) => out = u) (fun u => Pst D (tysC cy) (AA (adrs (GC cy ad S)) sz) (GC cy ad u)) (AA (adrs (GC cy ad S)) sz)) 0 0 (AA (adrs (GC cy ad S)) sz) := by
  refine g_met (by decide) rfl (Nat.le_of_ble_eq_true rfl) ?_
  intro p e s m args below meth c K hw ls hl
  exact t_X1_copyFrom_0 (cy := cy) K n S x0 x1 hb_x0 hb_x1 hm _ _ hw ls hl
end W_X1_copyFrom
