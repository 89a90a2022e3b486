section W_X3_value
variable {p : Program} {l : Launch} {e : Env} {s : State} {m : MethodId} {args : Array Value} {below : List Frame} {meth : Method} {c : Code} {D : va_G} {A : Nat → Prop} {cy : Nat → ClassId} {ad : Nat → Nat → Nat} {Q : State → Prop}
abbrev rm_X3_value : Room := { frames := 0, cells := 0, slots := 0, locals := 0 }
theorem in_X3_value_X3 : ∀ w ∈ u_ws RX3 TX3 3, w ∈ wsX3_value := by decide +kernel
set_option maxRecDepth 100000 in
set_option maxHeartbeats 4000000 in
theorem t_X3_value_0 (K : Cx p s m args meth c D A (tysC cy) RX3 cX3_value 1 (some .int) wsX3_value (fun _ _ => True)) (n : Nat) (S : CSt)   {out : Int32} (hm : m_X3_value n S  = some out) : ∀ (H : Heap) (locs : List Loc), Wd D A s.heap (GC cy ad S) H locs → ∀ ls : Array Slot, lv_has ls 1 [(0, .ref (ad 19 0))] → W p l e rm_X3_value s m args below meth c H locs 0 0 (MQ below (va_Qi (fun r (u : CSt) => out = r ∧ u = S) (fun u => Pst D (tysC cy) A (GC cy ad u)) A) args s 0 0 A) (F0 m 0 ls []) := by
  intro H locs hw ls hl
  obtain ⟨hx, hb, hml, hown, hts, hr, hlo, hK, hA, hX⟩ := id K
  unfold m_X3_value at hm
  refine lv_aload_n hx hb dX3_value_0 rfl (lv_at hl 0 rfl) ?_
  refine g_get (ref := "MigrantHeap$Pile") (C := RX3) (T := TX3) (N := 3) (ci := 3) K in_X3_value_X3 hw 19 rfl (by decide : 0 < 1) rfl rfl 1 (by decide) (List.mem_of_getElem? (i := 1) rfl) rfl rfl dX3_value_1 ?_
  refine lv_iconst (v := 0) hx hb dX3_value_4 (by decide) ?_
  obtain ⟨h3, hm⟩ := chkS hm
  refine g_lald K hw 20 1 rfl (by decide) rfl rfl h3 dX3_value_5 ?_
  refine lv_l2i hx hb dX3_value_6 rfl ?_
  exact g_iret (GG := GC cy ad) K hw ⟨(Option.some.inj hm).symm, rfl⟩ dX3_value_7
set_option maxRecDepth 100000 in
set_option maxHeartbeats 4000000 in
theorem c_X3_value (l : Launch) (D : va_G) (cy : Nat → ClassId) (ad : Nat → Nat → Nat) (sz n : Nat) (S : CSt)   {out : Int32} (hm : m_X3_value n S  = some out) : Met l yX3_value wsX3_value rm_X3_value (va_Pc [.ref (ad 19 0)] (Pre D (tysC cy) (GC cy ad S) (fun _ _ => True) sz)) (va_Qi (fun r (u : CSt) => out = r ∧ u = S) (fun u => Pst D (tysC cy) (AA (adrs (GC cy ad S)) sz) (GC cy ad u)) (AA (adrs (GC cy ad S)) sz)) 0 0 (AA (adrs (GC cy ad S)) sz) := by
  refine g_met (by decide) rfl (Nat.le_of_ble_eq_true rfl) ?_
  intro p e s m args below meth c K hw ls hl
  exact t_X3_value_0 (cy := cy) K n S   hm _ _ hw ls hl
end W_X3_value
section W_X4_isReference
variable {p : Program} {l : Launch} {e : Env} {s : State} {m : MethodId} {args : Array Value} {below : List Frame} {meth : Method} {c : Code} {D : va_G} {A : Nat → Prop} {cy : Nat → ClassId} {ad : Nat → Nat → Nat} {Q : State → Prop}
abbrev rm_X4_isReference : Room := { frames := 1, cells := 0, slots := 0, locals := 21 }
theorem in_X4_isReference_X4 : ∀ w ∈ u_ws RX4 TX4 6, w ∈ wsX4_isReference := by decide +kernel
set_option maxRecDepth 100000 in
set_option maxHeartbeats 4000000 in
theorem t_X4_isReference_0 (K : Cx p s m args meth c D A (tysC cy) RX4 cX4_isReference 2 (some .boolean) wsX4_isReference (fun _ _ => True)) (n : Nat) (S : CSt) (x0 : Nat) (x1 : Int32) (hb_x0 : x0 < 9) {out : Int32} (hm : m_X4_isReference n S x0 x1 = some out) : ∀ (H : Heap) (locs : List Loc), Wd D A s.heap (GC cy ad S) H locs → ∀ ls : Array Slot, lv_has ls 2 [(0, .ref (ad 3 x0)), (1, .int x1)] → W p l e rm_X4_isReference s m args below meth c H locs 0 0 (MQ below (va_Qi (fun r (u : CSt) => out = r ∧ u = S) (fun u => Pst D (tysC cy) A (GC cy ad u)) A) args s 0 0 A) (F0 m 0 ls []) := by
  intro H locs hw ls hl
  obtain ⟨hx, hb, hml, hown, hts, hr, hlo, hK, hA, hX⟩ := id K
  unfold m_X4_isReference at hm
  refine lv_aload_n hx hb dX4_isReference_0 rfl (lv_at hl 0 rfl) ?_
  refine lv_iload_n hx hb dX4_isReference_1 rfl (lv_at hl 1 rfl) ?_
  obtain ⟨z8, hc7, hm⟩ := bindS hm
  refine g_calli (GG := GC cy ad) K hw (va_runV (As := [.int x1]) (rest := []) (g_fix K) (c_X4_isThere l D cy ad H.size n S x0 x1 hb_x0 hc7) (cwV 1 (g_hts K) gX4_isReference_X4_isThere rfl rfl rfl (by decide +kernel) ⟨Nat.le_of_ble_eq_true rfl, Nat.le_of_ble_eq_true rfl⟩) ⟨g_blind rides_none, g_recv K hw 3 rfl hb_x0 rfl rfl, g_pre (X2 := fun _ _ => True) K hw (fun _ _ _ => trivial)⟩ rfl rfl hl.1 rfl (lv_room (Nat.le_of_ble_eq_true rfl)) dX4_isReference_2 ⟨Nat.le_of_ble_eq_true rfl, Nat.le_of_ble_eq_true rfl⟩) (fun r u H locs hp hw => ?_)
  obtain ⟨rfl, hu⟩ := hp
  rw [hu] at hw
  refine lv_if_eq (tgt := 21) hx hb dX4_isReference_5 (by decide) (fun c9 => ?_) (fun c9 => ?_)
  · replace hm := (if_pos c9).symm.trans hm
    refine lv_iconst (v := 0) hx hb dX4_isReference_21 (by decide) ?_
    exact g_zret (GG := GC cy ad) K hw rfl ⟨(Option.some.inj hm).symm, rfl⟩ dX4_isReference_22
  · replace hm := (if_neg c9).symm.trans hm
    refine lv_aload_n hx hb dX4_isReference_8 rfl (lv_at hl 0 rfl) ?_
    refine g_get (ref := "MigrantHeap$Shape") (C := RX4) (T := TX4) (N := 6) (ci := 4) K in_X4_isReference_X4 hw 3 rfl hb_x0 rfl rfl 2 (by decide) (List.mem_of_getElem? (i := 1) rfl) rfl rfl dX4_isReference_9 ?_
    refine lv_iload_n hx hb dX4_isReference_12 rfl (lv_at hl 1 rfl) ?_
    obtain ⟨h10, hm⟩ := chkS hm
    refine g_iald K hw 5 0 rfl hb_x0 rfl rfl h10 dX4_isReference_13 ?_
    refine lv_if_eq (tgt := 21) hx hb dX4_isReference_14 (by decide) (fun c11 => ?_) (fun c11 => ?_)
    · replace hm := (if_pos c11).symm.trans hm
      refine lv_iconst (v := 0) hx hb dX4_isReference_21 (by decide) ?_
      exact g_zret (GG := GC cy ad) K hw rfl ⟨(Option.some.inj hm).symm, rfl⟩ dX4_isReference_22
    · replace hm := (if_neg c11).symm.trans hm
      refine lv_iconst (v := 1) hx hb dX4_isReference_17 (by decide) ?_
      refine lv_goto (tgt := 22) hx hb dX4_isReference_18 (by decide) ?_
      exact g_zret (GG := GC cy ad) K hw rfl ⟨(Option.some.inj hm).symm, rfl⟩ dX4_isReference_22
set_option maxRecDepth 100000 in
set_option maxHeartbeats 4000000 in
theorem c_X4_isReference (l : Launch) (D : va_G) (cy : Nat → ClassId) (ad : Nat → Nat → Nat) (sz n : Nat) (S : CSt) (x0 : Nat) (x1 : Int32) (hb_x0 : x0 < 9) {out : Int32} (hm : m_X4_isReference n S x0 x1 = some out) : Met l yX4_isReference wsX4_isReference rm_X4_isReference (va_Pc [.ref (ad 3 x0), .int x1] (Pre D (tysC cy) (GC cy ad S) (fun _ _ => True) sz)) (va_Qi (fun r (u : CSt) => out = r ∧ u = S) (fun u => Pst D (tysC cy) (AA (adrs (GC cy ad S)) sz) (GC cy ad u)) (AA (adrs (GC cy ad S)) sz)) 0 0 (AA (adrs (GC cy ad S)) sz) := by
  refine g_met (by decide) rfl (Nat.le_of_ble_eq_true rfl) ?_
  intro p e s m args below meth c K hw ls hl
  exact t_X4_isReference_0 (cy := cy) K n S x0 x1 hb_x0 hm _ _ hw ls hl
end W_X4_isReference
section W_X4_isOwning
variable {p : Program} {l : Launch} {e : Env} {s : State} {m : MethodId} {args : Array Value} {below : List Frame} {meth : Method} {c : Code} {D : va_G} {A : Nat → Prop} {cy : Nat → ClassId} {ad : Nat → Nat → Nat} {Q : State → Prop}
abbrev rm_X4_isOwning : Room := { frames := 1, cells := 0, slots := 0, locals := 21 }
theorem in_X4_isOwning_X4 : ∀ w ∈ u_ws RX4 TX4 6, w ∈ wsX4_isOwning := by decide +kernel
set_option maxRecDepth 100000 in
set_option maxHeartbeats 4000000 in
theorem t_X4_isOwning_0 (K : Cx p s m args meth c D A (tysC cy) RX4 cX4_isOwning 2 (some .boolean) wsX4_isOwning (fun _ _ => True)) (n : Nat) (S : CSt) (x0 : Nat) (x1 : Int32) (hb_x0 : x0 < 9) {out : Int32} (hm : m_X4_isOwning n S x0 x1 = some out) : ∀ (H : Heap) (locs : List Loc), Wd D A s.heap (GC cy ad S) H locs → ∀ ls : Array Slot, lv_has ls 2 [(0, .ref (ad 3 x0)), (1, .int x1)] → W p l e rm_X4_isOwning s m args below meth c H locs 0 0 (MQ below (va_Qi (fun r (u : CSt) => out = r ∧ u = S) (fun u => Pst D (tysC cy) A (GC cy ad u)) A) args s 0 0 A) (F0 m 0 ls []) := by
  intro H locs hw ls hl
  obtain ⟨hx, hb, hml, hown, hts, hr, hlo, hK, hA, hX⟩ := id K
  unfold m_X4_isOwning at hm
  refine lv_aload_n hx hb dX4_isOwning_0 rfl (lv_at hl 0 rfl) ?_
  refine lv_iload_n hx hb dX4_isOwning_1 rfl (lv_at hl 1 rfl) ?_
  obtain ⟨z8, hc7, hm⟩ := bindS hm
  refine g_calli (GG := GC cy ad) K hw (va_runV (As := [.int x1]) (rest := []) (g_fix K) (c_X4_isThere l D cy ad H.size n S x0 x1 hb_x0 hc7) (cwV 1 (g_hts K) gX4_isOwning_X4_isThere rfl rfl rfl (by decide +kernel) ⟨Nat.le_of_ble_eq_true rfl, Nat.le_of_ble_eq_true rfl⟩) ⟨g_blind rides_none, g_recv K hw 3 rfl hb_x0 rfl rfl, g_pre (X2 := fun _ _ => True) K hw (fun _ _ _ => trivial)⟩ rfl rfl hl.1 rfl (lv_room (Nat.le_of_ble_eq_true rfl)) dX4_isOwning_2 ⟨Nat.le_of_ble_eq_true rfl, Nat.le_of_ble_eq_true rfl⟩) (fun r u H locs hp hw => ?_)
  obtain ⟨rfl, hu⟩ := hp
  rw [hu] at hw
  refine lv_if_eq (tgt := 22) hx hb dX4_isOwning_5 (by decide) (fun c9 => ?_) (fun c9 => ?_)
  · replace hm := (if_pos c9).symm.trans hm
    refine lv_iconst (v := 0) hx hb dX4_isOwning_22 (by decide) ?_
    exact g_zret (GG := GC cy ad) K hw rfl ⟨(Option.some.inj hm).symm, rfl⟩ dX4_isOwning_23
  · replace hm := (if_neg c9).symm.trans hm
    refine lv_aload_n hx hb dX4_isOwning_8 rfl (lv_at hl 0 rfl) ?_
    refine g_get (ref := "MigrantHeap$Shape") (C := RX4) (T := TX4) (N := 6) (ci := 4) K in_X4_isOwning_X4 hw 3 rfl hb_x0 rfl rfl 2 (by decide) (List.mem_of_getElem? (i := 1) rfl) rfl rfl dX4_isOwning_9 ?_
    refine lv_iload_n hx hb dX4_isOwning_12 rfl (lv_at hl 1 rfl) ?_
    obtain ⟨h10, hm⟩ := chkS hm
    refine g_iald K hw 5 0 rfl hb_x0 rfl rfl h10 dX4_isOwning_13 ?_
    refine lv_iconst (v := 2) hx hb dX4_isOwning_14 (by decide) ?_
    refine lv_icmp_ne (tgt := 22) hx hb dX4_isOwning_15 (by decide) (fun c11 => ?_) (fun c11 => ?_)
    · replace hm := (if_pos c11).symm.trans hm
      refine lv_iconst (v := 0) hx hb dX4_isOwning_22 (by decide) ?_
      exact g_zret (GG := GC cy ad) K hw rfl ⟨(Option.some.inj hm).symm, rfl⟩ dX4_isOwning_23
    · replace hm := (if_neg (fun h => h c11)).symm.trans hm
      refine lv_iconst (v := 1) hx hb dX4_isOwning_18 (by decide) ?_
      refine lv_goto (tgt := 23) hx hb dX4_isOwning_19 (by decide) ?_
      exact g_zret (GG := GC cy ad) K hw rfl ⟨(Option.some.inj hm).symm, rfl⟩ dX4_isOwning_23
set_option maxRecDepth 100000 in
set_option maxHeartbeats 4000000 in
theorem c_X4_isOwning (l : Launch) (D : va_G) (cy : Nat → ClassId) (ad : Nat → Nat → Nat) (sz n : Nat) (S : CSt) (x0 : Nat) (x1 : Int32) (hb_x0 : x0 < 9) {out : Int32} (hm : m_X4_isOwning n S x0 x1 = some out) : Met l yX4_isOwning wsX4_isOwning rm_X4_isOwning (va_Pc [.ref (ad 3 x0), .int x1] (Pre D (tysC cy) (GC cy ad S) (fun _ _ => True) sz)) (va_Qi (fun r (u : CSt) => out = r ∧ u = S) (fun u => Pst D (tysC cy) (AA (adrs (GC cy ad S)) sz) (GC cy ad u)) (AA (adrs (GC cy ad S)) sz)) 0 0 (AA (adrs (GC cy ad S)) sz) := by
  refine g_met (by decide) rfl (Nat.le_of_ble_eq_true rfl) ?_
  intro p e s m args below meth c K hw ls hl
  exact t_X4_isOwning_0 (cy := cy) K n S x0 x1 hb_x0 hm _ _ hw ls hl
end W_X4_isOwning
section W_X4_rangeIsWithin
variable {p : Program} {l : Launch} {e : Env} {s : State} {m : MethodId} {args : Array Value} {below : List Frame} {meth : Method} {c : Code} {D : va_G} {A : Nat → Prop} {cy : Nat → ClassId} {ad : Nat → Nat → Nat} {Q : State → Prop}
abbrev rm_X4_rangeIsWithin : Room := { frames := 1, cells := 0, slots := 0, locals := 21 }
theorem in_X4_rangeIsWithin_X4 : ∀ w ∈ u_ws RX4 TX4 6, w ∈ wsX4_rangeIsWithin := by decide +kernel
set_option maxRecDepth 100000 in
set_option maxHeartbeats 4000000 in
theorem t_X4_rangeIsWithin_0 (K : Cx p s m args meth c D A (tysC cy) RX4 cX4_rangeIsWithin 4 (some .boolean) wsX4_rangeIsWithin (fun _ _ => True)) (n : Nat) (S : CSt) (x0 : Nat) (x1 : Int32) (x2 : Int32) (x3 : Int32) (hb_x0 : x0 < 9) {out : Int32} (hm : m_X4_rangeIsWithin n S x0 x1 x2 x3 = some out) : ∀ (H : Heap) (locs : List Loc), Wd D A s.heap (GC cy ad S) H locs → ∀ ls : Array Slot, lv_has ls 4 [(0, .ref (ad 3 x0)), (1, .int x1), (2, .int x2), (3, .int x3)] → W p l e rm_X4_rangeIsWithin s m args below meth c H locs 0 0 (MQ below (va_Qi (fun r (u : CSt) => out = r ∧ u = S) (fun u => Pst D (tysC cy) A (GC cy ad u)) A) args s 0 0 A) (F0 m 0 ls []) := by
  intro H locs hw ls hl
  obtain ⟨hx, hb, hml, hown, hts, hr, hlo, hK, hA, hX⟩ := id K
  unfold m_X4_rangeIsWithin at hm
  refine lv_aload_n hx hb dX4_rangeIsWithin_0 rfl (lv_at hl 0 rfl) ?_
  refine lv_iload_n hx hb dX4_rangeIsWithin_1 rfl (lv_at hl 1 rfl) ?_
  obtain ⟨z10, hc9, hm⟩ := bindS hm
  refine g_calli (GG := GC cy ad) K hw (va_runV (As := [.int x1]) (rest := []) (g_fix K) (c_X4_isThere l D cy ad H.size n S x0 x1 hb_x0 hc9) (cwV 1 (g_hts K) gX4_rangeIsWithin_X4_isThere rfl rfl rfl (by decide +kernel) ⟨Nat.le_of_ble_eq_true rfl, Nat.le_of_ble_eq_true rfl⟩) ⟨g_blind rides_none, g_recv K hw 3 rfl hb_x0 rfl rfl, g_pre (X2 := fun _ _ => True) K hw (fun _ _ _ => trivial)⟩ rfl rfl hl.1 rfl (lv_room (Nat.le_of_ble_eq_true rfl)) dX4_rangeIsWithin_2 ⟨Nat.le_of_ble_eq_true rfl, Nat.le_of_ble_eq_true rfl⟩) (fun r u H locs hp hw => ?_)
  obtain ⟨rfl, hu⟩ := hp
  rw [hu] at hw
  refine lv_if_eq (tgt := 32) hx hb dX4_rangeIsWithin_5 (by decide) (fun c11 => ?_) (fun c11 => ?_)
  · replace hm := (if_pos c11).symm.trans hm
    refine lv_iconst (v := 0) hx hb dX4_rangeIsWithin_32 (by decide) ?_
    exact g_zret (GG := GC cy ad) K hw rfl ⟨(Option.some.inj hm).symm, rfl⟩ dX4_rangeIsWithin_33
  · replace hm := (if_neg c11).symm.trans hm
    refine lv_aload_n hx hb dX4_rangeIsWithin_8 rfl (lv_at hl 0 rfl) ?_
    refine g_get (ref := "MigrantHeap$Shape") (C := RX4) (T := TX4) (N := 6) (ci := 4) K in_X4_rangeIsWithin_X4 hw 3 rfl hb_x0 rfl rfl 3 (by decide) (List.mem_of_getElem? (i := 1) rfl) rfl rfl dX4_rangeIsWithin_9 ?_
    refine lv_iload_n hx hb dX4_rangeIsWithin_12 rfl (lv_at hl 1 rfl) ?_
    obtain ⟨h12, hm⟩ := chkS hm
    refine g_iald K hw 6 0 rfl hb_x0 rfl rfl h12 dX4_rangeIsWithin_13 ?_
    refine lv_iload_n hx hb dX4_rangeIsWithin_14 rfl (lv_at hl 2 rfl) ?_
    refine lv_icmp_lt (tgt := 32) hx hb dX4_rangeIsWithin_15 (by decide) (fun c13 => ?_) (fun c13 => ?_)
    · replace hm := (if_pos c13).symm.trans hm
      refine lv_iconst (v := 0) hx hb dX4_rangeIsWithin_32 (by decide) ?_
      exact g_zret (GG := GC cy ad) K hw rfl ⟨(Option.some.inj hm).symm, rfl⟩ dX4_rangeIsWithin_33
    · replace hm := (if_neg c13).symm.trans hm
      refine lv_aload_n hx hb dX4_rangeIsWithin_18 rfl (lv_at hl 0 rfl) ?_
      refine g_get (ref := "MigrantHeap$Shape") (C := RX4) (T := TX4) (N := 6) (ci := 4) K in_X4_rangeIsWithin_X4 hw 3 rfl hb_x0 rfl rfl 4 (by decide) (List.mem_of_getElem? (i := 2) rfl) rfl rfl dX4_rangeIsWithin_19 ?_
      refine lv_iload_n hx hb dX4_rangeIsWithin_22 rfl (lv_at hl 1 rfl) ?_
      obtain ⟨h14, hm⟩ := chkS hm
      refine g_iald K hw 7 0 rfl hb_x0 rfl rfl h14 dX4_rangeIsWithin_23 ?_
      refine lv_iload_n hx hb dX4_rangeIsWithin_24 rfl (lv_at hl 3 rfl) ?_
      refine lv_icmp_gt (tgt := 32) hx hb dX4_rangeIsWithin_25 (by decide) (fun c15 => ?_) (fun c15 => ?_)
      · replace hm := (if_pos c15).symm.trans hm
        refine lv_iconst (v := 0) hx hb dX4_rangeIsWithin_32 (by decide) ?_
        exact g_zret (GG := GC cy ad) K hw rfl ⟨(Option.some.inj hm).symm, rfl⟩ dX4_rangeIsWithin_33
      · replace hm := (if_neg c15).symm.trans hm
        refine lv_iconst (v := 1) hx hb dX4_rangeIsWithin_28 (by decide) ?_
        refine lv_goto (tgt := 33) hx hb dX4_rangeIsWithin_29 (by decide) ?_
        exact g_zret (GG := GC cy ad) K hw rfl ⟨(Option.some.inj hm).symm, rfl⟩ dX4_rangeIsWithin_33
set_option maxRecDepth 100000 in
set_option maxHeartbeats 4000000 in
theorem c_X4_rangeIsWithin (l : Launch) (D : va_G) (cy : Nat → ClassId) (ad : Nat → Nat → Nat) (sz n : Nat) (S : CSt) (x0 : Nat) (x1 : Int32) (x2 : Int32) (x3 : Int32) (hb_x0 : x0 < 9) {out : Int32} (hm : m_X4_rangeIsWithin n S x0 x1 x2 x3 = some out) : Met l yX4_rangeIsWithin wsX4_rangeIsWithin rm_X4_rangeIsWithin (va_Pc [.ref (ad 3 x0), .int x1, .int x2, .int x3] (Pre D (tysC cy) (GC cy ad S) (fun _ _ => True) sz)) (va_Qi (fun r (u : CSt) => out = r ∧ u = S) (fun u => Pst D (tysC cy) (AA (adrs (GC cy ad S)) sz) (GC cy ad u)) (AA (adrs (GC cy ad S)) sz)) 0 0 (AA (adrs (GC cy ad S)) sz) := by
  refine g_met (by decide) rfl (Nat.le_of_ble_eq_true rfl) ?_
  intro p e s m args below meth c K hw ls hl
  exact t_X4_rangeIsWithin_0 (cy := cy) K n S x0 x1 x2 x3 hb_x0 hm _ _ hw ls hl
end W_X4_rangeIsWithin
section W_X4_hasReferences
variable {p : Program} {l : Launch} {e : Env} {s : State} {m : MethodId} {args : Array Value} {below : List Frame} {meth : Method} {c : Code} {D : va_G} {A : Nat → Prop} {cy : Nat → ClassId} {ad : Nat → Nat → Nat} {Q : State → Prop}
abbrev rm_X4_hasReferences : Room := { frames := 0, cells := 0, slots := 0, locals := 0 }
theorem in_X4_hasReferences_X4 : ∀ w ∈ u_ws RX4 TX4 6, w ∈ wsX4_hasReferences := by decide +kernel
set_option maxRecDepth 100000 in
set_option maxHeartbeats 4000000 in
theorem t_X4_hasReferences_L2 (K : Cx p s m args meth c D A (tysC cy) RX4 cX4_hasReferences 2 (some .boolean) wsX4_hasReferences (fun _ _ => True)) (n : Nat) (S : CSt) (x0 : Nat) (hb_x0 : x0 < 9) (z : (Unit ⊕ Unit)) (hE0 : ∀ w : Unit, z = .inl w → ∀ (H : Heap) (locs : List Loc), Wd D A s.heap (GC cy ad S) H locs → ∀ ls : Array Slot, lv_has ls 2 [] → W p l e rm_X4_hasReferences s m args below meth c H locs 0 0 Q (F0 m 19 ls [])) (hE1 : ∀ w : Unit, z = .inr w → ∀ (H : Heap) (locs : List Loc), Wd D A s.heap (GC cy ad S) H locs → ∀ ls : Array Slot, lv_has ls 2 [] → W p l e rm_X4_hasReferences s m args below meth c H locs 0 0 Q (F0 m 27 ls [])) : ∀ (x : Int32), lpO (b_X4_hasReferences_2 n S x0) n x = some z → (fun (x : Int32) => ∀ (H : Heap) (locs : List Loc), Wd D A s.heap (GC cy ad S) H locs → ∀ ls : Array Slot, lv_has ls 2 [(0, .ref (ad 3 x0)), (1, .int x)] → W p l e rm_X4_hasReferences s m args below meth c H locs 0 0 Q (F0 m 2 ls [])) x := by
  intro x hx0
  refine lpO_ind2 (P := fun (x : Int32) => ∀ (H : Heap) (locs : List Loc), Wd D A s.heap (GC cy ad S) H locs → ∀ ls : Array Slot, lv_has ls 2 [(0, .ref (ad 3 x0)), (1, .int x)] → W p l e rm_X4_hasReferences s m args below meth c H locs 0 0 Q (F0 m 2 ls [])) (z := z) ?_ n x hx0
  clear hx0 x
  intro x out hm hg H locs hw ls hl 
  obtain ⟨hx, hb, hml, hown, hts, hr, hlo, hK, hA, hX⟩ := id K
  unfold b_X4_hasReferences_2 at hm
  refine lv_iload_n hx hb dX4_hasReferences_2 rfl (lv_at hl 1 rfl) ?_
  refine lv_aload_n hx hb dX4_hasReferences_3 rfl (lv_at hl 0 rfl) ?_
  refine g_get (ref := "MigrantHeap$Shape") (C := RX4) (T := TX4) (N := 6) (ci := 4) K in_X4_hasReferences_X4 hw 3 rfl hb_x0 rfl rfl 0 (by decide) (List.mem_of_getElem? (i := 1) rfl) rfl rfl dX4_hasReferences_4 ?_
  refine lv_icmp_ge (tgt := 27) hx hb dX4_hasReferences_7 (by decide) (fun c7 => ?_) (fun c7 => ?_)
  · replace hm := (if_pos c7).symm.trans hm
    obtain rfl := Option.some.inj hm
    exact hE1 _ hg.symm H locs hw ls (lv_sub hl [] rfl)
  · replace hm := (if_neg c7).symm.trans hm
    refine lv_aload_n hx hb dX4_hasReferences_10 rfl (lv_at hl 0 rfl) ?_
    refine g_get (ref := "MigrantHeap$Shape") (C := RX4) (T := TX4) (N := 6) (ci := 4) K in_X4_hasReferences_X4 hw 3 rfl hb_x0 rfl rfl 2 (by decide) (List.mem_of_getElem? (i := 2) rfl) rfl rfl dX4_hasReferences_11 ?_
    refine lv_iload_n hx hb dX4_hasReferences_14 rfl (lv_at hl 1 rfl) ?_
    obtain ⟨h8, hm⟩ := chkS hm
    refine g_iald K hw 5 0 rfl hb_x0 rfl rfl h8 dX4_hasReferences_15 ?_
    refine lv_if_eq (tgt := 21) hx hb dX4_hasReferences_16 (by decide) (fun c9 => ?_) (fun c9 => ?_)
    · replace hm := (if_pos c9).symm.trans hm
      obtain ⟨x10, hx10, hm⟩ := nm_ex hm
      refine lv_iinc (v := x10) (lv' := [(1, .int x10), (0, .ref (ad 3 x0))]) hx hb dX4_hasReferences_21 hl (k := 1) rfl (by rw [hx10]; rfl) (by decide) rfl (fun ls hl => ?_)
      refine lv_goto (tgt := 2) hx hb dX4_hasReferences_24 (by decide) ?_
      obtain rfl := Option.some.inj hm
      exact hg H locs hw ls (lv_sub hl [1, 0] rfl)
    · replace hm := (if_neg c9).symm.trans hm
      obtain rfl := Option.some.inj hm
      exact hE0 _ hg.symm H locs hw ls (lv_sub hl [] rfl)
set_option maxRecDepth 100000 in
set_option maxHeartbeats 4000000 in
theorem t_X4_hasReferences_0 (K : Cx p s m args meth c D A (tysC cy) RX4 cX4_hasReferences 2 (some .boolean) wsX4_hasReferences (fun _ _ => True)) (n : Nat) (S : CSt) (x0 : Nat) (hb_x0 : x0 < 9) {out : Int32} (hm : m_X4_hasReferences n S x0 = some out) : ∀ (H : Heap) (locs : List Loc), Wd D A s.heap (GC cy ad S) H locs → ∀ ls : Array Slot, lv_has ls 2 [(0, .ref (ad 3 x0))] → W p l e rm_X4_hasReferences s m args below meth c H locs 0 0 (MQ below (va_Qi (fun r (u : CSt) => out = r ∧ u = S) (fun u => Pst D (tysC cy) A (GC cy ad u)) A) args s 0 0 A) (F0 m 0 ls []) := by
  intro H locs hw ls hl
  obtain ⟨hx, hb, hml, hown, hts, hr, hlo, hK, hA, hX⟩ := id K
  unfold m_X4_hasReferences at hm
  refine lv_iconst (v := 0) hx hb dX4_hasReferences_0 (by decide) ?_
  refine lv_istore_n (lv' := [(1, .int 0), (0, .ref (ad 3 x0))]) hx hb dX4_hasReferences_1 rfl hl (by decide) rfl (fun ls hl => ?_)
  obtain ⟨z11, hz12, hm⟩ := bindS hm
  refine t_X4_hasReferences_L2 K n S x0 hb_x0 z11 (fun w13 hww13 => ?_) (fun w14 hww14 => ?_) (0) hz12 H locs hw ls (lv_sub hl [1, 0] rfl)
  · intro H locs hw ls hl 
    subst hww13
    replace hm := (sumL _ _ _).symm.trans hm
    refine lv_iconst (v := 1) hx hb dX4_hasReferences_19 (by decide) ?_
    exact g_zret (GG := GC cy ad) K hw rfl ⟨(Option.some.inj hm).symm, rfl⟩ dX4_hasReferences_20
  · intro H locs hw ls hl 
    subst hww14
    replace hm := (sumR _ _ _).symm.trans hm
    refine lv_iconst (v := 0) hx hb dX4_hasReferences_27 (by decide) ?_
    exact g_zret (GG := GC cy ad) K hw rfl ⟨(Option.some.inj hm).symm, rfl⟩ dX4_hasReferences_28
set_option maxRecDepth 100000 in
set_option maxHeartbeats 4000000 in
theorem c_X4_hasReferences (l : Launch) (D : va_G) (cy : Nat → ClassId) (ad : Nat → Nat → Nat) (sz n : Nat) (S : CSt) (x0 : Nat) (hb_x0 : x0 < 9) {out : Int32} (hm : m_X4_hasReferences n S x0 = some out) : Met l yX4_hasReferences wsX4_hasReferences rm_X4_hasReferences (va_Pc [.ref (ad 3 x0)] (Pre D (tysC cy) (GC cy ad S) (fun _ _ => True) sz)) (va_Qi (fun r (u : CSt) => out = r ∧ u = S) (fun u => Pst D (tysC cy) (AA (adrs (GC cy ad S)) sz) (GC cy ad u)) (AA (adrs (GC cy ad S)) sz)) 0 0 (AA (adrs (GC cy ad S)) sz) := by
  refine g_met (by decide) rfl (Nat.le_of_ble_eq_true rfl) ?_
  intro p e s m args below meth c K hw ls hl
  exact t_X4_hasReferences_0 (cy := cy) K n S x0 hb_x0 hm _ _ hw ls hl
end W_X4_hasReferences
section W_X4_nameSet
variable {p : Program} {l : Launch} {e : Env} {s : State} {m : MethodId} {args : Array Value} {below : List Frame} {meth : Method} {c : Code} {D : va_G} {A : Nat → Prop} {cy : Nat → ClassId} {ad : Nat → Nat → Nat} {Q : State → Prop}
abbrev rm_X4_nameSet : Room := { frames := 0, cells := 0, slots := 0, locals := 0 }
theorem in_X4_nameSet_X4 : ∀ w ∈ u_ws RX4 TX4 6, w ∈ wsX4_nameSet := by decide +kernel
set_option maxRecDepth 100000 in
set_option maxHeartbeats 4000000 in
theorem t_X4_nameSet_L4 (K : Cx p s m args meth c D A (tysC cy) RX4 cX4_nameSet 3 (some .int) wsX4_nameSet (fun _ _ => True)) (n : Nat) (S : CSt) (x0 : Nat) (hb_x0 : x0 < 9) (z : Int32) (hE0 : ∀ w : Int32, z = w → ∀ (H : Heap) (locs : List Loc), Wd D A s.heap (GC cy ad S) H locs → ∀ ls : Array Slot, lv_has ls 3 [(1, .int w)] → W p l e rm_X4_nameSet s m args below meth c H locs 0 0 Q (F0 m 29 ls [])) : ∀ (x : (Int32 × Int32)), lpO (b_X4_nameSet_4 n S x0) n x = some z → (fun (x : (Int32 × Int32)) => ∀ (H : Heap) (locs : List Loc), Wd D A s.heap (GC cy ad S) H locs → ∀ ls : Array Slot, lv_has ls 3 [(0, .ref (ad 3 x0)), (1, .int x.1), (2, .int x.2)] → W p l e rm_X4_nameSet s m args below meth c H locs 0 0 Q (F0 m 4 ls [])) x := by
  intro x hx0
  refine lpO_ind2 (P := fun (x : (Int32 × Int32)) => ∀ (H : Heap) (locs : List Loc), Wd D A s.heap (GC cy ad S) H locs → ∀ ls : Array Slot, lv_has ls 3 [(0, .ref (ad 3 x0)), (1, .int x.1), (2, .int x.2)] → W p l e rm_X4_nameSet s m args below meth c H locs 0 0 Q (F0 m 4 ls [])) (z := z) ?_ n x hx0
  clear hx0 x
  intro x out hm hg H locs hw ls hl 
  obtain ⟨hx, hb, hml, hown, hts, hr, hlo, hK, hA, hX⟩ := id K
  unfold b_X4_nameSet_4 at hm
  refine lv_iload_n hx hb dX4_nameSet_4 rfl (lv_at hl 2 rfl) ?_
  refine lv_aload_n hx hb dX4_nameSet_5 rfl (lv_at hl 0 rfl) ?_
  refine g_get (ref := "MigrantHeap$Shape") (C := RX4) (T := TX4) (N := 6) (ci := 4) K in_X4_nameSet_X4 hw 3 rfl hb_x0 rfl rfl 0 (by decide) (List.mem_of_getElem? (i := 1) rfl) rfl rfl dX4_nameSet_6 ?_
  refine lv_icmp_ge (tgt := 29) hx hb dX4_nameSet_9 (by decide) (fun c10 => ?_) (fun c10 => ?_)
  · replace hm := (if_pos c10).symm.trans hm
    obtain rfl := Option.some.inj hm
    exact hE0 _ hg.symm H locs hw ls (lv_sub hl [1] rfl)
  · replace hm := (if_neg c10).symm.trans hm
    refine lv_iload_n hx hb dX4_nameSet_12 rfl (lv_at hl 1 rfl) ?_
    refine lv_iconst (v := 1) hx hb dX4_nameSet_13 (by decide) ?_
    refine lv_aload_n hx hb dX4_nameSet_14 rfl (lv_at hl 0 rfl) ?_
    refine g_get (ref := "MigrantHeap$Shape") (C := RX4) (T := TX4) (N := 6) (ci := 4) K in_X4_nameSet_X4 hw 3 rfl hb_x0 rfl rfl 1 (by decide) (List.mem_of_getElem? (i := 2) rfl) rfl rfl dX4_nameSet_15 ?_
    refine lv_iload_n hx hb dX4_nameSet_18 rfl (lv_at hl 2 rfl) ?_
    obtain ⟨h11, hm⟩ := chkS hm
    refine g_iald K hw 4 0 rfl hb_x0 rfl rfl h11 dX4_nameSet_19 ?_
    refine lv_ishl hx hb dX4_nameSet_20 ?_
    refine lv_ior hx hb dX4_nameSet_21 ?_
    obtain ⟨x12, hx12, hm⟩ := nm_ex hm
    refine W.eq (g2 := F0 m 22 ls (.int x12 :: [])) (by rw [hx12]) ?_
    refine lv_istore_n (lv' := [(1, .int x12), (0, .ref (ad 3 x0)), (2, .int x.2)]) hx hb dX4_nameSet_22 rfl hl (by decide) rfl (fun ls hl => ?_)
    obtain ⟨x13, hx13, hm⟩ := nm_ex hm
    refine lv_iinc (v := x13) (lv' := [(2, .int x13), (1, .int x12), (0, .ref (ad 3 x0))]) hx hb dX4_nameSet_23 hl (k := 2) rfl (by rw [hx13]; rfl) (by decide) rfl (fun ls hl => ?_)
    refine lv_goto (tgt := 4) hx hb dX4_nameSet_26 (by decide) ?_
    obtain rfl := Option.some.inj hm
    exact hg H locs hw ls (lv_sub hl [2, 1, 0] rfl)
set_option maxRecDepth 100000 in
set_option maxHeartbeats 4000000 in
theorem t_X4_nameSet_0 (K : Cx p s m args meth c D A (tysC cy) RX4 cX4_nameSet 3 (some .int) wsX4_nameSet (fun _ _ => True)) (n : Nat) (S : CSt) (x0 : Nat) (hb_x0 : x0 < 9) {out : Int32} (hm : m_X4_nameSet n S x0 = some out) : ∀ (H : Heap) (locs : List Loc), Wd D A s.heap (GC cy ad S) H locs → ∀ ls : Array Slot, lv_has ls 3 [(0, .ref (ad 3 x0))] → W p l e rm_X4_nameSet s m args below meth c H locs 0 0 (MQ below (va_Qi (fun r (u : CSt) => out = r ∧ u = S) (fun u => Pst D (tysC cy) A (GC cy ad u)) A) args s 0 0 A) (F0 m 0 ls []) := by
  intro H locs hw ls hl
  obtain ⟨hx, hb, hml, hown, hts, hr, hlo, hK, hA, hX⟩ := id K
  unfold m_X4_nameSet at hm
  refine lv_iconst (v := 0) hx hb dX4_nameSet_0 (by decide) ?_
  refine lv_istore_n (lv' := [(1, .int 0), (0, .ref (ad 3 x0))]) hx hb dX4_nameSet_1 rfl hl (by decide) rfl (fun ls hl => ?_)
  refine lv_iconst (v := 0) hx hb dX4_nameSet_2 (by decide) ?_
  refine lv_istore_n (lv' := [(2, .int 0), (1, .int 0), (0, .ref (ad 3 x0))]) hx hb dX4_nameSet_3 rfl hl (by decide) rfl (fun ls hl => ?_)
  obtain ⟨z14, hz15, hm⟩ := bindS hm
  refine t_X4_nameSet_L4 K n S x0 hb_x0 z14 (fun w16 hww16 => ?_) ((0, 0)) hz15 H locs hw ls (lv_sub hl [2, 1, 0] rfl)
  · intro H locs hw ls hl 
    try rw [hww16] at hm
    refine lv_iload_n hx hb dX4_nameSet_29 rfl (lv_at hl 0 rfl) ?_
    exact g_iret (GG := GC cy ad) K hw ⟨(Option.some.inj hm).symm, rfl⟩ dX4_nameSet_30
set_option maxRecDepth 100000 in
set_option maxHeartbeats 4000000 in
theorem c_X4_nameSet (l : Launch) (D : va_G) (cy : Nat → ClassId) (ad : Nat → Nat → Nat) (sz n : Nat) (S : CSt) (x0 : Nat) (hb_x0 : x0 < 9) {out : Int32} (hm : m_X4_nameSet n S x0 = some out) : Met l yX4_nameSet wsX4_nameSet rm_X4_nameSet (va_Pc [.ref (ad 3 x0)] (Pre D (tysC cy) (GC cy ad S) (fun _ _ => True) sz)) (va_Qi (fun r (u : CSt) => out = r ∧ u = S) (fun u => Pst D (tysC cy) (AA (adrs (GC cy ad S)) sz) (GC cy ad u)) (AA (adrs (GC cy ad S)) sz)) 0 0 (AA (adrs (GC cy ad S)) sz) := by
  refine g_met (by decide) rfl (Nat.le_of_ble_eq_true rfl) ?_
  intro p e s m args below meth c K hw ls hl
  exact t_X4_nameSet_0 (cy := cy) K n S x0 hb_x0 hm _ _ hw ls hl
end W_X4_nameSet
section W_X4_append
variable {p : Program} {l : Launch} {e : Env} {s : State} {m : MethodId} {args : Array Value} {below : List Frame} {meth : Method} {c : Code} {D : va_G} {A : Nat → Prop} {cy : Nat → ClassId} {ad : Nat → Nat → Nat} {Q : State → Prop}
abbrev rm_X4_append : Room := { frames := 0, cells := 0, slots := 0, locals := 0 }
theorem in_X4_append_X4 : ∀ w ∈ u_ws RX4 TX4 6, w ∈ wsX4_append := by decide +kernel
set_option maxRecDepth 100000 in
set_option maxHeartbeats 4000000 in
theorem t_X4_append_0 (K : Cx p s m args meth c D A (tysC cy) RX4 cX4_append 5 none wsX4_append (fun _ _ => True)) (n : Nat) (S : CSt) (x0 : Nat) (x1 : Int32) (x2 : Int32) (x3 : Int32) (x4 : Int32) (hb_x0 : x0 < 9) {out : CSt} (hm : m_X4_append n S x0 x1 x2 x3 x4 = some out) : ∀ (H : Heap) (locs : List Loc), Wd D A s.heap (GC cy ad S) H locs → ∀ ls : Array Slot, lv_has ls 5 [(0, .ref (ad 3 x0)), (1, .int x1), (2, .int x2), (3, .int x3), (4, .int x4)] → W p l e rm_X4_append s m args below meth c H locs 0 0 (MQ below (va_Qv (fun (u : CSt) => out = u) (fun u => Pst D (tysC cy) A (GC cy ad u)) A) args s 0 0 A) (F0 m 0 ls []) := by
  intro H locs hw ls hl
  obtain ⟨hx, hb, hml, hown, hts, hr, hlo, hK, hA, hX⟩ := id K
  unfold m_X4_append at hm
  refine lv_aload_n hx hb dX4_append_0 rfl (lv_at hl 0 rfl) ?_
  refine g_get (ref := "MigrantHeap$Shape") (C := RX4) (T := TX4) (N := 6) (ci := 4) K in_X4_append_X4 hw 3 rfl hb_x0 rfl rfl 0 (by decide) (List.mem_of_getElem? (i := 1) rfl) rfl rfl dX4_append_1 ?_
  refine lv_bipush (v := 6) hx hb dX4_append_4 (by decide) ?_
  refine lv_icmp_ge (tgt := 70) hx hb dX4_append_6 (by decide) (fun c23 => ?_) (fun c23 => ?_)
  · replace hm := (if_pos c23).symm.trans hm
    exact g_vret (GG := GC cy ad) K hw (Option.some.inj hm).symm dX4_append_70
  · replace hm := (if_neg c23).symm.trans hm
    refine lv_aload_n hx hb dX4_append_9 rfl (lv_at hl 0 rfl) ?_
    refine g_get (ref := "MigrantHeap$Shape") (C := RX4) (T := TX4) (N := 6) (ci := 4) K in_X4_append_X4 hw 3 rfl hb_x0 rfl rfl 1 (by decide) (List.mem_of_getElem? (i := 2) rfl) rfl rfl dX4_append_10 ?_
    refine lv_aload_n hx hb dX4_append_13 rfl (lv_at hl 0 rfl) ?_
    refine g_get (ref := "MigrantHeap$Shape") (C := RX4) (T := TX4) (N := 6) (ci := 4) K in_X4_append_X4 hw 3 rfl hb_x0 rfl rfl 0 (by decide) (List.mem_of_getElem? (i := 1) rfl) rfl rfl dX4_append_14 ?_
    refine lv_iload_n hx hb dX4_append_17 rfl (lv_at hl 1 rfl) ?_
    obtain ⟨h24, hm⟩ := chkS hm
    refine g_iast K hw 4 0 rfl hb_x0 rfl rfl h24 dX4_append_18 (eC_6 cy ad S x0 ((S.1 5 x0 0).toNatClampNeg) x1) (fun H locs hw => ?_)
    obtain ⟨S25, hS25, hm⟩ := nm_ex hm
    rw [← hS25] at hw
    refine lv_aload_n hx hb dX4_append_19 rfl (lv_at hl 0 rfl) ?_
    refine g_get (ref := "MigrantHeap$Shape") (C := RX4) (T := TX4) (N := 6) (ci := 4) K in_X4_append_X4 hw 3 rfl hb_x0 rfl rfl 2 (by decide) (List.mem_of_getElem? (i := 3) rfl) rfl rfl dX4_append_20 ?_
    refine lv_aload_n hx hb dX4_append_23 rfl (lv_at hl 0 rfl) ?_
    refine g_get (ref := "MigrantHeap$Shape") (C := RX4) (T := TX4) (N := 6) (ci := 4) K in_X4_append_X4 hw 3 rfl hb_x0 rfl rfl 0 (by decide) (List.mem_of_getElem? (i := 1) rfl) rfl rfl dX4_append_24 ?_
    refine lv_iload_n hx hb dX4_append_27 rfl (lv_at hl 2 rfl) ?_
    obtain ⟨h26, hm⟩ := chkS hm
    refine g_iast K hw 5 0 rfl hb_x0 rfl rfl h26 dX4_append_28 (eC_7 cy ad S25 x0 ((S25.1 5 x0 0).toNatClampNeg) x2) (fun H locs hw => ?_)
    obtain ⟨S27, hS27, hm⟩ := nm_ex hm
    rw [← hS27] at hw
    refine lv_aload_n hx hb dX4_append_29 rfl (lv_at hl 0 rfl) ?_
    refine g_get (ref := "MigrantHeap$Shape") (C := RX4) (T := TX4) (N := 6) (ci := 4) K in_X4_append_X4 hw 3 rfl hb_x0 rfl rfl 3 (by decide) (List.mem_of_getElem? (i := 4) rfl) rfl rfl dX4_append_30 ?_
    refine lv_aload_n hx hb dX4_append_33 rfl (lv_at hl 0 rfl) ?_
    refine g_get (ref := "MigrantHeap$Shape") (C := RX4) (T := TX4) (N := 6) (ci := 4) K in_X4_append_X4 hw 3 rfl hb_x0 rfl rfl 0 (by decide) (List.mem_of_getElem? (i := 1) rfl) rfl rfl dX4_append_34 ?_
    refine lv_iload_n hx hb dX4_append_37 rfl (lv_at hl 3 rfl) ?_
    obtain ⟨h28, hm⟩ := chkS hm
    refine g_iast K hw 6 0 rfl hb_x0 rfl rfl h28 dX4_append_38 (eC_8 cy ad S27 x0 ((S27.1 5 x0 0).toNatClampNeg) x3) (fun H locs hw => ?_)
    obtain ⟨S29, hS29, hm⟩ := nm_ex hm
    rw [← hS29] at hw
    refine lv_aload_n hx hb dX4_append_39 rfl (lv_at hl 0 rfl) ?_
    refine g_get (ref := "MigrantHeap$Shape") (C := RX4) (T := TX4) (N := 6) (ci := 4) K in_X4_append_X4 hw 3 rfl hb_x0 rfl rfl 4 (by decide) (List.mem_of_getElem? (i := 5) rfl) rfl rfl dX4_append_40 ?_
    refine lv_aload_n hx hb dX4_append_43 rfl (lv_at hl 0 rfl) ?_
    refine g_get (ref := "MigrantHeap$Shape") (C := RX4) (T := TX4) (N := 6) (ci := 4) K in_X4_append_X4 hw 3 rfl hb_x0 rfl rfl 0 (by decide) (List.mem_of_getElem? (i := 1) rfl) rfl rfl dX4_append_44 ?_
    refine lv_iload hx hb dX4_append_47 (lv_at hl 4 rfl) ?_
    obtain ⟨h30, hm⟩ := chkS hm
    refine g_iast K hw 7 0 rfl hb_x0 rfl rfl h30 dX4_append_49 (eC_9 cy ad S29 x0 ((S29.1 5 x0 0).toNatClampNeg) x4) (fun H locs hw => ?_)
    obtain ⟨S31, hS31, hm⟩ := nm_ex hm
    rw [← hS31] at hw
    refine lv_aload_n hx hb dX4_append_50 rfl (lv_at hl 0 rfl) ?_
    refine g_get (ref := "MigrantHeap$Shape") (C := RX4) (T := TX4) (N := 6) (ci := 4) K in_X4_append_X4 hw 3 rfl hb_x0 rfl rfl 5 (by decide) (List.mem_of_getElem? (i := 6) rfl) rfl rfl dX4_append_51 ?_
    refine lv_aload_n hx hb dX4_append_54 rfl (lv_at hl 0 rfl) ?_
    refine g_get (ref := "MigrantHeap$Shape") (C := RX4) (T := TX4) (N := 6) (ci := 4) K in_X4_append_X4 hw 3 rfl hb_x0 rfl rfl 0 (by decide) (List.mem_of_getElem? (i := 1) rfl) rfl rfl dX4_append_55 ?_
    refine lv_iconst (v := (-1)) hx hb dX4_append_58 (by decide) ?_
    obtain ⟨h32, hm⟩ := chkS hm
    refine g_iast K hw 8 0 rfl hb_x0 rfl rfl h32 dX4_append_59 (eC_10 cy ad S31 x0 ((S31.1 5 x0 0).toNatClampNeg) (-1)) (fun H locs hw => ?_)
    obtain ⟨S33, hS33, hm⟩ := nm_ex hm
    rw [← hS33] at hw
    refine lv_aload_n hx hb dX4_append_60 rfl (lv_at hl 0 rfl) ?_
    refine lv_dup hx hb dX4_append_61 rfl ?_
    refine g_get (ref := "MigrantHeap$Shape") (C := RX4) (T := TX4) (N := 6) (ci := 4) K in_X4_append_X4 hw 3 rfl hb_x0 rfl rfl 0 (by decide) (List.mem_of_getElem? (i := 1) rfl) rfl rfl dX4_append_62 ?_
    refine lv_iconst (v := 1) hx hb dX4_append_65 (by decide) ?_
    refine lv_iadd hx hb dX4_append_66 ?_
    refine g_put (v := .int ((S33.1 5 x0 0) + 1)) (ty := .int) (ref := "MigrantHeap$Shape") (C := RX4) (T := TX4) (N := 6) (ci := 4) K in_X4_append_X4 tyX4 tyX4_ok nmX4 hw 3 rfl hb_x0 rfl rfl 0 (by decide) (List.mem_of_getElem? (i := 1) rfl) rfl rfl (by decide +kernel) rfl rfl (Nat.le_of_ble_eq_true rfl) dX4_append_67 (eC_5 cy ad S33 x0 ((S33.1 5 x0 0) + 1)) (fun H locs hw => ?_)
    obtain ⟨S34, hS34, hm⟩ := nm_ex hm
    rw [← hS34] at hw
    exact g_vret (GG := GC cy ad) K hw (Option.some.inj hm).symm dX4_append_70
set_option maxRecDepth 100000 in
set_option maxHeartbeats 4000000 in
theorem c_X4_append (l : Launch) (D : va_G) (cy : Nat → ClassId) (ad : Nat → Nat → Nat) (sz n : Nat) (S : CSt) (x0 : Nat) (x1 : Int32) (x2 : Int32) (x3 : Int32) (x4 : Int32) (hb_x0 : x0 < 9) {out : CSt} (hm : m_X4_append n S x0 x1 x2 x3 x4 = some out) : Met l yX4_append wsX4_append rm_X4_append (va_Pc [.ref (ad 3 x0), .int x1, .int x2, .int x3, .int x4] (Pre D (tysC cy) (GC cy ad S) (fun _ _ => True) sz)) (va_Qv (fun (u : CSt) => out = u) (fun u => Pst D (tysC cy) (AA (adrs (GC cy ad S)) sz) (GC cy ad u)) (AA (adrs (GC cy ad S)) sz)) 0 0 (AA (adrs (GC cy ad S)) sz) := by
  refine g_met (by decide) rfl (Nat.le_of_ble_eq_true rfl) ?_
  intro p e s m args below meth c K hw ls hl
  exact t_X4_append_0 (cy := cy) K n S x0 x1 x2 x3 x4 hb_x0 hm _ _ hw ls hl
end W_X4_append
section W_X4_rename
variable {p : Program} {l : Launch} {e : Env} {s : State} {m : MethodId} {args : Array Value} {below : List Frame} {meth : Method} {c : Code} {D : va_G} {A : Nat → Prop} {cy : Nat → ClassId} {ad : Nat → Nat → Nat} {Q : State → Prop}
abbrev rm_X4_rename : Room := { frames := 1, cells := 0, slots := 0, locals := 21 }
theorem in_X4_rename_X4 : ∀ w ∈ u_ws RX4 TX4 6, w ∈ wsX4_rename := by decide +kernel
set_option maxRecDepth 100000 in
set_option maxHeartbeats 4000000 in
theorem t_X4_rename_0 (K : Cx p s m args meth c D A (tysC cy) RX4 cX4_rename 3 none wsX4_rename (fun _ _ => True)) (n : Nat) (S : CSt) (x0 : Nat) (x1 : Int32) (x2 : Int32) (hb_x0 : x0 < 9) {out : CSt} (hm : m_X4_rename n S x0 x1 x2 = some out) : ∀ (H : Heap) (locs : List Loc), Wd D A s.heap (GC cy ad S) H locs → ∀ ls : Array Slot, lv_has ls 3 [(0, .ref (ad 3 x0)), (1, .int x1), (2, .int x2)] → W p l e rm_X4_rename s m args below meth c H locs 0 0 (MQ below (va_Qv (fun (u : CSt) => out = u) (fun u => Pst D (tysC cy) A (GC cy ad u)) A) args s 0 0 A) (F0 m 0 ls []) := by
  intro H locs hw ls hl
  obtain ⟨hx, hb, hml, hown, hts, hr, hlo, hK, hA, hX⟩ := id K
  unfold m_X4_rename at hm
  refine lv_aload_n hx hb dX4_rename_0 rfl (lv_at hl 0 rfl) ?_
  refine lv_iload_n hx hb dX4_rename_1 rfl (lv_at hl 1 rfl) ?_
  obtain ⟨z10, hc9, hm⟩ := bindS hm
  refine g_calli (GG := GC cy ad) K hw (va_runV (As := [.int x1]) (rest := []) (g_fix K) (c_X4_isThere l D cy ad H.size n S x0 x1 hb_x0 hc9) (cwV 1 (g_hts K) gX4_rename_X4_isThere rfl rfl rfl (by decide +kernel) ⟨Nat.le_of_ble_eq_true rfl, Nat.le_of_ble_eq_true rfl⟩) ⟨g_blind rides_none, g_recv K hw 3 rfl hb_x0 rfl rfl, g_pre (X2 := fun _ _ => True) K hw (fun _ _ _ => trivial)⟩ rfl rfl hl.1 rfl (lv_room (Nat.le_of_ble_eq_true rfl)) dX4_rename_2 ⟨Nat.le_of_ble_eq_true rfl, Nat.le_of_ble_eq_true rfl⟩) (fun r u H locs hp hw => ?_)
  obtain ⟨rfl, hu⟩ := hp
  rw [hu] at hw
  refine lv_if_eq (tgt := 15) hx hb dX4_rename_5 (by decide) (fun c11 => ?_) (fun c11 => ?_)
  · replace hm := (if_pos c11).symm.trans hm
    exact g_vret (GG := GC cy ad) K hw (Option.some.inj hm).symm dX4_rename_15
  · replace hm := (if_neg c11).symm.trans hm
    refine lv_aload_n hx hb dX4_rename_8 rfl (lv_at hl 0 rfl) ?_
    refine g_get (ref := "MigrantHeap$Shape") (C := RX4) (T := TX4) (N := 6) (ci := 4) K in_X4_rename_X4 hw 3 rfl hb_x0 rfl rfl 1 (by decide) (List.mem_of_getElem? (i := 1) rfl) rfl rfl dX4_rename_9 ?_
    refine lv_iload_n hx hb dX4_rename_12 rfl (lv_at hl 1 rfl) ?_
    refine lv_iload_n hx hb dX4_rename_13 rfl (lv_at hl 2 rfl) ?_
    obtain ⟨h12, hm⟩ := chkS hm
    refine g_iast K hw 4 0 rfl hb_x0 rfl rfl h12 dX4_rename_14 (eC_6 cy ad S x0 x1.toNatClampNeg x2) (fun H locs hw => ?_)
    obtain ⟨S13, hS13, hm⟩ := nm_ex hm
    rw [← hS13] at hw
    exact g_vret (GG := GC cy ad) K hw (Option.some.inj hm).symm dX4_rename_15
set_option maxRecDepth 100000 in
set_option maxHeartbeats 4000000 in
theorem c_X4_rename (l : Launch) (D : va_G) (cy : Nat → ClassId) (ad : Nat → Nat → Nat) (sz n : Nat) (S : CSt) (x0 : Nat) (x1 : Int32) (x2 : Int32) (hb_x0 : x0 < 9) {out : CSt} (hm : m_X4_rename n S x0 x1 x2 = some out) : Met l yX4_rename wsX4_rename rm_X4_rename (va_Pc [.ref (ad 3 x0), .int x1, .int x2] (Pre D (tysC cy) (GC cy ad S) (fun _ _ => True) sz)) (va_Qv (fun (u : CSt) => out = u) (fun u => Pst D (tysC cy) (AA (adrs (GC cy ad S)) sz) (GC cy ad u)) (AA (adrs (GC cy ad S)) sz)) 0 0 (AA (adrs (GC cy ad S)) sz) := by
  refine g_met (by decide) rfl (Nat.le_of_ble_eq_true rfl) ?_
  intro p e s m args below meth c K hw ls hl
  exact t_X4_rename_0 (cy := cy) K n S x0 x1 x2 hb_x0 hm _ _ hw ls hl
end W_X4_rename
section W_X4_setRange
variable {p : Program} {l : Launch} {e : Env} {s : State} {m : MethodId} {args : Array Value} {below : List Frame} {meth : Method} {c : Code} {D : va_G} {A : Nat → Prop} {cy : Nat → ClassId} {ad : Nat → Nat → Nat} {Q : State → Prop}
abbrev rm_X4_setRange : Room := { frames := 1, cells := 0, slots := 0, locals := 21 }
theorem in_X4_setRange_X4 : ∀ w ∈ u_ws RX4 TX4 6, w ∈ wsX4_setRange := by decide +kernel
set_option maxRecDepth 100000 in
set_option maxHeartbeats 4000000 in
theorem t_X4_setRange_0 (K : Cx p s m args meth c D A (tysC cy) RX4 cX4_setRange 4 none wsX4_setRange (fun _ _ => True)) (n : Nat) (S : CSt) (x0 : Nat) (x1 : Int32) (x2 : Int32) (x3 : Int32) (hb_x0 : x0 < 9) {out : CSt} (hm : m_X4_setRange n S x0 x1 x2 x3 = some out) : ∀ (H : Heap) (locs : List Loc), Wd D A s.heap (GC cy ad S) H locs → ∀ ls : Array Slot, lv_has ls 4 [(0, .ref (ad 3 x0)), (1, .int x1), (2, .int x2), (3, .int x3)] → W p l e rm_X4_setRange s m args below meth c H locs 0 0 (MQ below (va_Qv (fun (u : CSt) => out = u) (fun u => Pst D (tysC cy) A (GC cy ad u)) A) args s 0 0 A) (F0 m 0 ls []) := by
  intro H locs hw ls hl
  obtain ⟨hx, hb, hml, hown, hts, hr, hlo, hK, hA, hX⟩ := id K
  unfold m_X4_setRange at hm
  refine lv_aload_n hx hb dX4_setRange_0 rfl (lv_at hl 0 rfl) ?_
  refine lv_iload_n hx hb dX4_setRange_1 rfl (lv_at hl 1 rfl) ?_
  obtain ⟨z14, hc13, hm⟩ := bindS hm
  refine g_calli (GG := GC cy ad) K hw (va_runV (As := [.int x1]) (rest := []) (g_fix K) (c_X4_isThere l D cy ad H.size n S x0 x1 hb_x0 hc13) (cwV 1 (g_hts K) gX4_setRange_X4_isThere rfl rfl rfl (by decide +kernel) ⟨Nat.le_of_ble_eq_true rfl, Nat.le_of_ble_eq_true rfl⟩) ⟨g_blind rides_none, g_recv K hw 3 rfl hb_x0 rfl rfl, g_pre (X2 := fun _ _ => True) K hw (fun _ _ _ => trivial)⟩ rfl rfl hl.1 rfl (lv_room (Nat.le_of_ble_eq_true rfl)) dX4_setRange_2 ⟨Nat.le_of_ble_eq_true rfl, Nat.le_of_ble_eq_true rfl⟩) (fun r u H locs hp hw => ?_)
  obtain ⟨rfl, hu⟩ := hp
  rw [hu] at hw
  refine lv_if_eq (tgt := 22) hx hb dX4_setRange_5 (by decide) (fun c15 => ?_) (fun c15 => ?_)
  · replace hm := (if_pos c15).symm.trans hm
    exact g_vret (GG := GC cy ad) K hw (Option.some.inj hm).symm dX4_setRange_22
  · replace hm := (if_neg c15).symm.trans hm
    refine lv_aload_n hx hb dX4_setRange_8 rfl (lv_at hl 0 rfl) ?_
    refine g_get (ref := "MigrantHeap$Shape") (C := RX4) (T := TX4) (N := 6) (ci := 4) K in_X4_setRange_X4 hw 3 rfl hb_x0 rfl rfl 3 (by decide) (List.mem_of_getElem? (i := 1) rfl) rfl rfl dX4_setRange_9 ?_
    refine lv_iload_n hx hb dX4_setRange_12 rfl (lv_at hl 1 rfl) ?_
    refine lv_iload_n hx hb dX4_setRange_13 rfl (lv_at hl 2 rfl) ?_
    obtain ⟨h16, hm⟩ := chkS hm
    refine g_iast K hw 6 0 rfl hb_x0 rfl rfl h16 dX4_setRange_14 (eC_8 cy ad S x0 x1.toNatClampNeg x2) (fun H locs hw => ?_)
    obtain ⟨S17, hS17, hm⟩ := nm_ex hm
    rw [← hS17] at hw
    refine lv_aload_n hx hb dX4_setRange_15 rfl (lv_at hl 0 rfl) ?_
    refine g_get (ref := "MigrantHeap$Shape") (C := RX4) (T := TX4) (N := 6) (ci := 4) K in_X4_setRange_X4 hw 3 rfl hb_x0 rfl rfl 4 (by decide) (List.mem_of_getElem? (i := 2) rfl) rfl rfl dX4_setRange_16 ?_
    refine lv_iload_n hx hb dX4_setRange_19 rfl (lv_at hl 1 rfl) ?_
    refine lv_iload_n hx hb dX4_setRange_20 rfl (lv_at hl 3 rfl) ?_
    obtain ⟨h18, hm⟩ := chkS hm
    refine g_iast K hw 7 0 rfl hb_x0 rfl rfl h18 dX4_setRange_21 (eC_9 cy ad S17 x0 x1.toNatClampNeg x3) (fun H locs hw => ?_)
    obtain ⟨S19, hS19, hm⟩ := nm_ex hm
    rw [← hS19] at hw
    exact g_vret (GG := GC cy ad) K hw (Option.some.inj hm).symm dX4_setRange_22
set_option maxRecDepth 100000 in
set_option maxHeartbeats 4000000 in
theorem c_X4_setRange (l : Launch) (D : va_G) (cy : Nat → ClassId) (ad : Nat → Nat → Nat) (sz n : Nat) (S : CSt) (x0 : Nat) (x1 : Int32) (x2 : Int32) (x3 : Int32) (hb_x0 : x0 < 9) {out : CSt} (hm : m_X4_setRange n S x0 x1 x2 x3 = some out) : Met l yX4_setRange wsX4_setRange rm_X4_setRange (va_Pc [.ref (ad 3 x0), .int x1, .int x2, .int x3] (Pre D (tysC cy) (GC cy ad S) (fun _ _ => True) sz)) (va_Qv (fun (u : CSt) => out = u) (fun u => Pst D (tysC cy) (AA (adrs (GC cy ad S)) sz) (GC cy ad u)) (AA (adrs (GC cy ad S)) sz)) 0 0 (AA (adrs (GC cy ad S)) sz) := by
  refine g_met (by decide) rfl (Nat.le_of_ble_eq_true rfl) ?_
  intro p e s m args below meth c K hw ls hl
  exact t_X4_setRange_0 (cy := cy) K n S x0 x1 x2 x3 hb_x0 hm _ _ hw ls hl
end W_X4_setRange
section W_X7_isIn
variable {p : Program} {l : Launch} {e : Env} {s : State} {m : MethodId} {args : Array Value} {below : List Frame} {meth : Method} {c : Code} {D : va_G} {A : Nat → Prop} {cy : Nat → ClassId} {ad : Nat → Nat → Nat} {Q : State → Prop}
abbrev rm_X7_isIn : Room := { frames := 0, cells := 0, slots := 0, locals := 0 }
set_option maxRecDepth 100000 in
set_option maxHeartbeats 4000000 in
theorem t_X7_isIn_0 (K : Cx p s m args meth c D A (tysC cy) RX7 cX7_isIn 2 (some .boolean) wsX7_isIn (fun _ _ => True)) (n : Nat) (S : CSt) (x0 : Int32) (x1 : Int32)  {out : Int32} (hm : m_X7_isIn n S x0 x1 = some out) : ∀ (H : Heap) (locs : List Loc), Wd D A s.heap (GC cy ad S) H locs → ∀ ls : Array Slot, lv_has ls 2 [(0, .int x0), (1, .int x1)] → W p l e rm_X7_isIn s m args below meth c H locs 0 0 (MQ below (va_Qi (fun r (u : CSt) => out = r ∧ u = S) (fun u => Pst D (tysC cy) A (GC cy ad u)) A) args s 0 0 A) (F0 m 0 ls []) := by
  intro H locs hw ls hl
  obtain ⟨hx, hb, hml, hown, hts, hr, hlo, hK, hA, hX⟩ := id K
  unfold m_X7_isIn at hm
  refine lv_iload_n hx hb dX7_isIn_0 rfl (lv_at hl 1 rfl) ?_
  refine lv_iload_n hx hb dX7_isIn_1 rfl (lv_at hl 0 rfl) ?_
  refine lv_ishr hx hb dX7_isIn_2 ?_
  refine lv_iconst (v := 1) hx hb dX7_isIn_3 (by decide) ?_
  refine lv_iand hx hb dX7_isIn_4 ?_
  refine lv_iconst (v := 1) hx hb dX7_isIn_5 (by decide) ?_
  refine lv_icmp_ne (tgt := 13) hx hb dX7_isIn_6 (by decide) (fun c1 => ?_) (fun c1 => ?_)
  · replace hm := (if_pos c1).symm.trans hm
    refine lv_iconst (v := 0) hx hb dX7_isIn_13 (by decide) ?_
    exact g_zret (GG := GC cy ad) K hw rfl ⟨(Option.some.inj hm).symm, rfl⟩ dX7_isIn_14
  · replace hm := (if_neg (fun h => h c1)).symm.trans hm
    refine lv_iconst (v := 1) hx hb dX7_isIn_9 (by decide) ?_
    refine lv_goto (tgt := 14) hx hb dX7_isIn_10 (by decide) ?_
    exact g_zret (GG := GC cy ad) K hw rfl ⟨(Option.some.inj hm).symm, rfl⟩ dX7_isIn_14
set_option maxRecDepth 100000 in
set_option maxHeartbeats 4000000 in
theorem c_X7_isIn (l : Launch) (D : va_G) (cy : Nat → ClassId) (ad : Nat → Nat → Nat) (sz n : Nat) (S : CSt) (x0 : Int32) (x1 : Int32)  {out : Int32} (hm : m_X7_isIn n S x0 x1 = some out) : Met l yX7_isIn wsX7_isIn rm_X7_isIn (va_Pc [.int x0, .int x1] (Pre D (tysC cy) (GC cy ad S) (fun _ _ => True) sz)) (va_Qi (fun r (u : CSt) => out = r ∧ u = S) (fun u => Pst D (tysC cy) (AA (adrs (GC cy ad S)) sz) (GC cy ad u)) (AA (adrs (GC cy ad S)) sz)) 0 0 (AA (adrs (GC cy ad S)) sz) := by
  refine g_met (by decide) rfl (Nat.le_of_ble_eq_true rfl) ?_
  intro p e s m args below meth c K hw ls hl
  exact t_X7_isIn_0 (cy := cy) K n S x0 x1  hm _ _ hw ls hl
end W_X7_isIn
section W_X4_squeeze_a7
variable {p : Program} {l : Launch} {e : Env} {s : State} {m : MethodId} {args : Array Value} {below : List Frame} {meth : Method} {c : Code} {D : va_G} {A : Nat → Prop} {cy : Nat → ClassId} {ad : Nat → Nat → Nat} {Q : State → Prop}
abbrev rm_X4_squeeze_a7 : Room := { frames := 1, cells := 0, slots := 0, locals := 21 }
theorem in_X4_squeeze_X4 : ∀ w ∈ u_ws RX4 TX4 6, w ∈ wsX4_squeeze := by decide +kernel
set_option maxRecDepth 100000 in
set_option maxHeartbeats 4000000 in
theorem t_X4_squeeze_a7_L5 (K : Cx p s m args meth c D A (tysC cy) RX4 cX4_squeeze 5 (some .int) wsX4_squeeze EV) (n : Nat) (x0 : Nat) (x1 : Nat) (x2 : Int32) (hb_x0 : x0 < 9) (hb_x1 : x1 < 9) (z : (CSt × Int32)) (hE0 : ∀ w : (CSt × Int32), z = w → ∀ (H : Heap) (locs : List Loc), Wd D A s.heap (GC cy ad w.1) H locs → ∀ ls : Array Slot, lv_has ls 5 [(3, .int w.2)] → W p l e rm_X4_squeeze_a7 s m args below meth c H locs 0 0 Q (F0 m 44 ls [])) : ∀ (x : (CSt × Int32 × Int32)), lpO (b_X4_squeeze_a7_5 n x0 x1 x2) n x = some z → (fun (x : (CSt × Int32 × Int32)) => ∀ (H : Heap) (locs : List Loc), Wd D A s.heap (GC cy ad x.1) H locs → ∀ ls : Array Slot, lv_has ls 5 [(0, .ref (ad 3 x0)), (1, .ref (ad 5 x1)), (2, .int x2), (3, .int x.2.1), (4, .int x.2.2)] → W p l e rm_X4_squeeze_a7 s m args below meth c H locs 0 0 Q (F0 m 5 ls [])) x := by
  intro x hx0
  refine lpO_ind2 (P := fun (x : (CSt × Int32 × Int32)) => ∀ (H : Heap) (locs : List Loc), Wd D A s.heap (GC cy ad x.1) H locs → ∀ ls : Array Slot, lv_has ls 5 [(0, .ref (ad 3 x0)), (1, .ref (ad 5 x1)), (2, .int x2), (3, .int x.2.1), (4, .int x.2.2)] → W p l e rm_X4_squeeze_a7 s m args below meth c H locs 0 0 Q (F0 m 5 ls [])) (z := z) ?_ n x hx0
  clear hx0 x
  intro x out hm hg H locs hw ls hl 
  obtain ⟨hx, hb, hml, hown, hts, hr, hlo, hK, hA, hX⟩ := id K
  unfold b_X4_squeeze_a7_5 at hm
  refine lv_iload hx hb dX4_squeeze_5 (lv_at hl 4 rfl) ?_
  refine lv_aload_n hx hb dX4_squeeze_7 rfl (lv_at hl 0 rfl) ?_
  refine g_get (ref := "MigrantHeap$Shape") (C := RX4) (T := TX4) (N := 6) (ci := 4) K in_X4_squeeze_X4 hw 3 rfl hb_x0 rfl rfl 0 (by decide) (List.mem_of_getElem? (i := 1) rfl) rfl rfl dX4_squeeze_8 ?_
  refine lv_icmp_ge (tgt := 44) hx hb dX4_squeeze_11 (by decide) (fun c27 => ?_) (fun c27 => ?_)
  · replace hm := (if_pos c27).symm.trans hm
    obtain rfl := Option.some.inj hm
    exact hE0 _ hg.symm H locs hw ls (lv_sub hl [3] rfl)
  · replace hm := (if_neg c27).symm.trans hm
    refine lv_aload_n hx hb dX4_squeeze_14 rfl (lv_at hl 0 rfl) ?_
    refine g_get (ref := "MigrantHeap$Shape") (C := RX4) (T := TX4) (N := 6) (ci := 4) K in_X4_squeeze_X4 hw 3 rfl hb_x0 rfl rfl 1 (by decide) (List.mem_of_getElem? (i := 2) rfl) rfl rfl dX4_squeeze_15 ?_
    refine lv_iload hx hb dX4_squeeze_18 (lv_at hl 4 rfl) ?_
    obtain ⟨h28, hm⟩ := chkS hm
    refine g_iald K hw 4 0 rfl hb_x0 rfl rfl h28 dX4_squeeze_20 ?_
    refine lv_iload_n hx hb dX4_squeeze_21 rfl (lv_at hl 2 rfl) ?_
    obtain ⟨z30, hc29, hm⟩ := bindS hm
    refine g_calli (GG := GC cy ad) K hw (va_runSN (host := RX7) (As := [.int (x.1.1 6 x0 x.2.2.toNatClampNeg), .int x2]) (rest := []) (g_fix K) (c_X7_isIn l D cy ad H.size n x.1 (x.1.1 6 x0 x.2.2.toNatClampNeg) x2  hc29) ⟨va_cnB 2 (g_hts K) gX4_squeeze_X7_isIn_n43 rfl rfl rfl hX.1 (hts _ (List.mem_of_getElem? (i := 4) rfl)) (by decide +kernel) ⟨Nat.le_of_ble_eq_true rfl, Nat.le_of_ble_eq_true rfl⟩, hts _ (List.mem_of_getElem? (i := 3) rfl), trivial⟩ ⟨g_blind rides_none, g_pre (X2 := fun _ _ => True) K hw (fun _ _ _ => trivial)⟩ rfl rfl hl.1 rfl (lv_room (Nat.le_of_ble_eq_true rfl)) dX4_squeeze_22 ⟨Nat.le_of_ble_eq_true rfl, Nat.le_of_ble_eq_true rfl⟩) (fun r u H locs hp hw => ?_)
    obtain ⟨rfl, hu⟩ := hp
    rw [hu] at hw
    refine lv_if_ne (tgt := 38) hx hb dX4_squeeze_25 (by decide) (fun c31 => ?_) (fun c31 => ?_)
    · replace hm := (if_pos c31).symm.trans hm
      obtain ⟨x32, hx32, hm⟩ := nm_ex hm
      refine lv_iinc (v := x32) (lv' := [(4, .int x32), (0, .ref (ad 3 x0)), (1, .ref (ad 5 x1)), (2, .int x2), (3, .int x.2.1)]) hx hb dX4_squeeze_38 hl (k := 4) rfl (by rw [hx32]; rfl) (by decide) rfl (fun ls hl => ?_)
      refine lv_goto (tgt := 5) hx hb dX4_squeeze_41 (by decide) ?_
      obtain rfl := Option.some.inj hm
      exact hg H locs hw ls (lv_sub hl [1, 2, 3, 4, 0] rfl)
    · replace hm := (if_neg (fun h => h c31)).symm.trans hm
      refine lv_aload_n hx hb dX4_squeeze_28 rfl (lv_at hl 1 rfl) ?_
      refine lv_iload_n hx hb dX4_squeeze_29 rfl (lv_at hl 3 rfl) ?_
      refine lv_aload_n hx hb dX4_squeeze_30 rfl (lv_at hl 1 rfl) ?_
      refine lv_iload hx hb dX4_squeeze_31 (lv_at hl 4 rfl) ?_
      obtain ⟨h33, hm⟩ := chkS hm
      refine g_iald K hw 5 0 rfl hb_x1 rfl rfl h33 dX4_squeeze_33 ?_
      obtain ⟨h34, hm⟩ := chkS hm
      refine g_iast K hw 5 0 rfl hb_x1 rfl rfl h34 dX4_squeeze_34 (eC_7 cy ad x.1 x1 x.2.1.toNatClampNeg (x.1.1 7 x1 x.2.2.toNatClampNeg)) (fun H locs hw => ?_)
      obtain ⟨S35, hS35, hm⟩ := nm_ex hm
      rw [← hS35] at hw
      obtain ⟨x36, hx36, hm⟩ := nm_ex hm
      refine lv_iinc (v := x36) (lv' := [(3, .int x36), (0, .ref (ad 3 x0)), (1, .ref (ad 5 x1)), (2, .int x2), (4, .int x.2.2)]) hx hb dX4_squeeze_35 hl (k := 3) rfl (by rw [hx36]; rfl) (by decide) rfl (fun ls hl => ?_)
      obtain ⟨x37, hx37, hm⟩ := nm_ex hm
      refine lv_iinc (v := x37) (lv' := [(4, .int x37), (3, .int x36), (0, .ref (ad 3 x0)), (1, .ref (ad 5 x1)), (2, .int x2)]) hx hb dX4_squeeze_38 hl (k := 4) rfl (by rw [hx37]; rfl) (by decide) rfl (fun ls hl => ?_)
      refine lv_goto (tgt := 5) hx hb dX4_squeeze_41 (by decide) ?_
      obtain rfl := Option.some.inj hm
      exact hg H locs hw ls (lv_sub hl [2, 3, 4, 1, 0] rfl)
set_option maxRecDepth 100000 in
set_option maxHeartbeats 4000000 in
theorem t_X4_squeeze_a7_0 (K : Cx p s m args meth c D A (tysC cy) RX4 cX4_squeeze 5 (some .int) wsX4_squeeze EV) (n : Nat) (S : CSt) (x0 : Nat) (x1 : Nat) (x2 : Int32) (hb_x0 : x0 < 9) (hb_x1 : x1 < 9) {out : Int32 × CSt} (hm : m_X4_squeeze_a7 n S x0 x1 x2 = some out) : ∀ (H : Heap) (locs : List Loc), Wd D A s.heap (GC cy ad S) H locs → ∀ ls : Array Slot, lv_has ls 5 [(0, .ref (ad 3 x0)), (1, .ref (ad 5 x1)), (2, .int x2)] → W p l e rm_X4_squeeze_a7 s m args below meth c H locs 0 0 (MQ below (va_Qi (fun r (u : CSt) => out = (r, u)) (fun u => Pst D (tysC cy) A (GC cy ad u)) A) args s 0 0 A) (F0 m 0 ls []) := by
  intro H locs hw ls hl
  obtain ⟨hx, hb, hml, hown, hts, hr, hlo, hK, hA, hX⟩ := id K
  unfold m_X4_squeeze_a7 at hm
  refine lv_iconst (v := 0) hx hb dX4_squeeze_0 (by decide) ?_
  refine lv_istore_n (lv' := [(3, .int 0), (0, .ref (ad 3 x0)), (1, .ref (ad 5 x1)), (2, .int x2)]) hx hb dX4_squeeze_1 rfl hl (by decide) rfl (fun ls hl => ?_)
  refine lv_iconst (v := 0) hx hb dX4_squeeze_2 (by decide) ?_
  refine lv_istore (lv' := [(4, .int 0), (3, .int 0), (0, .ref (ad 3 x0)), (1, .ref (ad 5 x1)), (2, .int x2)]) hx hb dX4_squeeze_3 hl (by decide) rfl (fun ls hl => ?_)
  obtain ⟨z38, hz39, hm⟩ := bindS hm
  refine t_X4_squeeze_a7_L5 K n x0 x1 x2 hb_x0 hb_x1 z38 (fun w40 hww40 => ?_) ((S, 0, 0)) hz39 H locs hw ls (lv_sub hl [2, 3, 4, 1, 0] rfl)
  · intro H locs hw ls hl 
    try rw [hww40] at hm
    refine lv_iload_n hx hb dX4_squeeze_44 rfl (lv_at hl 0 rfl) ?_
    exact g_iret (GG := GC cy ad) K hw (Option.some.inj hm).symm dX4_squeeze_45
set_option maxRecDepth 100000 in
set_option maxHeartbeats 4000000 in
theorem c_X4_squeeze_a7 (l : Launch) (D : va_G) (cy : Nat → ClassId) (ad : Nat → Nat → Nat) (sz n : Nat) (S : CSt) (x0 : Nat) (x1 : Nat) (x2 : Int32) (hb_x0 : x0 < 9) (hb_x1 : x1 < 9) {out : Int32 × CSt} (hm : m_X4_squeeze_a7 n S x0 x1 x2 = some out) : Met l yX4_squeeze wsX4_squeeze rm_X4_squeeze_a7 (va_Pc [.ref (ad 3 x0), .ref (ad 5 x1), .int x2] (Pre D (tysC cy) (GC cy ad S) EV sz)) (va_Qi (fun r (u : CSt) => out = (r, u)) (fun u => Pst D (tysC cy) (AA (adrs (GC cy ad S)) sz) (GC cy ad u)) (AA (adrs (GC cy ad S)) sz)) 0 0 (AA (adrs (GC cy ad S)) sz) := by
  refine g_met (by decide) rfl (Nat.le_of_ble_eq_true rfl) ?_
  intro p e s m args below meth c K hw ls hl
  exact t_X4_squeeze_a7_0 (cy := cy) K n S x0 x1 x2 hb_x0 hb_x1 hm _ _ hw ls hl
end W_X4_squeeze_a7
section W_X4_squeeze_a8
variable {p : Program} {l : Launch} {e : Env} {s : State} {m : MethodId} {args : Array Value} {below : List Frame} {meth : Method} {c : Code} {D : va_G} {A : Nat → Prop} {cy : Nat → ClassId} {ad : Nat → Nat → Nat} {Q : State → Prop}
abbrev rm_X4_squeeze_a8 : Room := { frames := 1, cells := 0, slots := 0, locals := 21 }
set_option maxRecDepth 100000 in
set_option maxHeartbeats 4000000 in
theorem t_X4_squeeze_a8_L5 (K : Cx p s m args meth c D A (tysC cy) RX4 cX4_squeeze 5 (some .int) wsX4_squeeze EV) (n : Nat) (x0 : Nat) (x1 : Nat) (x2 : Int32) (hb_x0 : x0 < 9) (hb_x1 : x1 < 9) (z : (CSt × Int32)) (hE0 : ∀ w : (CSt × Int32), z = w → ∀ (H : Heap) (locs : List Loc), Wd D A s.heap (GC cy ad w.1) H locs → ∀ ls : Array Slot, lv_has ls 5 [(3, .int w.2)] → W p l e rm_X4_squeeze_a8 s m args below meth c H locs 0 0 Q (F0 m 44 ls [])) : ∀ (x : (CSt × Int32 × Int32)), lpO (b_X4_squeeze_a8_5 n x0 x1 x2) n x = some z → (fun (x : (CSt × Int32 × Int32)) => ∀ (H : Heap) (locs : List Loc), Wd D A s.heap (GC cy ad x.1) H locs → ∀ ls : Array Slot, lv_has ls 5 [(0, .ref (ad 3 x0)), (1, .ref (ad 6 x1)), (2, .int x2), (3, .int x.2.1), (4, .int x.2.2)] → W p l e rm_X4_squeeze_a8 s m args below meth c H locs 0 0 Q (F0 m 5 ls [])) x := by
  intro x hx0
  refine lpO_ind2 (P := fun (x : (CSt × Int32 × Int32)) => ∀ (H : Heap) (locs : List Loc), Wd D A s.heap (GC cy ad x.1) H locs → ∀ ls : Array Slot, lv_has ls 5 [(0, .ref (ad 3 x0)), (1, .ref (ad 6 x1)), (2, .int x2), (3, .int x.2.1), (4, .int x.2.2)] → W p l e rm_X4_squeeze_a8 s m args below meth c H locs 0 0 Q (F0 m 5 ls [])) (z := z) ?_ n x hx0
  clear hx0 x
  intro x out hm hg H locs hw ls hl 
  obtain ⟨hx, hb, hml, hown, hts, hr, hlo, hK, hA, hX⟩ := id K
  unfold b_X4_squeeze_a8_5 at hm
  refine lv_iload hx hb dX4_squeeze_5 (lv_at hl 4 rfl) ?_
  refine lv_aload_n hx hb dX4_squeeze_7 rfl (lv_at hl 0 rfl) ?_
  refine g_get (ref := "MigrantHeap$Shape") (C := RX4) (T := TX4) (N := 6) (ci := 4) K in_X4_squeeze_X4 hw 3 rfl hb_x0 rfl rfl 0 (by decide) (List.mem_of_getElem? (i := 1) rfl) rfl rfl dX4_squeeze_8 ?_
  refine lv_icmp_ge (tgt := 44) hx hb dX4_squeeze_11 (by decide) (fun c27 => ?_) (fun c27 => ?_)
  · replace hm := (if_pos c27).symm.trans hm
    obtain rfl := Option.some.inj hm
    exact hE0 _ hg.symm H locs hw ls (lv_sub hl [3] rfl)
  · replace hm := (if_neg c27).symm.trans hm
    refine lv_aload_n hx hb dX4_squeeze_14 rfl (lv_at hl 0 rfl) ?_
    refine g_get (ref := "MigrantHeap$Shape") (C := RX4) (T := TX4) (N := 6) (ci := 4) K in_X4_squeeze_X4 hw 3 rfl hb_x0 rfl rfl 1 (by decide) (List.mem_of_getElem? (i := 2) rfl) rfl rfl dX4_squeeze_15 ?_
    refine lv_iload hx hb dX4_squeeze_18 (lv_at hl 4 rfl) ?_
    obtain ⟨h28, hm⟩ := chkS hm
    refine g_iald K hw 4 0 rfl hb_x0 rfl rfl h28 dX4_squeeze_20 ?_
    refine lv_iload_n hx hb dX4_squeeze_21 rfl (lv_at hl 2 rfl) ?_
    obtain ⟨z30, hc29, hm⟩ := bindS hm
    refine g_calli (GG := GC cy ad) K hw (va_runSN (host := RX7) (As := [.int (x.1.1 6 x0 x.2.2.toNatClampNeg), .int x2]) (rest := []) (g_fix K) (c_X7_isIn l D cy ad H.size n x.1 (x.1.1 6 x0 x.2.2.toNatClampNeg) x2  hc29) ⟨va_cnB 2 (g_hts K) gX4_squeeze_X7_isIn_n43 rfl rfl rfl hX.1 (hts _ (List.mem_of_getElem? (i := 4) rfl)) (by decide +kernel) ⟨Nat.le_of_ble_eq_true rfl, Nat.le_of_ble_eq_true rfl⟩, hts _ (List.mem_of_getElem? (i := 3) rfl), trivial⟩ ⟨g_blind rides_none, g_pre (X2 := fun _ _ => True) K hw (fun _ _ _ => trivial)⟩ rfl rfl hl.1 rfl (lv_room (Nat.le_of_ble_eq_true rfl)) dX4_squeeze_22 ⟨Nat.le_of_ble_eq_true rfl, Nat.le_of_ble_eq_true rfl⟩) (fun r u H locs hp hw => ?_)
    obtain ⟨rfl, hu⟩ := hp
    rw [hu] at hw
    refine lv_if_ne (tgt := 38) hx hb dX4_squeeze_25 (by decide) (fun c31 => ?_) (fun c31 => ?_)
    · replace hm := (if_pos c31).symm.trans hm
      obtain ⟨x32, hx32, hm⟩ := nm_ex hm
      refine lv_iinc (v := x32) (lv' := [(4, .int x32), (0, .ref (ad 3 x0)), (1, .ref (ad 6 x1)), (2, .int x2), (3, .int x.2.1)]) hx hb dX4_squeeze_38 hl (k := 4) rfl (by rw [hx32]; rfl) (by decide) rfl (fun ls hl => ?_)
      refine lv_goto (tgt := 5) hx hb dX4_squeeze_41 (by decide) ?_
      obtain rfl := Option.some.inj hm
      exact hg H locs hw ls (lv_sub hl [1, 2, 3, 4, 0] rfl)
    · replace hm := (if_neg (fun h => h c31)).symm.trans hm
      refine lv_aload_n hx hb dX4_squeeze_28 rfl (lv_at hl 1 rfl) ?_
      refine lv_iload_n hx hb dX4_squeeze_29 rfl (lv_at hl 3 rfl) ?_
      refine lv_aload_n hx hb dX4_squeeze_30 rfl (lv_at hl 1 rfl) ?_
      refine lv_iload hx hb dX4_squeeze_31 (lv_at hl 4 rfl) ?_
      obtain ⟨h33, hm⟩ := chkS hm
      refine g_iald K hw 6 0 rfl hb_x1 rfl rfl h33 dX4_squeeze_33 ?_
      obtain ⟨h34, hm⟩ := chkS hm
      refine g_iast K hw 6 0 rfl hb_x1 rfl rfl h34 dX4_squeeze_34 (eC_8 cy ad x.1 x1 x.2.1.toNatClampNeg (x.1.1 8 x1 x.2.2.toNatClampNeg)) (fun H locs hw => ?_)
      obtain ⟨S35, hS35, hm⟩ := nm_ex hm
      rw [← hS35] at hw
      obtain ⟨x36, hx36, hm⟩ := nm_ex hm
      refine lv_iinc (v := x36) (lv' := [(3, .int x36), (0, .ref (ad 3 x0)), (1, .ref (ad 6 x1)), (2, .int x2), (4, .int x.2.2)]) hx hb dX4_squeeze_35 hl (k := 3) rfl (by rw [hx36]; rfl) (by decide) rfl (fun ls hl => ?_)
      obtain ⟨x37, hx37, hm⟩ := nm_ex hm
      refine lv_iinc (v := x37) (lv' := [(4, .int x37), (3, .int x36), (0, .ref (ad 3 x0)), (1, .ref (ad 6 x1)), (2, .int x2)]) hx hb dX4_squeeze_38 hl (k := 4) rfl (by rw [hx37]; rfl) (by decide) rfl (fun ls hl => ?_)
      refine lv_goto (tgt := 5) hx hb dX4_squeeze_41 (by decide) ?_
      obtain rfl := Option.some.inj hm
      exact hg H locs hw ls (lv_sub hl [2, 3, 4, 1, 0] rfl)
set_option maxRecDepth 100000 in
set_option maxHeartbeats 4000000 in
theorem t_X4_squeeze_a8_0 (K : Cx p s m args meth c D A (tysC cy) RX4 cX4_squeeze 5 (some .int) wsX4_squeeze EV) (n : Nat) (S : CSt) (x0 : Nat) (x1 : Nat) (x2 : Int32) (hb_x0 : x0 < 9) (hb_x1 : x1 < 9) {out : Int32 × CSt} (hm : m_X4_squeeze_a8 n S x0 x1 x2 = some out) : ∀ (H : Heap) (locs : List Loc), Wd D A s.heap (GC cy ad S) H locs → ∀ ls : Array Slot, lv_has ls 5 [(0, .ref (ad 3 x0)), (1, .ref (ad 6 x1)), (2, .int x2)] → W p l e rm_X4_squeeze_a8 s m args below meth c H locs 0 0 (MQ below (va_Qi (fun r (u : CSt) => out = (r, u)) (fun u => Pst D (tysC cy) A (GC cy ad u)) A) args s 0 0 A) (F0 m 0 ls []) := by
  intro H locs hw ls hl
  obtain ⟨hx, hb, hml, hown, hts, hr, hlo, hK, hA, hX⟩ := id K
  unfold m_X4_squeeze_a8 at hm
  refine lv_iconst (v := 0) hx hb dX4_squeeze_0 (by decide) ?_
  refine lv_istore_n (lv' := [(3, .int 0), (0, .ref (ad 3 x0)), (1, .ref (ad 6 x1)), (2, .int x2)]) hx hb dX4_squeeze_1 rfl hl (by decide) rfl (fun ls hl => ?_)
  refine lv_iconst (v := 0) hx hb dX4_squeeze_2 (by decide) ?_
  refine lv_istore (lv' := [(4, .int 0), (3, .int 0), (0, .ref (ad 3 x0)), (1, .ref (ad 6 x1)), (2, .int x2)]) hx hb dX4_squeeze_3 hl (by decide) rfl (fun ls hl => ?_)
  obtain ⟨z38, hz39, hm⟩ := bindS hm
  refine t_X4_squeeze_a8_L5 K n x0 x1 x2 hb_x0 hb_x1 z38 (fun w40 hww40 => ?_) ((S, 0, 0)) hz39 H locs hw ls (lv_sub hl [2, 3, 4, 1, 0] rfl)
  · intro H locs hw ls hl 
    try rw [hww40] at hm
    refine lv_iload_n hx hb dX4_squeeze_44 rfl (lv_at hl 0 rfl) ?_
    exact g_iret (GG := GC cy ad) K hw (Option.some.inj hm).symm dX4_squeeze_45
set_option maxRecDepth 100000 in
set_option maxHeartbeats 4000000 in
theorem c_X4_squeeze_a8 (l : Launch) (D : va_G) (cy : Nat → ClassId) (ad : Nat → Nat → Nat) (sz n : Nat) (S : CSt) (x0 : Nat) (x1 : Nat) (x2 : Int32) (hb_x0 : x0 < 9) (hb_x1 : x1 < 9) {out : Int32 × CSt} (hm : m_X4_squeeze_a8 n S x0 x1 x2 = some out) : Met l yX4_squeeze wsX4_squeeze rm_X4_squeeze_a8 (va_Pc [.ref (ad 3 x0), .ref (ad 6 x1), .int x2] (Pre D (tysC cy) (GC cy ad S) EV sz)) (va_Qi (fun r (u : CSt) => out = (r, u)) (fun u => Pst D (tysC cy) (AA (adrs (GC cy ad S)) sz) (GC cy ad u)) (AA (adrs (GC cy ad S)) sz)) 0 0 (AA (adrs (GC cy ad S)) sz) := by
  refine g_met (by decide) rfl (Nat.le_of_ble_eq_true rfl) ?_
  intro p e s m args below meth c K hw ls hl
  exact t_X4_squeeze_a8_0 (cy := cy) K n S x0 x1 x2 hb_x0 hb_x1 hm _ _ hw ls hl
end W_X4_squeeze_a8
section W_X4_squeeze_a9
variable {p : Program} {l : Launch} {e : Env} {s : State} {m : MethodId} {args : Array Value} {below : List Frame} {meth : Method} {c : Code} {D : va_G} {A : Nat → Prop} {cy : Nat → ClassId} {ad : Nat → Nat → Nat} {Q : State → Prop}
abbrev rm_X4_squeeze_a9 : Room := { frames := 1, cells := 0, slots := 0, locals := 21 }
set_option maxRecDepth 100000 in
set_option maxHeartbeats 4000000 in
theorem t_X4_squeeze_a9_L5 (K : Cx p s m args meth c D A (tysC cy) RX4 cX4_squeeze 5 (some .int) wsX4_squeeze EV) (n : Nat) (x0 : Nat) (x1 : Nat) (x2 : Int32) (hb_x0 : x0 < 9) (hb_x1 : x1 < 9) (z : (CSt × Int32)) (hE0 : ∀ w : (CSt × Int32), z = w → ∀ (H : Heap) (locs : List Loc), Wd D A s.heap (GC cy ad w.1) H locs → ∀ ls : Array Slot, lv_has ls 5 [(3, .int w.2)] → W p l e rm_X4_squeeze_a9 s m args below meth c H locs 0 0 Q (F0 m 44 ls [])) : ∀ (x : (CSt × Int32 × Int32)), lpO (b_X4_squeeze_a9_5 n x0 x1 x2) n x = some z → (fun (x : (CSt × Int32 × Int32)) => ∀ (H : Heap) (locs : List Loc), Wd D A s.heap (GC cy ad x.1) H locs → ∀ ls : Array Slot, lv_has ls 5 [(0, .ref (ad 3 x0)), (1, .ref (ad 7 x1)), (2, .int x2), (3, .int x.2.1), (4, .int x.2.2)] → W p l e rm_X4_squeeze_a9 s m args below meth c H locs 0 0 Q (F0 m 5 ls [])) x := by
  intro x hx0
  refine lpO_ind2 (P := fun (x : (CSt × Int32 × Int32)) => ∀ (H : Heap) (locs : List Loc), Wd D A s.heap (GC cy ad x.1) H locs → ∀ ls : Array Slot, lv_has ls 5 [(0, .ref (ad 3 x0)), (1, .ref (ad 7 x1)), (2, .int x2), (3, .int x.2.1), (4, .int x.2.2)] → W p l e rm_X4_squeeze_a9 s m args below meth c H locs 0 0 Q (F0 m 5 ls [])) (z := z) ?_ n x hx0
  clear hx0 x
  intro x out hm hg H locs hw ls hl 
  obtain ⟨hx, hb, hml, hown, hts, hr, hlo, hK, hA, hX⟩ := id K
  unfold b_X4_squeeze_a9_5 at hm
  refine lv_iload hx hb dX4_squeeze_5 (lv_at hl 4 rfl) ?_
  refine lv_aload_n hx hb dX4_squeeze_7 rfl (lv_at hl 0 rfl) ?_
  refine g_get (ref := "MigrantHeap$Shape") (C := RX4) (T := TX4) (N := 6) (ci := 4) K in_X4_squeeze_X4 hw 3 rfl hb_x0 rfl rfl 0 (by decide) (List.mem_of_getElem? (i := 1) rfl) rfl rfl dX4_squeeze_8 ?_
  refine lv_icmp_ge (tgt := 44) hx hb dX4_squeeze_11 (by decide) (fun c27 => ?_) (fun c27 => ?_)
  · replace hm := (if_pos c27).symm.trans hm
    obtain rfl := Option.some.inj hm
    exact hE0 _ hg.symm H locs hw ls (lv_sub hl [3] rfl)
  · replace hm := (if_neg c27).symm.trans hm
    refine lv_aload_n hx hb dX4_squeeze_14 rfl (lv_at hl 0 rfl) ?_
    refine g_get (ref := "MigrantHeap$Shape") (C := RX4) (T := TX4) (N := 6) (ci := 4) K in_X4_squeeze_X4 hw 3 rfl hb_x0 rfl rfl 1 (by decide) (List.mem_of_getElem? (i := 2) rfl) rfl rfl dX4_squeeze_15 ?_
    refine lv_iload hx hb dX4_squeeze_18 (lv_at hl 4 rfl) ?_
    obtain ⟨h28, hm⟩ := chkS hm
    refine g_iald K hw 4 0 rfl hb_x0 rfl rfl h28 dX4_squeeze_20 ?_
    refine lv_iload_n hx hb dX4_squeeze_21 rfl (lv_at hl 2 rfl) ?_
    obtain ⟨z30, hc29, hm⟩ := bindS hm
    refine g_calli (GG := GC cy ad) K hw (va_runSN (host := RX7) (As := [.int (x.1.1 6 x0 x.2.2.toNatClampNeg), .int x2]) (rest := []) (g_fix K) (c_X7_isIn l D cy ad H.size n x.1 (x.1.1 6 x0 x.2.2.toNatClampNeg) x2  hc29) ⟨va_cnB 2 (g_hts K) gX4_squeeze_X7_isIn_n43 rfl rfl rfl hX.1 (hts _ (List.mem_of_getElem? (i := 4) rfl)) (by decide +kernel) ⟨Nat.le_of_ble_eq_true rfl, Nat.le_of_ble_eq_true rfl⟩, hts _ (List.mem_of_getElem? (i := 3) rfl), trivial⟩ ⟨g_blind rides_none, g_pre (X2 := fun _ _ => True) K hw (fun _ _ _ => trivial)⟩ rfl rfl hl.1 rfl (lv_room (Nat.le_of_ble_eq_true rfl)) dX4_squeeze_22 ⟨Nat.le_of_ble_eq_true rfl, Nat.le_of_ble_eq_true rfl⟩) (fun r u H locs hp hw => ?_)
    obtain ⟨rfl, hu⟩ := hp
    rw [hu] at hw
    refine lv_if_ne (tgt := 38) hx hb dX4_squeeze_25 (by decide) (fun c31 => ?_) (fun c31 => ?_)
    · replace hm := (if_pos c31).symm.trans hm
      obtain ⟨x32, hx32, hm⟩ := nm_ex hm
      refine lv_iinc (v := x32) (lv' := [(4, .int x32), (0, .ref (ad 3 x0)), (1, .ref (ad 7 x1)), (2, .int x2), (3, .int x.2.1)]) hx hb dX4_squeeze_38 hl (k := 4) rfl (by rw [hx32]; rfl) (by decide) rfl (fun ls hl => ?_)
      refine lv_goto (tgt := 5) hx hb dX4_squeeze_41 (by decide) ?_
      obtain rfl := Option.some.inj hm
      exact hg H locs hw ls (lv_sub hl [1, 2, 3, 4, 0] rfl)
    · replace hm := (if_neg (fun h => h c31)).symm.trans hm
      refine lv_aload_n hx hb dX4_squeeze_28 rfl (lv_at hl 1 rfl) ?_
      refine lv_iload_n hx hb dX4_squeeze_29 rfl (lv_at hl 3 rfl) ?_
      refine lv_aload_n hx hb dX4_squeeze_30 rfl (lv_at hl 1 rfl) ?_
      refine lv_iload hx hb dX4_squeeze_31 (lv_at hl 4 rfl) ?_
      obtain ⟨h33, hm⟩ := chkS hm
      refine g_iald K hw 7 0 rfl hb_x1 rfl rfl h33 dX4_squeeze_33 ?_
      obtain ⟨h34, hm⟩ := chkS hm
      refine g_iast K hw 7 0 rfl hb_x1 rfl rfl h34 dX4_squeeze_34 (eC_9 cy ad x.1 x1 x.2.1.toNatClampNeg (x.1.1 9 x1 x.2.2.toNatClampNeg)) (fun H locs hw => ?_)
      obtain ⟨S35, hS35, hm⟩ := nm_ex hm
      rw [← hS35] at hw
      obtain ⟨x36, hx36, hm⟩ := nm_ex hm
      refine lv_iinc (v := x36) (lv' := [(3, .int x36), (0, .ref (ad 3 x0)), (1, .ref (ad 7 x1)), (2, .int x2), (4, .int x.2.2)]) hx hb dX4_squeeze_35 hl (k := 3) rfl (by rw [hx36]; rfl) (by decide) rfl (fun ls hl => ?_)
      obtain ⟨x37, hx37, hm⟩ := nm_ex hm
      refine lv_iinc (v := x37) (lv' := [(4, .int x37), (3, .int x36), (0, .ref (ad 3 x0)), (1, .ref (ad 7 x1)), (2, .int x2)]) hx hb dX4_squeeze_38 hl (k := 4) rfl (by rw [hx37]; rfl) (by decide) rfl (fun ls hl => ?_)
      refine lv_goto (tgt := 5) hx hb dX4_squeeze_41 (by decide) ?_
      obtain rfl := Option.some.inj hm
      exact hg H locs hw ls (lv_sub hl [2, 3, 4, 1, 0] rfl)
set_option maxRecDepth 100000 in
set_option maxHeartbeats 4000000 in
theorem t_X4_squeeze_a9_0 (K : Cx p s m args meth c D A (tysC cy) RX4 cX4_squeeze 5 (some .int) wsX4_squeeze EV) (n : Nat) (S : CSt) (x0 : Nat) (x1 : Nat) (x2 : Int32) (hb_x0 : x0 < 9) (hb_x1 : x1 < 9) {out : Int32 × CSt} (hm : m_X4_squeeze_a9 n S x0 x1 x2 = some out) : ∀ (H : Heap) (locs : List Loc), Wd D A s.heap (GC cy ad S) H locs → ∀ ls : Array Slot, lv_has ls 5 [(0, .ref (ad 3 x0)), (1, .ref (ad 7 x1)), (2, .int x2)] → W p l e rm_X4_squeeze_a9 s m args below meth c H locs 0 0 (MQ below (va_Qi (fun r (u : CSt) => out = (r, u)) (fun u => Pst D (tysC cy) A (GC cy ad u)) A) args s 0 0 A) (F0 m 0 ls []) := by
  intro H locs hw ls hl
  obtain ⟨hx, hb, hml, hown, hts, hr, hlo, hK, hA, hX⟩ := id K
  unfold m_X4_squeeze_a9 at hm
  refine lv_iconst (v := 0) hx hb dX4_squeeze_0 (by decide) ?_
  refine lv_istore_n (lv' := [(3, .int 0), (0, .ref (ad 3 x0)), (1, .ref (ad 7 x1)), (2, .int x2)]) hx hb dX4_squeeze_1 rfl hl (by decide) rfl (fun ls hl => ?_)
  refine lv_iconst (v := 0) hx hb dX4_squeeze_2 (by decide) ?_
  refine lv_istore (lv' := [(4, .int 0), (3, .int 0), (0, .ref (ad 3 x0)), (1, .ref (ad 7 x1)), (2, .int x2)]) hx hb dX4_squeeze_3 hl (by decide) rfl (fun ls hl => ?_)
  obtain ⟨z38, hz39, hm⟩ := bindS hm
  refine t_X4_squeeze_a9_L5 K n x0 x1 x2 hb_x0 hb_x1 z38 (fun w40 hww40 => ?_) ((S, 0, 0)) hz39 H locs hw ls (lv_sub hl [2, 3, 4, 1, 0] rfl)
  · intro H locs hw ls hl 
    try rw [hww40] at hm
    refine lv_iload_n hx hb dX4_squeeze_44 rfl (lv_at hl 0 rfl) ?_
    exact g_iret (GG := GC cy ad) K hw (Option.some.inj hm).symm dX4_squeeze_45
set_option maxRecDepth 100000 in
set_option maxHeartbeats 4000000 in
theorem c_X4_squeeze_a9 (l : Launch) (D : va_G) (cy : Nat → ClassId) (ad : Nat → Nat → Nat) (sz n : Nat) (S : CSt) (x0 : Nat) (x1 : Nat) (x2 : Int32) (hb_x0 : x0 < 9) (hb_x1 : x1 < 9) {out : Int32 × CSt} (hm : m_X4_squeeze_a9 n S x0 x1 x2 = some out) : Met l yX4_squeeze wsX4_squeeze rm_X4_squeeze_a9 (va_Pc [.ref (ad 3 x0), .ref (ad 7 x1), .int x2] (Pre D (tysC cy) (GC cy ad S) EV sz)) (va_Qi (fun r (u : CSt) => out = (r, u)) (fun u => Pst D (tysC cy) (AA (adrs (GC cy ad S)) sz) (GC cy ad u)) (AA (adrs (GC cy ad S)) sz)) 0 0 (AA (adrs (GC cy ad S)) sz) := by
  refine g_met (by decide) rfl (Nat.le_of_ble_eq_true rfl) ?_
  intro p e s m args below meth c K hw ls hl
  exact t_X4_squeeze_a9_0 (cy := cy) K n S x0 x1 x2 hb_x0 hb_x1 hm _ _ hw ls hl
end W_X4_squeeze_a9
section W_X4_squeeze_a10
variable {p : Program} {l : Launch} {e : Env} {s : State} {m : MethodId} {args : Array Value} {below : List Frame} {meth : Method} {c : Code} {D : va_G} {A : Nat → Prop} {cy : Nat → ClassId} {ad : Nat → Nat → Nat} {Q : State → Prop}
abbrev rm_X4_squeeze_a10 : Room := { frames := 1, cells := 0, slots := 0, locals := 21 }
set_option maxRecDepth 100000 in
set_option maxHeartbeats 4000000 in
theorem t_X4_squeeze_a10_L5 (K : Cx p s m args meth c D A (tysC cy) RX4 cX4_squeeze 5 (some .int) wsX4_squeeze EV) (n : Nat) (x0 : Nat) (x1 : Nat) (x2 : Int32) (hb_x0 : x0 < 9) (hb_x1 : x1 < 9) (z : (CSt × Int32)) (hE0 : ∀ w : (CSt × Int32), z = w → ∀ (H : Heap) (locs : List Loc), Wd D A s.heap (GC cy ad w.1) H locs → ∀ ls : Array Slot, lv_has ls 5 [(3, .int w.2)] → W p l e rm_X4_squeeze_a10 s m args below meth c H locs 0 0 Q (F0 m 44 ls [])) : ∀ (x : (CSt × Int32 × Int32)), lpO (b_X4_squeeze_a10_5 n x0 x1 x2) n x = some z → (fun (x : (CSt × Int32 × Int32)) => ∀ (H : Heap) (locs : List Loc), Wd D A s.heap (GC cy ad x.1) H locs → ∀ ls : Array Slot, lv_has ls 5 [(0, .ref (ad 3 x0)), (1, .ref (ad 8 x1)), (2, .int x2), (3, .int x.2.1), (4, .int x.2.2)] → W p l e rm_X4_squeeze_a10 s m args below meth c H locs 0 0 Q (F0 m 5 ls [])) x := by
  intro x hx0
  refine lpO_ind2 (P := fun (x : (CSt × Int32 × Int32)) => ∀ (H : Heap) (locs : List Loc), Wd D A s.heap (GC cy ad x.1) H locs → ∀ ls : Array Slot, lv_has ls 5 [(0, .ref (ad 3 x0)), (1, .ref (ad 8 x1)), (2, .int x2), (3, .int x.2.1), (4, .int x.2.2)] → W p l e rm_X4_squeeze_a10 s m args below meth c H locs 0 0 Q (F0 m 5 ls [])) (z := z) ?_ n x hx0
  clear hx0 x
  intro x out hm hg H locs hw ls hl 
  obtain ⟨hx, hb, hml, hown, hts, hr, hlo, hK, hA, hX⟩ := id K
  unfold b_X4_squeeze_a10_5 at hm
  refine lv_iload hx hb dX4_squeeze_5 (lv_at hl 4 rfl) ?_
  refine lv_aload_n hx hb dX4_squeeze_7 rfl (lv_at hl 0 rfl) ?_
  refine g_get (ref := "MigrantHeap$Shape") (C := RX4) (T := TX4) (N := 6) (ci := 4) K in_X4_squeeze_X4 hw 3 rfl hb_x0 rfl rfl 0 (by decide) (List.mem_of_getElem? (i := 1) rfl) rfl rfl dX4_squeeze_8 ?_
  refine lv_icmp_ge (tgt := 44) hx hb dX4_squeeze_11 (by decide) (fun c27 => ?_) (fun c27 => ?_)
  · replace hm := (if_pos c27).symm.trans hm
    obtain rfl := Option.some.inj hm
    exact hE0 _ hg.symm H locs hw ls (lv_sub hl [3] rfl)
  · replace hm := (if_neg c27).symm.trans hm
    refine lv_aload_n hx hb dX4_squeeze_14 rfl (lv_at hl 0 rfl) ?_
    refine g_get (ref := "MigrantHeap$Shape") (C := RX4) (T := TX4) (N := 6) (ci := 4) K in_X4_squeeze_X4 hw 3 rfl hb_x0 rfl rfl 1 (by decide) (List.mem_of_getElem? (i := 2) rfl) rfl rfl dX4_squeeze_15 ?_
    refine lv_iload hx hb dX4_squeeze_18 (lv_at hl 4 rfl) ?_
    obtain ⟨h28, hm⟩ := chkS hm
    refine g_iald K hw 4 0 rfl hb_x0 rfl rfl h28 dX4_squeeze_20 ?_
    refine lv_iload_n hx hb dX4_squeeze_21 rfl (lv_at hl 2 rfl) ?_
    obtain ⟨z30, hc29, hm⟩ := bindS hm
    refine g_calli (GG := GC cy ad) K hw (va_runSN (host := RX7) (As := [.int (x.1.1 6 x0 x.2.2.toNatClampNeg), .int x2]) (rest := []) (g_fix K) (c_X7_isIn l D cy ad H.size n x.1 (x.1.1 6 x0 x.2.2.toNatClampNeg) x2  hc29) ⟨va_cnB 2 (g_hts K) gX4_squeeze_X7_isIn_n43 rfl rfl rfl hX.1 (hts _ (List.mem_of_getElem? (i := 4) rfl)) (by decide +kernel) ⟨Nat.le_of_ble_eq_true rfl, Nat.le_of_ble_eq_true rfl⟩, hts _ (List.mem_of_getElem? (i := 3) rfl), trivial⟩ ⟨g_blind rides_none, g_pre (X2 := fun _ _ => True) K hw (fun _ _ _ => trivial)⟩ rfl rfl hl.1 rfl (lv_room (Nat.le_of_ble_eq_true rfl)) dX4_squeeze_22 ⟨Nat.le_of_ble_eq_true rfl, Nat.le_of_ble_eq_true rfl⟩) (fun r u H locs hp hw => ?_)
    obtain ⟨rfl, hu⟩ := hp
    rw [hu] at hw
    refine lv_if_ne (tgt := 38) hx hb dX4_squeeze_25 (by decide) (fun c31 => ?_) (fun c31 => ?_)
    · replace hm := (if_pos c31).symm.trans hm
      obtain ⟨x32, hx32, hm⟩ := nm_ex hm
      refine lv_iinc (v := x32) (lv' := [(4, .int x32), (0, .ref (ad 3 x0)), (1, .ref (ad 8 x1)), (2, .int x2), (3, .int x.2.1)]) hx hb dX4_squeeze_38 hl (k := 4) rfl (by rw [hx32]; rfl) (by decide) rfl (fun ls hl => ?_)
      refine lv_goto (tgt := 5) hx hb dX4_squeeze_41 (by decide) ?_
      obtain rfl := Option.some.inj hm
      exact hg H locs hw ls (lv_sub hl [1, 2, 3, 4, 0] rfl)
    · replace hm := (if_neg (fun h => h c31)).symm.trans hm
      refine lv_aload_n hx hb dX4_squeeze_28 rfl (lv_at hl 1 rfl) ?_
      refine lv_iload_n hx hb dX4_squeeze_29 rfl (lv_at hl 3 rfl) ?_
      refine lv_aload_n hx hb dX4_squeeze_30 rfl (lv_at hl 1 rfl) ?_
      refine lv_iload hx hb dX4_squeeze_31 (lv_at hl 4 rfl) ?_
      obtain ⟨h33, hm⟩ := chkS hm
      refine g_iald K hw 8 0 rfl hb_x1 rfl rfl h33 dX4_squeeze_33 ?_
      obtain ⟨h34, hm⟩ := chkS hm
      refine g_iast K hw 8 0 rfl hb_x1 rfl rfl h34 dX4_squeeze_34 (eC_10 cy ad x.1 x1 x.2.1.toNatClampNeg (x.1.1 10 x1 x.2.2.toNatClampNeg)) (fun H locs hw => ?_)
      obtain ⟨S35, hS35, hm⟩ := nm_ex hm
      rw [← hS35] at hw
      obtain ⟨x36, hx36, hm⟩ := nm_ex hm
      refine lv_iinc (v := x36) (lv' := [(3, .int x36), (0, .ref (ad 3 x0)), (1, .ref (ad 8 x1)), (2, .int x2), (4, .int x.2.2)]) hx hb dX4_squeeze_35 hl (k := 3) rfl (by rw [hx36]; rfl) (by decide) rfl (fun ls hl => ?_)
      obtain ⟨x37, hx37, hm⟩ := nm_ex hm
      refine lv_iinc (v := x37) (lv' := [(4, .int x37), (3, .int x36), (0, .ref (ad 3 x0)), (1, .ref (ad 8 x1)), (2, .int x2)]) hx hb dX4_squeeze_38 hl (k := 4) rfl (by rw [hx37]; rfl) (by decide) rfl (fun ls hl => ?_)
      refine lv_goto (tgt := 5) hx hb dX4_squeeze_41 (by decide) ?_
      obtain rfl := Option.some.inj hm
      exact hg H locs hw ls (lv_sub hl [2, 3, 4, 1, 0] rfl)
set_option maxRecDepth 100000 in
set_option maxHeartbeats 4000000 in
theorem t_X4_squeeze_a10_0 (K : Cx p s m args meth c D A (tysC cy) RX4 cX4_squeeze 5 (some .int) wsX4_squeeze EV) (n : Nat) (S : CSt) (x0 : Nat) (x1 : Nat) (x2 : Int32) (hb_x0 : x0 < 9) (hb_x1 : x1 < 9) {out : Int32 × CSt} (hm : m_X4_squeeze_a10 n S x0 x1 x2 = some out) : ∀ (H : Heap) (locs : List Loc), Wd D A s.heap (GC cy ad S) H locs → ∀ ls : Array Slot, lv_has ls 5 [(0, .ref (ad 3 x0)), (1, .ref (ad 8 x1)), (2, .int x2)] → W p l e rm_X4_squeeze_a10 s m args below meth c H locs 0 0 (MQ below (va_Qi (fun r (u : CSt) => out = (r, u)) (fun u => Pst D (tysC cy) A (GC cy ad u)) A) args s 0 0 A) (F0 m 0 ls []) := by
  intro H locs hw ls hl
  obtain ⟨hx, hb, hml, hown, hts, hr, hlo, hK, hA, hX⟩ := id K
  unfold m_X4_squeeze_a10 at hm
  refine lv_iconst (v := 0) hx hb dX4_squeeze_0 (by decide) ?_
  refine lv_istore_n (lv' := [(3, .int 0), (0, .ref (ad 3 x0)), (1, .ref (ad 8 x1)), (2, .int x2)]) hx hb dX4_squeeze_1 rfl hl (by decide) rfl (fun ls hl => ?_)
  refine lv_iconst (v := 0) hx hb dX4_squeeze_2 (by decide) ?_
  refine lv_istore (lv' := [(4, .int 0), (3, .int 0), (0, .ref (ad 3 x0)), (1, .ref (ad 8 x1)), (2, .int x2)]) hx hb dX4_squeeze_3 hl (by decide) rfl (fun ls hl => ?_)
  obtain ⟨z38, hz39, hm⟩ := bindS hm
  refine t_X4_squeeze_a10_L5 K n x0 x1 x2 hb_x0 hb_x1 z38 (fun w40 hww40 => ?_) ((S, 0, 0)) hz39 H locs hw ls (lv_sub hl [2, 3, 4, 1, 0] rfl)
  · intro H locs hw ls hl 
    try rw [hww40] at hm
    refine lv_iload_n hx hb dX4_squeeze_44 rfl (lv_at hl 0 rfl) ?_
    exact g_iret (GG := GC cy ad) K hw (Option.some.inj hm).symm dX4_squeeze_45
set_option maxRecDepth 100000 in
set_option maxHeartbeats 4000000 in
theorem c_X4_squeeze_a10 (l : Launch) (D : va_G) (cy : Nat → ClassId) (ad : Nat → Nat → Nat) (sz n : Nat) (S : CSt) (x0 : Nat) (x1 : Nat) (x2 : Int32) (hb_x0 : x0 < 9) (hb_x1 : x1 < 9) {out : Int32 × CSt} (hm : m_X4_squeeze_a10 n S x0 x1 x2 = some out) : Met l yX4_squeeze wsX4_squeeze rm_X4_squeeze_a10 (va_Pc [.ref (ad 3 x0), .ref (ad 8 x1), .int x2] (Pre D (tysC cy) (GC cy ad S) EV sz)) (va_Qi (fun r (u : CSt) => out = (r, u)) (fun u => Pst D (tysC cy) (AA (adrs (GC cy ad S)) sz) (GC cy ad u)) (AA (adrs (GC cy ad S)) sz)) 0 0 (AA (adrs (GC cy ad S)) sz) := by
  refine g_met (by decide) rfl (Nat.le_of_ble_eq_true rfl) ?_
  intro p e s m args below meth c K hw ls hl
  exact t_X4_squeeze_a10_0 (cy := cy) K n S x0 x1 x2 hb_x0 hb_x1 hm _ _ hw ls hl
end W_X4_squeeze_a10
section W_X4_squeeze_a6
variable {p : Program} {l : Launch} {e : Env} {s : State} {m : MethodId} {args : Array Value} {below : List Frame} {meth : Method} {c : Code} {D : va_G} {A : Nat → Prop} {cy : Nat → ClassId} {ad : Nat → Nat → Nat} {Q : State → Prop}
abbrev rm_X4_squeeze_a6 : Room := { frames := 1, cells := 0, slots := 0, locals := 21 }
set_option maxRecDepth 100000 in
set_option maxHeartbeats 4000000 in
theorem t_X4_squeeze_a6_L5 (K : Cx p s m args meth c D A (tysC cy) RX4 cX4_squeeze 5 (some .int) wsX4_squeeze EV) (n : Nat) (x0 : Nat) (x1 : Nat) (x2 : Int32) (hb_x0 : x0 < 9) (hb_x1 : x1 < 9) (z : (CSt × Int32)) (hE0 : ∀ w : (CSt × Int32), z = w → ∀ (H : Heap) (locs : List Loc), Wd D A s.heap (GC cy ad w.1) H locs → ∀ ls : Array Slot, lv_has ls 5 [(3, .int w.2)] → W p l e rm_X4_squeeze_a6 s m args below meth c H locs 0 0 Q (F0 m 44 ls [])) : ∀ (x : (CSt × Int32 × Int32)), lpO (b_X4_squeeze_a6_5 n x0 x1 x2) n x = some z → (fun (x : (CSt × Int32 × Int32)) => ∀ (H : Heap) (locs : List Loc), Wd D A s.heap (GC cy ad x.1) H locs → ∀ ls : Array Slot, lv_has ls 5 [(0, .ref (ad 3 x0)), (1, .ref (ad 4 x1)), (2, .int x2), (3, .int x.2.1), (4, .int x.2.2)] → W p l e rm_X4_squeeze_a6 s m args below meth c H locs 0 0 Q (F0 m 5 ls [])) x := by
  intro x hx0
  refine lpO_ind2 (P := fun (x : (CSt × Int32 × Int32)) => ∀ (H : Heap) (locs : List Loc), Wd D A s.heap (GC cy ad x.1) H locs → ∀ ls : Array Slot, lv_has ls 5 [(0, .ref (ad 3 x0)), (1, .ref (ad 4 x1)), (2, .int x2), (3, .int x.2.1), (4, .int x.2.2)] → W p l e rm_X4_squeeze_a6 s m args below meth c H locs 0 0 Q (F0 m 5 ls [])) (z := z) ?_ n x hx0
  clear hx0 x
  intro x out hm hg H locs hw ls hl 
  obtain ⟨hx, hb, hml, hown, hts, hr, hlo, hK, hA, hX⟩ := id K
  unfold b_X4_squeeze_a6_5 at hm
  refine lv_iload hx hb dX4_squeeze_5 (lv_at hl 4 rfl) ?_
  refine lv_aload_n hx hb dX4_squeeze_7 rfl (lv_at hl 0 rfl) ?_
  refine g_get (ref := "MigrantHeap$Shape") (C := RX4) (T := TX4) (N := 6) (ci := 4) K in_X4_squeeze_X4 hw 3 rfl hb_x0 rfl rfl 0 (by decide) (List.mem_of_getElem? (i := 1) rfl) rfl rfl dX4_squeeze_8 ?_
  refine lv_icmp_ge (tgt := 44) hx hb dX4_squeeze_11 (by decide) (fun c27 => ?_) (fun c27 => ?_)
  · replace hm := (if_pos c27).symm.trans hm
    obtain rfl := Option.some.inj hm
    exact hE0 _ hg.symm H locs hw ls (lv_sub hl [3] rfl)
  · replace hm := (if_neg c27).symm.trans hm
    refine lv_aload_n hx hb dX4_squeeze_14 rfl (lv_at hl 0 rfl) ?_
    refine g_get (ref := "MigrantHeap$Shape") (C := RX4) (T := TX4) (N := 6) (ci := 4) K in_X4_squeeze_X4 hw 3 rfl hb_x0 rfl rfl 1 (by decide) (List.mem_of_getElem? (i := 2) rfl) rfl rfl dX4_squeeze_15 ?_
    refine lv_iload hx hb dX4_squeeze_18 (lv_at hl 4 rfl) ?_
    obtain ⟨h28, hm⟩ := chkS hm
    refine g_iald K hw 4 0 rfl hb_x0 rfl rfl h28 dX4_squeeze_20 ?_
    refine lv_iload_n hx hb dX4_squeeze_21 rfl (lv_at hl 2 rfl) ?_
    obtain ⟨z30, hc29, hm⟩ := bindS hm
    refine g_calli (GG := GC cy ad) K hw (va_runSN (host := RX7) (As := [.int (x.1.1 6 x0 x.2.2.toNatClampNeg), .int x2]) (rest := []) (g_fix K) (c_X7_isIn l D cy ad H.size n x.1 (x.1.1 6 x0 x.2.2.toNatClampNeg) x2  hc29) ⟨va_cnB 2 (g_hts K) gX4_squeeze_X7_isIn_n43 rfl rfl rfl hX.1 (hts _ (List.mem_of_getElem? (i := 4) rfl)) (by decide +kernel) ⟨Nat.le_of_ble_eq_true rfl, Nat.le_of_ble_eq_true rfl⟩, hts _ (List.mem_of_getElem? (i := 3) rfl), trivial⟩ ⟨g_blind rides_none, g_pre (X2 := fun _ _ => True) K hw (fun _ _ _ => trivial)⟩ rfl rfl hl.1 rfl (lv_room (Nat.le_of_ble_eq_true rfl)) dX4_squeeze_22 ⟨Nat.le_of_ble_eq_true rfl, Nat.le_of_ble_eq_true rfl⟩) (fun r u H locs hp hw => ?_)
    obtain ⟨rfl, hu⟩ := hp
    rw [hu] at hw
    refine lv_if_ne (tgt := 38) hx hb dX4_squeeze_25 (by decide) (fun c31 => ?_) (fun c31 => ?_)
    · replace hm := (if_pos c31).symm.trans hm
      obtain ⟨x32, hx32, hm⟩ := nm_ex hm
      refine lv_iinc (v := x32) (lv' := [(4, .int x32), (0, .ref (ad 3 x0)), (1, .ref (ad 4 x1)), (2, .int x2), (3, .int x.2.1)]) hx hb dX4_squeeze_38 hl (k := 4) rfl (by rw [hx32]; rfl) (by decide) rfl (fun ls hl => ?_)
      refine lv_goto (tgt := 5) hx hb dX4_squeeze_41 (by decide) ?_
      obtain rfl := Option.some.inj hm
      exact hg H locs hw ls (lv_sub hl [1, 2, 3, 4, 0] rfl)
    · replace hm := (if_neg (fun h => h c31)).symm.trans hm
      refine lv_aload_n hx hb dX4_squeeze_28 rfl (lv_at hl 1 rfl) ?_
      refine lv_iload_n hx hb dX4_squeeze_29 rfl (lv_at hl 3 rfl) ?_
      refine lv_aload_n hx hb dX4_squeeze_30 rfl (lv_at hl 1 rfl) ?_
      refine lv_iload hx hb dX4_squeeze_31 (lv_at hl 4 rfl) ?_
      obtain ⟨h33, hm⟩ := chkS hm
      refine g_iald K hw 4 0 rfl hb_x1 rfl rfl h33 dX4_squeeze_33 ?_
      obtain ⟨h34, hm⟩ := chkS hm
      refine g_iast K hw 4 0 rfl hb_x1 rfl rfl h34 dX4_squeeze_34 (eC_6 cy ad x.1 x1 x.2.1.toNatClampNeg (x.1.1 6 x1 x.2.2.toNatClampNeg)) (fun H locs hw => ?_)
      obtain ⟨S35, hS35, hm⟩ := nm_ex hm
      rw [← hS35] at hw
      obtain ⟨x36, hx36, hm⟩ := nm_ex hm
      refine lv_iinc (v := x36) (lv' := [(3, .int x36), (0, .ref (ad 3 x0)), (1, .ref (ad 4 x1)), (2, .int x2), (4, .int x.2.2)]) hx hb dX4_squeeze_35 hl (k := 3) rfl (by rw [hx36]; rfl) (by decide) rfl (fun ls hl => ?_)
      obtain ⟨x37, hx37, hm⟩ := nm_ex hm
      refine lv_iinc (v := x37) (lv' := [(4, .int x37), (3, .int x36), (0, .ref (ad 3 x0)), (1, .ref (ad 4 x1)), (2, .int x2)]) hx hb dX4_squeeze_38 hl (k := 4) rfl (by rw [hx37]; rfl) (by decide) rfl (fun ls hl => ?_)
      refine lv_goto (tgt := 5) hx hb dX4_squeeze_41 (by decide) ?_
      obtain rfl := Option.some.inj hm
      exact hg H locs hw ls (lv_sub hl [2, 3, 4, 1, 0] rfl)
set_option maxRecDepth 100000 in
set_option maxHeartbeats 4000000 in
theorem t_X4_squeeze_a6_0 (K : Cx p s m args meth c D A (tysC cy) RX4 cX4_squeeze 5 (some .int) wsX4_squeeze EV) (n : Nat) (S : CSt) (x0 : Nat) (x1 : Nat) (x2 : Int32) (hb_x0 : x0 < 9) (hb_x1 : x1 < 9) {out : Int32 × CSt} (hm : m_X4_squeeze_a6 n S x0 x1 x2 = some out) : ∀ (H : Heap) (locs : List Loc), Wd D A s.heap (GC cy ad S) H locs → ∀ ls : Array Slot, lv_has ls 5 [(0, .ref (ad 3 x0)), (1, .ref (ad 4 x1)), (2, .int x2)] → W p l e rm_X4_squeeze_a6 s m args below meth c H locs 0 0 (MQ below (va_Qi (fun r (u : CSt) => out = (r, u)) (fun u => Pst D (tysC cy) A (GC cy ad u)) A) args s 0 0 A) (F0 m 0 ls []) := by
  intro H locs hw ls hl
  obtain ⟨hx, hb, hml, hown, hts, hr, hlo, hK, hA, hX⟩ := id K
  unfold m_X4_squeeze_a6 at hm
  refine lv_iconst (v := 0) hx hb dX4_squeeze_0 (by decide) ?_
  refine lv_istore_n (lv' := [(3, .int 0), (0, .ref (ad 3 x0)), (1, .ref (ad 4 x1)), (2, .int x2)]) hx hb dX4_squeeze_1 rfl hl (by decide) rfl (fun ls hl => ?_)
  refine lv_iconst (v := 0) hx hb dX4_squeeze_2 (by decide) ?_
  refine lv_istore (lv' := [(4, .int 0), (3, .int 0), (0, .ref (ad 3 x0)), (1, .ref (ad 4 x1)), (2, .int x2)]) hx hb dX4_squeeze_3 hl (by decide) rfl (fun ls hl => ?_)
  obtain ⟨z38, hz39, hm⟩ := bindS hm
  refine t_X4_squeeze_a6_L5 K n x0 x1 x2 hb_x0 hb_x1 z38 (fun w40 hww40 => ?_) ((S, 0, 0)) hz39 H locs hw ls (lv_sub hl [2, 3, 4, 1, 0] rfl)
  · intro H locs hw ls hl 
    try rw [hww40] at hm
    refine lv_iload_n hx hb dX4_squeeze_44 rfl (lv_at hl 0 rfl) ?_
    exact g_iret (GG := GC cy ad) K hw (Option.some.inj hm).symm dX4_squeeze_45
set_option maxRecDepth 100000 in
set_option maxHeartbeats 4000000 in
theorem c_X4_squeeze_a6 (l : Launch) (D : va_G) (cy : Nat → ClassId) (ad : Nat → Nat → Nat) (sz n : Nat) (S : CSt) (x0 : Nat) (x1 : Nat) (x2 : Int32) (hb_x0 : x0 < 9) (hb_x1 : x1 < 9) {out : Int32 × CSt} (hm : m_X4_squeeze_a6 n S x0 x1 x2 = some out) : Met l yX4_squeeze wsX4_squeeze rm_X4_squeeze_a6 (va_Pc [.ref (ad 3 x0), .ref (ad 4 x1), .int x2] (Pre D (tysC cy) (GC cy ad S) EV sz)) (va_Qi (fun r (u : CSt) => out = (r, u)) (fun u => Pst D (tysC cy) (AA (adrs (GC cy ad S)) sz) (GC cy ad u)) (AA (adrs (GC cy ad S)) sz)) 0 0 (AA (adrs (GC cy ad S)) sz) := by
  refine g_met (by decide) rfl (Nat.le_of_ble_eq_true rfl) ?_
  intro p e s m args below meth c K hw ls hl
  exact t_X4_squeeze_a6_0 (cy := cy) K n S x0 x1 x2 hb_x0 hb_x1 hm _ _ hw ls hl
end W_X4_squeeze_a6
