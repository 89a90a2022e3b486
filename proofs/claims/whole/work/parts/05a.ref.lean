section W_X8_thrown
variable {p : Program} {l : Launch} {e : Env} {s : State} {m : MethodId} {args : Array Value} {below : List Frame} {meth : Method} {c : Code} {D : va_G} {A : Nat → Prop} {cy : Nat → ClassId} {ad : Nat → Nat → Nat} {Q : State → Prop}
abbrev rm_X8_thrown : Room := { frames := 0, cells := 0, slots := 0, locals := 0 }
theorem in_X8_thrown_X8 : ∀ w ∈ u_ws RX8 TX8 44, w ∈ wsX8_thrown := by decide +kernel
set_option maxRecDepth 100000 in
set_option maxHeartbeats 4000000 in
theorem t_X8_thrown_0 (K : Cx p s m args meth c D A (tysC cy) RX8 cX8_thrown 1 (some .int) wsX8_thrown (fun _ _ => True)) (n : Nat) (S : MSt)   {out : Int32} (hm : m_X8_thrown n S  = some out) : ∀ (H : Heap) (locs : List Loc), Wd D A s.heap (GM cy ad S) H locs → ∀ ls : Array Slot, lv_has ls 1 [(0, .ref (ad 0 0))] → W p l e rm_X8_thrown s m args below meth c H locs 0 0 (MQ below (va_Qi (fun r (u : MSt) => out = r ∧ u = S) (fun u => Pst D (tysC cy) A (GM cy ad u)) A) args s 0 0 A) (F0 m 0 ls []) := by
  intro H locs hw ls hl
  obtain ⟨hx, hb, hml, hown, hts, hr, hlo, hK, hA, hX⟩ := id K
  unfold m_X8_thrown at hm
  refine lv_aload_n hx hb dX8_thrown_0 rfl (lv_at hl 0 rfl) ?_
  refine g_get (ref := "MigrantHeapModel") (C := RX8) (T := TX8) (N := 44) (ci := 8) K in_X8_thrown_X8 hw 0 rfl (by decide : 0 < 1) rfl rfl 0 (by decide) (List.mem_of_getElem? (i := 1) rfl) rfl rfl dX8_thrown_1 ?_
  exact g_iret (GG := GM cy ad) K hw ⟨(Option.some.inj hm).symm, rfl⟩ dX8_thrown_4
set_option maxRecDepth 100000 in
set_option maxHeartbeats 4000000 in
theorem c_X8_thrown (l : Launch) (D : va_G) (cy : Nat → ClassId) (ad : Nat → Nat → Nat) (sz n : Nat) (S : MSt)   {out : Int32} (hm : m_X8_thrown n S  = some out) : Met l yX8_thrown wsX8_thrown rm_X8_thrown (va_Pc [.ref (ad 0 0)] (Pre D (tysC cy) (GM cy ad S) (fun _ _ => True) sz)) (va_Qi (fun r (u : MSt) => out = r ∧ u = S) (fun u => Pst D (tysC cy) (AA (adrs (GM cy ad S)) sz) (GM cy ad u)) (AA (adrs (GM cy ad S)) sz)) 0 0 (AA (adrs (GM cy ad S)) sz) := by
  refine g_met (by decide) rfl (Nat.le_of_ble_eq_true rfl) ?_
  intro p e s m args below meth c K hw ls hl
  exact t_X8_thrown_0 (cy := cy) K n S   hm _ _ hw ls hl
end W_X8_thrown
section W_X8_isRoot
variable {p : Program} {l : Launch} {e : Env} {s : State} {m : MethodId} {args : Array Value} {below : List Frame} {meth : Method} {c : Code} {D : va_G} {A : Nat → Prop} {cy : Nat → ClassId} {ad : Nat → Nat → Nat} {Q : State → Prop}
abbrev rm_X8_isRoot : Room := { frames := 0, cells := 0, slots := 0, locals := 0 }
set_option maxRecDepth 100000 in
set_option maxHeartbeats 4000000 in
theorem t_X8_isRoot_0 (K : Cx p s m args meth c D A (tysC cy) RX8 cX8_isRoot 1 (some .boolean) wsX8_isRoot (fun _ _ => True)) (n : Nat) (S : MSt) (x0 : Int32)  {out : Int32} (hm : m_X8_isRoot n S x0 = some out) : ∀ (H : Heap) (locs : List Loc), Wd D A s.heap (GM cy ad S) H locs → ∀ ls : Array Slot, lv_has ls 1 [(0, .int x0)] → W p l e rm_X8_isRoot s m args below meth c H locs 0 0 (MQ below (va_Qi (fun r (u : MSt) => out = r ∧ u = S) (fun u => Pst D (tysC cy) A (GM cy ad u)) A) args s 0 0 A) (F0 m 0 ls []) := by
  intro H locs hw ls hl
  obtain ⟨hx, hb, hml, hown, hts, hr, hlo, hK, hA, hX⟩ := id K
  unfold m_X8_isRoot at hm
  refine lv_iload_n hx hb dX8_isRoot_0 rfl (lv_at hl 0 rfl) ?_
  refine lv_if_lt (tgt := 14) hx hb dX8_isRoot_1 (by decide) (fun c1 => ?_) (fun c1 => ?_)
  · replace hm := (if_pos c1).symm.trans hm
    refine lv_iconst (v := 0) hx hb dX8_isRoot_14 (by decide) ?_
    exact g_zret (GG := GM cy ad) K hw rfl ⟨(Option.some.inj hm).symm, rfl⟩ dX8_isRoot_15
  · replace hm := (if_neg c1).symm.trans hm
    refine lv_iload_n hx hb dX8_isRoot_4 rfl (lv_at hl 0 rfl) ?_
    refine lv_bipush (v := 8) hx hb dX8_isRoot_5 (by decide) ?_
    refine lv_icmp_ge (tgt := 14) hx hb dX8_isRoot_7 (by decide) (fun c2 => ?_) (fun c2 => ?_)
    · replace hm := (if_pos c2).symm.trans hm
      refine lv_iconst (v := 0) hx hb dX8_isRoot_14 (by decide) ?_
      exact g_zret (GG := GM cy ad) K hw rfl ⟨(Option.some.inj hm).symm, rfl⟩ dX8_isRoot_15
    · replace hm := (if_neg c2).symm.trans hm
      refine lv_iconst (v := 1) hx hb dX8_isRoot_10 (by decide) ?_
      refine lv_goto (tgt := 15) hx hb dX8_isRoot_11 (by decide) ?_
      exact g_zret (GG := GM cy ad) K hw rfl ⟨(Option.some.inj hm).symm, rfl⟩ dX8_isRoot_15
set_option maxRecDepth 100000 in
set_option maxHeartbeats 4000000 in
theorem c_X8_isRoot (l : Launch) (D : va_G) (cy : Nat → ClassId) (ad : Nat → Nat → Nat) (sz n : Nat) (S : MSt) (x0 : Int32)  {out : Int32} (hm : m_X8_isRoot n S x0 = some out) : Met l yX8_isRoot wsX8_isRoot rm_X8_isRoot (va_Pc [.int x0] (Pre D (tysC cy) (GM cy ad S) (fun _ _ => True) sz)) (va_Qi (fun r (u : MSt) => out = r ∧ u = S) (fun u => Pst D (tysC cy) (AA (adrs (GM cy ad S)) sz) (GM cy ad u)) (AA (adrs (GM cy ad S)) sz)) 0 0 (AA (adrs (GM cy ad S)) sz) := by
  refine g_met (by decide) rfl (Nat.le_of_ble_eq_true rfl) ?_
  intro p e s m args below meth c K hw ls hl
  exact t_X8_isRoot_0 (cy := cy) K n S x0  hm _ _ hw ls hl
end W_X8_isRoot
section W_X8_isName
variable {p : Program} {l : Launch} {e : Env} {s : State} {m : MethodId} {args : Array Value} {below : List Frame} {meth : Method} {c : Code} {D : va_G} {A : Nat → Prop} {cy : Nat → ClassId} {ad : Nat → Nat → Nat} {Q : State → Prop}
abbrev rm_X8_isName : Room := { frames := 0, cells := 0, slots := 0, locals := 0 }
set_option maxRecDepth 100000 in
set_option maxHeartbeats 4000000 in
theorem t_X8_isName_0 (K : Cx p s m args meth c D A (tysC cy) RX8 cX8_isName 1 (some .boolean) wsX8_isName (fun _ _ => True)) (n : Nat) (S : MSt) (x0 : Int32)  {out : Int32} (hm : m_X8_isName n S x0 = some out) : ∀ (H : Heap) (locs : List Loc), Wd D A s.heap (GM cy ad S) H locs → ∀ ls : Array Slot, lv_has ls 1 [(0, .int x0)] → W p l e rm_X8_isName s m args below meth c H locs 0 0 (MQ below (va_Qi (fun r (u : MSt) => out = r ∧ u = S) (fun u => Pst D (tysC cy) A (GM cy ad u)) A) args s 0 0 A) (F0 m 0 ls []) := by
  intro H locs hw ls hl
  obtain ⟨hx, hb, hml, hown, hts, hr, hlo, hK, hA, hX⟩ := id K
  unfold m_X8_isName at hm
  refine lv_iload_n hx hb dX8_isName_0 rfl (lv_at hl 0 rfl) ?_
  refine lv_if_lt (tgt := 14) hx hb dX8_isName_1 (by decide) (fun c1 => ?_) (fun c1 => ?_)
  · replace hm := (if_pos c1).symm.trans hm
    refine lv_iconst (v := 0) hx hb dX8_isName_14 (by decide) ?_
    exact g_zret (GG := GM cy ad) K hw rfl ⟨(Option.some.inj hm).symm, rfl⟩ dX8_isName_15
  · replace hm := (if_neg c1).symm.trans hm
    refine lv_iload_n hx hb dX8_isName_4 rfl (lv_at hl 0 rfl) ?_
    refine lv_bipush (v := 10) hx hb dX8_isName_5 (by decide) ?_
    refine lv_icmp_ge (tgt := 14) hx hb dX8_isName_7 (by decide) (fun c2 => ?_) (fun c2 => ?_)
    · replace hm := (if_pos c2).symm.trans hm
      refine lv_iconst (v := 0) hx hb dX8_isName_14 (by decide) ?_
      exact g_zret (GG := GM cy ad) K hw rfl ⟨(Option.some.inj hm).symm, rfl⟩ dX8_isName_15
    · replace hm := (if_neg c2).symm.trans hm
      refine lv_iconst (v := 1) hx hb dX8_isName_10 (by decide) ?_
      refine lv_goto (tgt := 15) hx hb dX8_isName_11 (by decide) ?_
      exact g_zret (GG := GM cy ad) K hw rfl ⟨(Option.some.inj hm).symm, rfl⟩ dX8_isName_15
set_option maxRecDepth 100000 in
set_option maxHeartbeats 4000000 in
theorem c_X8_isName (l : Launch) (D : va_G) (cy : Nat → ClassId) (ad : Nat → Nat → Nat) (sz n : Nat) (S : MSt) (x0 : Int32)  {out : Int32} (hm : m_X8_isName n S x0 = some out) : Met l yX8_isName wsX8_isName rm_X8_isName (va_Pc [.int x0] (Pre D (tysC cy) (GM cy ad S) (fun _ _ => True) sz)) (va_Qi (fun r (u : MSt) => out = r ∧ u = S) (fun u => Pst D (tysC cy) (AA (adrs (GM cy ad S)) sz) (GM cy ad u)) (AA (adrs (GM cy ad S)) sz)) 0 0 (AA (adrs (GM cy ad S)) sz) := by
  refine g_met (by decide) rfl (Nat.le_of_ble_eq_true rfl) ?_
  intro p e s m args below meth c K hw ls hl
  exact t_X8_isName_0 (cy := cy) K n S x0  hm _ _ hw ls hl
end W_X8_isName
section W_X8_isClass
variable {p : Program} {l : Launch} {e : Env} {s : State} {m : MethodId} {args : Array Value} {below : List Frame} {meth : Method} {c : Code} {D : va_G} {A : Nat → Prop} {cy : Nat → ClassId} {ad : Nat → Nat → Nat} {Q : State → Prop}
abbrev rm_X8_isClass : Room := { frames := 0, cells := 0, slots := 0, locals := 0 }
theorem in_X8_isClass_X8 : ∀ w ∈ u_ws RX8 TX8 44, w ∈ wsX8_isClass := by decide +kernel
set_option maxRecDepth 100000 in
set_option maxHeartbeats 4000000 in
theorem t_X8_isClass_0 (K : Cx p s m args meth c D A (tysC cy) RX8 cX8_isClass 2 (some .boolean) wsX8_isClass (fun _ _ => True)) (n : Nat) (S : MSt) (x1 : Int32)  {out : Int32} (hm : m_X8_isClass n S x1 = some out) : ∀ (H : Heap) (locs : List Loc), Wd D A s.heap (GM cy ad S) H locs → ∀ ls : Array Slot, lv_has ls 2 [(0, .ref (ad 0 0)), (1, .int x1)] → W p l e rm_X8_isClass s m args below meth c H locs 0 0 (MQ below (va_Qi (fun r (u : MSt) => out = r ∧ u = S) (fun u => Pst D (tysC cy) A (GM cy ad u)) A) args s 0 0 A) (F0 m 0 ls []) := by
  intro H locs hw ls hl
  obtain ⟨hx, hb, hml, hown, hts, hr, hlo, hK, hA, hX⟩ := id K
  unfold m_X8_isClass at hm
  refine lv_iload_n hx hb dX8_isClass_0 rfl (lv_at hl 1 rfl) ?_
  refine lv_if_lt (tgt := 16) hx hb dX8_isClass_1 (by decide) (fun c1 => ?_) (fun c1 => ?_)
  · replace hm := (if_pos c1).symm.trans hm
    refine lv_iconst (v := 0) hx hb dX8_isClass_16 (by decide) ?_
    exact g_zret (GG := GM cy ad) K hw rfl ⟨(Option.some.inj hm).symm, rfl⟩ dX8_isClass_17
  · replace hm := (if_neg c1).symm.trans hm
    refine lv_iload_n hx hb dX8_isClass_4 rfl (lv_at hl 1 rfl) ?_
    refine lv_aload_n hx hb dX8_isClass_5 rfl (lv_at hl 0 rfl) ?_
    refine g_get (ref := "MigrantHeapModel") (C := RX8) (T := TX8) (N := 44) (ci := 8) K in_X8_isClass_X8 hw 0 rfl (by decide : 0 < 1) rfl rfl 1 (by decide) (List.mem_of_getElem? (i := 1) rfl) rfl rfl dX8_isClass_6 ?_
    refine lv_icmp_ge (tgt := 16) hx hb dX8_isClass_9 (by decide) (fun c2 => ?_) (fun c2 => ?_)
    · replace hm := (if_pos c2).symm.trans hm
      refine lv_iconst (v := 0) hx hb dX8_isClass_16 (by decide) ?_
      exact g_zret (GG := GM cy ad) K hw rfl ⟨(Option.some.inj hm).symm, rfl⟩ dX8_isClass_17
    · replace hm := (if_neg c2).symm.trans hm
      refine lv_iconst (v := 1) hx hb dX8_isClass_12 (by decide) ?_
      refine lv_goto (tgt := 17) hx hb dX8_isClass_13 (by decide) ?_
      exact g_zret (GG := GM cy ad) K hw rfl ⟨(Option.some.inj hm).symm, rfl⟩ dX8_isClass_17
set_option maxRecDepth 100000 in
set_option maxHeartbeats 4000000 in
theorem c_X8_isClass (l : Launch) (D : va_G) (cy : Nat → ClassId) (ad : Nat → Nat → Nat) (sz n : Nat) (S : MSt) (x1 : Int32)  {out : Int32} (hm : m_X8_isClass n S x1 = some out) : Met l yX8_isClass wsX8_isClass rm_X8_isClass (va_Pc [.ref (ad 0 0), .int x1] (Pre D (tysC cy) (GM cy ad S) (fun _ _ => True) sz)) (va_Qi (fun r (u : MSt) => out = r ∧ u = S) (fun u => Pst D (tysC cy) (AA (adrs (GM cy ad S)) sz) (GM cy ad u)) (AA (adrs (GM cy ad S)) sz)) 0 0 (AA (adrs (GM cy ad S)) sz) := by
  refine g_met (by decide) rfl (Nat.le_of_ble_eq_true rfl) ?_
  intro p e s m args below meth c K hw ls hl
  exact t_X8_isClass_0 (cy := cy) K n S x1  hm _ _ hw ls hl
end W_X8_isClass
section W_X8_records
variable {p : Program} {l : Launch} {e : Env} {s : State} {m : MethodId} {args : Array Value} {below : List Frame} {meth : Method} {c : Code} {D : va_G} {A : Nat → Prop} {cy : Nat → ClassId} {ad : Nat → Nat → Nat} {Q : State → Prop}
abbrev rm_X8_records : Room := { frames := 0, cells := 0, slots := 0, locals := 0 }
theorem in_X8_records_X8 : ∀ w ∈ u_ws RX8 TX8 44, w ∈ wsX8_records := by decide +kernel
set_option maxRecDepth 100000 in
set_option maxHeartbeats 4000000 in
theorem t_X8_records_L4 (K : Cx p s m args meth c D A (tysC cy) RX8 cX8_records 4 (some .int) wsX8_records (fun _ _ => True)) (n : Nat) (S : MSt) (x1 : Int32)  (z : Int32) (hE0 : ∀ w : Int32, z = w → ∀ (H : Heap) (locs : List Loc), Wd D A s.heap (GM cy ad S) H locs → ∀ ls : Array Slot, lv_has ls 4 [(2, .int w)] → W p l e rm_X8_records s m args below meth c H locs 0 0 Q (F0 m 55 ls [])) : ∀ (x : (Int32 × Int32)), lpO (b_X8_records_4 n S x1) n x = some z → (fun (x : (Int32 × Int32)) => ∀ (H : Heap) (locs : List Loc), Wd D A s.heap (GM cy ad S) H locs → ∀ ls : Array Slot, lv_has ls 4 [(0, .ref (ad 0 0)), (1, .int x1), (2, .int x.1), (3, .int x.2)] → W p l e rm_X8_records s m args below meth c H locs 0 0 Q (F0 m 4 ls [])) x := by
  intro x hx0
  refine lpO_ind2 (P := fun (x : (Int32 × Int32)) => ∀ (H : Heap) (locs : List Loc), Wd D A s.heap (GM cy ad S) H locs → ∀ ls : Array Slot, lv_has ls 4 [(0, .ref (ad 0 0)), (1, .int x1), (2, .int x.1), (3, .int x.2)] → W p l e rm_X8_records s m args below meth c H locs 0 0 Q (F0 m 4 ls [])) (z := z) ?_ n x hx0
  clear hx0 x
  intro x out hm hg H locs hw ls hl 
  obtain ⟨hx, hb, hml, hown, hts, hr, hlo, hK, hA, hX⟩ := id K
  unfold b_X8_records_4 at hm
  refine lv_iload_n hx hb dX8_records_4 rfl (lv_at hl 3 rfl) ?_
  refine lv_bipush (v := 24) hx hb dX8_records_5 (by decide) ?_
  refine lv_icmp_ge (tgt := 55) hx hb dX8_records_7 (by decide) (fun c25 => ?_) (fun c25 => ?_)
  · replace hm := (if_pos c25).symm.trans hm
    obtain rfl := Option.some.inj hm
    exact hE0 _ hg.symm H locs hw ls (lv_sub hl [2] rfl)
  · replace hm := (if_neg c25).symm.trans hm
    refine lv_iload_n hx hb dX8_records_10 rfl (lv_at hl 2 rfl) ?_
    refine lv_iload_n hx hb dX8_records_11 rfl (lv_at hl 1 rfl) ?_
    refine lv_if_ge (tgt := 32) hx hb dX8_records_12 (by decide) (fun c26 => ?_) (fun c26 => ?_)
    · replace hm := (if_pos c26).symm.trans hm
      refine lv_aload_n hx hb dX8_records_32 rfl (lv_at hl 0 rfl) ?_
      refine g_get (ref := "MigrantHeapModel") (C := RX8) (T := TX8) (N := 44) (ci := 8) K in_X8_records_X8 hw 0 rfl (by decide : 0 < 1) rfl rfl 14 (by decide) (List.mem_of_getElem? (i := 1) rfl) rfl rfl dX8_records_33 ?_
      refine lv_iload_n hx hb dX8_records_36 rfl (lv_at hl 3 rfl) ?_
      obtain ⟨h27, hm⟩ := chkS hm
      refine g_iald K hw 13 0 rfl (by decide) rfl rfl h27 dX8_records_37 ?_
      refine lv_iload_n hx hb dX8_records_38 rfl (lv_at hl 1 rfl) ?_
      refine lv_icmp_ne (tgt := 46) hx hb dX8_records_39 (by decide) (fun c28 => ?_) (fun c28 => ?_)
      · replace hm := (if_pos c28).symm.trans hm
        refine lv_iconst (v := 0) hx hb dX8_records_46 (by decide) ?_
        refine lv_iadd hx hb dX8_records_47 ?_
        obtain ⟨x29, hx29, hm⟩ := nm_ex hm
        refine W.eq (g2 := F0 m 48 ls (.int x29 :: [])) (by rw [hx29]) ?_
        refine lv_istore_n (lv' := [(2, .int x29), (0, .ref (ad 0 0)), (1, .int x1), (3, .int x.2)]) hx hb dX8_records_48 rfl hl (by decide) rfl (fun ls hl => ?_)
        obtain ⟨x30, hx30, hm⟩ := nm_ex hm
        refine lv_iinc (v := x30) (lv' := [(3, .int x30), (2, .int x29), (0, .ref (ad 0 0)), (1, .int x1)]) hx hb dX8_records_49 hl (k := 3) rfl (by rw [hx30]; rfl) (by decide) rfl (fun ls hl => ?_)
        refine lv_goto (tgt := 4) hx hb dX8_records_52 (by decide) ?_
        obtain rfl := Option.some.inj hm
        exact hg H locs hw ls (lv_sub hl [2, 3, 1, 0] rfl)
      · replace hm := (if_neg (fun h => h c28)).symm.trans hm
        refine lv_iconst (v := 1) hx hb dX8_records_42 (by decide) ?_
        refine lv_goto (tgt := 47) hx hb dX8_records_43 (by decide) ?_
        refine lv_iadd hx hb dX8_records_47 ?_
        obtain ⟨x31, hx31, hm⟩ := nm_ex hm
        refine W.eq (g2 := F0 m 48 ls (.int x31 :: [])) (by rw [hx31]) ?_
        refine lv_istore_n (lv' := [(2, .int x31), (0, .ref (ad 0 0)), (1, .int x1), (3, .int x.2)]) hx hb dX8_records_48 rfl hl (by decide) rfl (fun ls hl => ?_)
        obtain ⟨x32, hx32, hm⟩ := nm_ex hm
        refine lv_iinc (v := x32) (lv' := [(3, .int x32), (2, .int x31), (0, .ref (ad 0 0)), (1, .int x1)]) hx hb dX8_records_49 hl (k := 3) rfl (by rw [hx32]; rfl) (by decide) rfl (fun ls hl => ?_)
        refine lv_goto (tgt := 4) hx hb dX8_records_52 (by decide) ?_
        obtain rfl := Option.some.inj hm
        exact hg H locs hw ls (lv_sub hl [2, 3, 1, 0] rfl)
    · replace hm := (if_neg c26).symm.trans hm
      refine lv_aload_n hx hb dX8_records_15 rfl (lv_at hl 0 rfl) ?_
      refine g_get (ref := "MigrantHeapModel") (C := RX8) (T := TX8) (N := 44) (ci := 8) K in_X8_records_X8 hw 0 rfl (by decide : 0 < 1) rfl rfl 14 (by decide) (List.mem_of_getElem? (i := 1) rfl) rfl rfl dX8_records_16 ?_
      refine lv_iload_n hx hb dX8_records_19 rfl (lv_at hl 3 rfl) ?_
      obtain ⟨h33, hm⟩ := chkS hm
      refine g_iald K hw 13 0 rfl (by decide) rfl rfl h33 dX8_records_20 ?_
      refine lv_if_lt (tgt := 28) hx hb dX8_records_21 (by decide) (fun c34 => ?_) (fun c34 => ?_)
      · replace hm := (if_pos c34).symm.trans hm
        refine lv_iconst (v := 0) hx hb dX8_records_28 (by decide) ?_
        refine lv_goto (tgt := 47) hx hb dX8_records_29 (by decide) ?_
        refine lv_iadd hx hb dX8_records_47 ?_
        obtain ⟨x35, hx35, hm⟩ := nm_ex hm
        refine W.eq (g2 := F0 m 48 ls (.int x35 :: [])) (by rw [hx35]) ?_
        refine lv_istore_n (lv' := [(2, .int x35), (0, .ref (ad 0 0)), (1, .int x1), (3, .int x.2)]) hx hb dX8_records_48 rfl hl (by decide) rfl (fun ls hl => ?_)
        obtain ⟨x36, hx36, hm⟩ := nm_ex hm
        refine lv_iinc (v := x36) (lv' := [(3, .int x36), (2, .int x35), (0, .ref (ad 0 0)), (1, .int x1)]) hx hb dX8_records_49 hl (k := 3) rfl (by rw [hx36]; rfl) (by decide) rfl (fun ls hl => ?_)
        refine lv_goto (tgt := 4) hx hb dX8_records_52 (by decide) ?_
        obtain rfl := Option.some.inj hm
        exact hg H locs hw ls (lv_sub hl [2, 3, 1, 0] rfl)
      · replace hm := (if_neg c34).symm.trans hm
        refine lv_iconst (v := 1) hx hb dX8_records_24 (by decide) ?_
        refine lv_goto (tgt := 47) hx hb dX8_records_25 (by decide) ?_
        refine lv_iadd hx hb dX8_records_47 ?_
        obtain ⟨x37, hx37, hm⟩ := nm_ex hm
        refine W.eq (g2 := F0 m 48 ls (.int x37 :: [])) (by rw [hx37]) ?_
        refine lv_istore_n (lv' := [(2, .int x37), (0, .ref (ad 0 0)), (1, .int x1), (3, .int x.2)]) hx hb dX8_records_48 rfl hl (by decide) rfl (fun ls hl => ?_)
        obtain ⟨x38, hx38, hm⟩ := nm_ex hm
        refine lv_iinc (v := x38) (lv' := [(3, .int x38), (2, .int x37), (0, .ref (ad 0 0)), (1, .int x1)]) hx hb dX8_records_49 hl (k := 3) rfl (by rw [hx38]; rfl) (by decide) rfl (fun ls hl => ?_)
        refine lv_goto (tgt := 4) hx hb dX8_records_52 (by decide) ?_
        obtain rfl := Option.some.inj hm
        exact hg H locs hw ls (lv_sub hl [2, 3, 1, 0] rfl)
set_option maxRecDepth 100000 in
set_option maxHeartbeats 4000000 in
theorem t_X8_records_0 (K : Cx p s m args meth c D A (tysC cy) RX8 cX8_records 4 (some .int) wsX8_records (fun _ _ => True)) (n : Nat) (S : MSt) (x1 : Int32)  {out : Int32} (hm : m_X8_records n S x1 = some out) : ∀ (H : Heap) (locs : List Loc), Wd D A s.heap (GM cy ad S) H locs → ∀ ls : Array Slot, lv_has ls 4 [(0, .ref (ad 0 0)), (1, .int x1)] → W p l e rm_X8_records s m args below meth c H locs 0 0 (MQ below (va_Qi (fun r (u : MSt) => out = r ∧ u = S) (fun u => Pst D (tysC cy) A (GM cy ad u)) A) args s 0 0 A) (F0 m 0 ls []) := by
  intro H locs hw ls hl
  obtain ⟨hx, hb, hml, hown, hts, hr, hlo, hK, hA, hX⟩ := id K
  unfold m_X8_records at hm
  refine lv_iconst (v := 0) hx hb dX8_records_0 (by decide) ?_
  refine lv_istore_n (lv' := [(2, .int 0), (0, .ref (ad 0 0)), (1, .int x1)]) hx hb dX8_records_1 rfl hl (by decide) rfl (fun ls hl => ?_)
  refine lv_iconst (v := 0) hx hb dX8_records_2 (by decide) ?_
  refine lv_istore_n (lv' := [(3, .int 0), (2, .int 0), (0, .ref (ad 0 0)), (1, .int x1)]) hx hb dX8_records_3 rfl hl (by decide) rfl (fun ls hl => ?_)
  obtain ⟨z39, hz40, hm⟩ := bindS hm
  refine t_X8_records_L4 K n S x1 z39 (fun w41 hww41 => ?_) ((0, 0)) hz40 H locs hw ls (lv_sub hl [2, 3, 1, 0] rfl)
  · intro H locs hw ls hl 
    try rw [hww41] at hm
    refine lv_iload_n hx hb dX8_records_55 rfl (lv_at hl 0 rfl) ?_
    exact g_iret (GG := GM cy ad) K hw ⟨(Option.some.inj hm).symm, rfl⟩ dX8_records_56
set_option maxRecDepth 100000 in
set_option maxHeartbeats 4000000 in
theorem c_X8_records (l : Launch) (D : va_G) (cy : Nat → ClassId) (ad : Nat → Nat → Nat) (sz n : Nat) (S : MSt) (x1 : Int32)  {out : Int32} (hm : m_X8_records n S x1 = some out) : Met l yX8_records wsX8_records rm_X8_records (va_Pc [.ref (ad 0 0), .int x1] (Pre D (tysC cy) (GM cy ad S) (fun _ _ => True) sz)) (va_Qi (fun r (u : MSt) => out = r ∧ u = S) (fun u => Pst D (tysC cy) (AA (adrs (GM cy ad S)) sz) (GM cy ad u)) (AA (adrs (GM cy ad S)) sz)) 0 0 (AA (adrs (GM cy ad S)) sz) := by
  refine g_met (by decide) rfl (Nat.le_of_ble_eq_true rfl) ?_
  intro p e s m args below meth c K hw ls hl
  exact t_X8_records_0 (cy := cy) K n S x1  hm _ _ hw ls hl
end W_X8_records
section W_X8_free
variable {p : Program} {l : Launch} {e : Env} {s : State} {m : MethodId} {args : Array Value} {below : List Frame} {meth : Method} {c : Code} {D : va_G} {A : Nat → Prop} {cy : Nat → ClassId} {ad : Nat → Nat → Nat} {Q : State → Prop}
abbrev rm_X8_free : Room := { frames := 0, cells := 0, slots := 0, locals := 0 }
theorem in_X8_free_X8 : ∀ w ∈ u_ws RX8 TX8 44, w ∈ wsX8_free := by decide +kernel
set_option maxRecDepth 100000 in
set_option maxHeartbeats 4000000 in
theorem t_X8_free_L5 (K : Cx p s m args meth c D A (tysC cy) RX8 cX8_free 3 (some .int) wsX8_free (fun _ _ => True)) (n : Nat) (S : MSt)  (z : Int32) (hE0 : ∀ w : Int32, z = w → ∀ (H : Heap) (locs : List Loc), Wd D A s.heap (GM cy ad S) H locs → ∀ ls : Array Slot, lv_has ls 3 [(1, .int w)] → W p l e rm_X8_free s m args below meth c H locs 0 0 Q (F0 m 30 ls [])) : ∀ (x : (Int32 × Int32)), lpO (b_X8_free_5 n S) n x = some z → (fun (x : (Int32 × Int32)) => ∀ (H : Heap) (locs : List Loc), Wd D A s.heap (GM cy ad S) H locs → ∀ ls : Array Slot, lv_has ls 3 [(0, .ref (ad 0 0)), (1, .int x.1), (2, .int x.2)] → W p l e rm_X8_free s m args below meth c H locs 0 0 Q (F0 m 5 ls [])) x := by
  intro x hx0
  refine lpO_ind2 (P := fun (x : (Int32 × Int32)) => ∀ (H : Heap) (locs : List Loc), Wd D A s.heap (GM cy ad S) H locs → ∀ ls : Array Slot, lv_has ls 3 [(0, .ref (ad 0 0)), (1, .int x.1), (2, .int x.2)] → W p l e rm_X8_free s m args below meth c H locs 0 0 Q (F0 m 5 ls [])) (z := z) ?_ n x hx0
  clear hx0 x
  intro x out hm hg H locs hw ls hl 
  obtain ⟨hx, hb, hml, hown, hts, hr, hlo, hK, hA, hX⟩ := id K
  unfold b_X8_free_5 at hm
  refine lv_iload_n hx hb dX8_free_5 rfl (lv_at hl 2 rfl) ?_
  refine lv_if_lt (tgt := 30) hx hb dX8_free_6 (by decide) (fun c9 => ?_) (fun c9 => ?_)
  · replace hm := (if_pos c9).symm.trans hm
    obtain rfl := Option.some.inj hm
    exact hE0 _ hg.symm H locs hw ls (lv_sub hl [1] rfl)
  · replace hm := (if_neg c9).symm.trans hm
    refine lv_aload_n hx hb dX8_free_9 rfl (lv_at hl 0 rfl) ?_
    refine g_get (ref := "MigrantHeapModel") (C := RX8) (T := TX8) (N := 44) (ci := 8) K in_X8_free_X8 hw 0 rfl (by decide : 0 < 1) rfl rfl 14 (by decide) (List.mem_of_getElem? (i := 1) rfl) rfl rfl dX8_free_10 ?_
    refine lv_iload_n hx hb dX8_free_13 rfl (lv_at hl 2 rfl) ?_
    obtain ⟨h10, hm⟩ := chkS hm
    refine g_iald K hw 13 0 rfl (by decide) rfl rfl h10 dX8_free_14 ?_
    refine lv_if_ge (tgt := 22) hx hb dX8_free_15 (by decide) (fun c11 => ?_) (fun c11 => ?_)
    · replace hm := (if_pos c11).symm.trans hm
      refine lv_iload_n hx hb dX8_free_22 rfl (lv_at hl 1 rfl) ?_
      refine lv_istore_n (lv' := [(1, .int x.1), (0, .ref (ad 0 0)), (2, .int x.2)]) hx hb dX8_free_23 rfl hl (by decide) rfl (fun ls hl => ?_)
      obtain ⟨x12, hx12, hm⟩ := nm_ex hm
      refine lv_iinc (v := x12) (lv' := [(2, .int x12), (1, .int x.1), (0, .ref (ad 0 0))]) hx hb dX8_free_24 hl (k := 2) rfl (by rw [hx12]; rfl) (by decide) rfl (fun ls hl => ?_)
      refine lv_goto (tgt := 5) hx hb dX8_free_27 (by decide) ?_
      obtain rfl := Option.some.inj hm
      exact hg H locs hw ls (lv_sub hl [2, 1, 0] rfl)
    · replace hm := (if_neg c11).symm.trans hm
      refine lv_iload_n hx hb dX8_free_18 rfl (lv_at hl 2 rfl) ?_
      refine lv_goto (tgt := 23) hx hb dX8_free_19 (by decide) ?_
      refine lv_istore_n (lv' := [(1, .int x.2), (0, .ref (ad 0 0)), (2, .int x.2)]) hx hb dX8_free_23 rfl hl (by decide) rfl (fun ls hl => ?_)
      obtain ⟨x13, hx13, hm⟩ := nm_ex hm
      refine lv_iinc (v := x13) (lv' := [(2, .int x13), (1, .int x.2), (0, .ref (ad 0 0))]) hx hb dX8_free_24 hl (k := 2) rfl (by rw [hx13]; rfl) (by decide) rfl (fun ls hl => ?_)
      refine lv_goto (tgt := 5) hx hb dX8_free_27 (by decide) ?_
      obtain rfl := Option.some.inj hm
      exact hg H locs hw ls (lv_sub hl [2, 1, 0] rfl)
set_option maxRecDepth 100000 in
set_option maxHeartbeats 4000000 in
theorem t_X8_free_0 (K : Cx p s m args meth c D A (tysC cy) RX8 cX8_free 3 (some .int) wsX8_free (fun _ _ => True)) (n : Nat) (S : MSt)   {out : Int32} (hm : m_X8_free n S  = some out) : ∀ (H : Heap) (locs : List Loc), Wd D A s.heap (GM cy ad S) H locs → ∀ ls : Array Slot, lv_has ls 3 [(0, .ref (ad 0 0))] → W p l e rm_X8_free s m args below meth c H locs 0 0 (MQ below (va_Qi (fun r (u : MSt) => out = r ∧ u = S) (fun u => Pst D (tysC cy) A (GM cy ad u)) A) args s 0 0 A) (F0 m 0 ls []) := by
  intro H locs hw ls hl
  obtain ⟨hx, hb, hml, hown, hts, hr, hlo, hK, hA, hX⟩ := id K
  unfold m_X8_free at hm
  refine lv_iconst (v := (-1)) hx hb dX8_free_0 (by decide) ?_
  refine lv_istore_n (lv' := [(1, .int (-1)), (0, .ref (ad 0 0))]) hx hb dX8_free_1 rfl hl (by decide) rfl (fun ls hl => ?_)
  refine lv_bipush (v := 23) hx hb dX8_free_2 (by decide) ?_
  refine lv_istore_n (lv' := [(2, .int 23), (1, .int (-1)), (0, .ref (ad 0 0))]) hx hb dX8_free_4 rfl hl (by decide) rfl (fun ls hl => ?_)
  obtain ⟨z14, hz15, hm⟩ := bindS hm
  refine t_X8_free_L5 K n S z14 (fun w16 hww16 => ?_) (((-1), 23)) hz15 H locs hw ls (lv_sub hl [2, 1, 0] rfl)
  · intro H locs hw ls hl 
    try rw [hww16] at hm
    refine lv_iload_n hx hb dX8_free_30 rfl (lv_at hl 0 rfl) ?_
    exact g_iret (GG := GM cy ad) K hw ⟨(Option.some.inj hm).symm, rfl⟩ dX8_free_31
set_option maxRecDepth 100000 in
set_option maxHeartbeats 4000000 in
theorem c_X8_free (l : Launch) (D : va_G) (cy : Nat → ClassId) (ad : Nat → Nat → Nat) (sz n : Nat) (S : MSt)   {out : Int32} (hm : m_X8_free n S  = some out) : Met l yX8_free wsX8_free rm_X8_free (va_Pc [.ref (ad 0 0)] (Pre D (tysC cy) (GM cy ad S) (fun _ _ => True) sz)) (va_Qi (fun r (u : MSt) => out = r ∧ u = S) (fun u => Pst D (tysC cy) (AA (adrs (GM cy ad S)) sz) (GM cy ad u)) (AA (adrs (GM cy ad S)) sz)) 0 0 (AA (adrs (GM cy ad S)) sz) := by
  refine g_met (by decide) rfl (Nat.le_of_ble_eq_true rfl) ?_
  intro p e s m args below meth c K hw ls hl
  exact t_X8_free_0 (cy := cy) K n S   hm _ _ hw ls hl
end W_X8_free
section W_X8_find
variable {p : Program} {l : Launch} {e : Env} {s : State} {m : MethodId} {args : Array Value} {below : List Frame} {meth : Method} {c : Code} {D : va_G} {A : Nat → Prop} {cy : Nat → ClassId} {ad : Nat → Nat → Nat} {Q : State → Prop}
abbrev rm_X8_find : Room := { frames := 0, cells := 0, slots := 0, locals := 0 }
theorem in_X8_find_X8 : ∀ w ∈ u_ws RX8 TX8 44, w ∈ wsX8_find := by decide +kernel
set_option maxRecDepth 100000 in
set_option maxHeartbeats 4000000 in
theorem t_X8_find_L5 (K : Cx p s m args meth c D A (tysC cy) RX8 cX8_find 5 (some .int) wsX8_find (fun _ _ => True)) (n : Nat) (S : MSt) (x1 : Int32) (x2 : Int32)  (z : Int32) (hE0 : ∀ w : Int32, z = w → ∀ (H : Heap) (locs : List Loc), Wd D A s.heap (GM cy ad S) H locs → ∀ ls : Array Slot, lv_has ls 5 [(3, .int w)] → W p l e rm_X8_find s m args below meth c H locs 0 0 Q (F0 m 45 ls [])) : ∀ (x : (Int32 × Int32)), lpO (b_X8_find_5 n S x1 x2) n x = some z → (fun (x : (Int32 × Int32)) => ∀ (H : Heap) (locs : List Loc), Wd D A s.heap (GM cy ad S) H locs → ∀ ls : Array Slot, lv_has ls 5 [(0, .ref (ad 0 0)), (1, .int x1), (2, .int x2), (3, .int x.1), (4, .int x.2)] → W p l e rm_X8_find s m args below meth c H locs 0 0 Q (F0 m 5 ls [])) x := by
  intro x hx0
  refine lpO_ind2 (P := fun (x : (Int32 × Int32)) => ∀ (H : Heap) (locs : List Loc), Wd D A s.heap (GM cy ad S) H locs → ∀ ls : Array Slot, lv_has ls 5 [(0, .ref (ad 0 0)), (1, .int x1), (2, .int x2), (3, .int x.1), (4, .int x.2)] → W p l e rm_X8_find s m args below meth c H locs 0 0 Q (F0 m 5 ls [])) (z := z) ?_ n x hx0
  clear hx0 x
  intro x out hm hg H locs hw ls hl 
  obtain ⟨hx, hb, hml, hown, hts, hr, hlo, hK, hA, hX⟩ := id K
  unfold b_X8_find_5 at hm
  refine lv_iload hx hb dX8_find_5 (lv_at hl 4 rfl) ?_
  refine lv_aload_n hx hb dX8_find_7 rfl (lv_at hl 0 rfl) ?_
  refine g_get (ref := "MigrantHeapModel") (C := RX8) (T := TX8) (N := 44) (ci := 8) K in_X8_find_X8 hw 0 rfl (by decide : 0 < 1) rfl rfl 4 (by decide) (List.mem_of_getElem? (i := 1) rfl) rfl rfl dX8_find_8 ?_
  refine lv_iload_n hx hb dX8_find_11 rfl (lv_at hl 1 rfl) ?_
  obtain ⟨h12, hm⟩ := chkS hm
  refine g_iald K hw 3 0 rfl (by decide) rfl rfl h12 dX8_find_12 ?_
  refine lv_icmp_ge (tgt := 45) hx hb dX8_find_13 (by decide) (fun c13 => ?_) (fun c13 => ?_)
  · replace hm := (if_pos c13).symm.trans hm
    obtain rfl := Option.some.inj hm
    exact hE0 _ hg.symm H locs hw ls (lv_sub hl [3] rfl)
  · replace hm := (if_neg c13).symm.trans hm
    refine lv_aload_n hx hb dX8_find_16 rfl (lv_at hl 0 rfl) ?_
    refine g_get (ref := "MigrantHeapModel") (C := RX8) (T := TX8) (N := 44) (ci := 8) K in_X8_find_X8 hw 0 rfl (by decide : 0 < 1) rfl rfl 5 (by decide) (List.mem_of_getElem? (i := 2) rfl) rfl rfl dX8_find_17 ?_
    refine lv_bipush (v := 6) hx hb dX8_find_20 (by decide) ?_
    refine lv_iload_n hx hb dX8_find_22 rfl (lv_at hl 1 rfl) ?_
    refine lv_imul hx hb dX8_find_23 ?_
    refine lv_iload hx hb dX8_find_24 (lv_at hl 4 rfl) ?_
    refine lv_iadd hx hb dX8_find_26 ?_
    obtain ⟨h14, hm⟩ := chkS hm
    refine g_iald K hw 4 0 rfl (by decide) rfl rfl h14 dX8_find_27 ?_
    refine lv_iload_n hx hb dX8_find_28 rfl (lv_at hl 2 rfl) ?_
    refine lv_icmp_ne (tgt := 37) hx hb dX8_find_29 (by decide) (fun c15 => ?_) (fun c15 => ?_)
    · replace hm := (if_pos c15).symm.trans hm
      refine lv_iload_n hx hb dX8_find_37 rfl (lv_at hl 3 rfl) ?_
      refine lv_istore_n (lv' := [(3, .int x.1), (0, .ref (ad 0 0)), (1, .int x1), (2, .int x2), (4, .int x.2)]) hx hb dX8_find_38 rfl hl (by decide) rfl (fun ls hl => ?_)
      obtain ⟨x16, hx16, hm⟩ := nm_ex hm
      refine lv_iinc (v := x16) (lv' := [(4, .int x16), (3, .int x.1), (0, .ref (ad 0 0)), (1, .int x1), (2, .int x2)]) hx hb dX8_find_39 hl (k := 4) rfl (by rw [hx16]; rfl) (by decide) rfl (fun ls hl => ?_)
      refine lv_goto (tgt := 5) hx hb dX8_find_42 (by decide) ?_
      obtain rfl := Option.some.inj hm
      exact hg H locs hw ls (lv_sub hl [2, 3, 4, 1, 0] rfl)
    · replace hm := (if_neg (fun h => h c15)).symm.trans hm
      refine lv_iload hx hb dX8_find_32 (lv_at hl 4 rfl) ?_
      refine lv_goto (tgt := 38) hx hb dX8_find_34 (by decide) ?_
      refine lv_istore_n (lv' := [(3, .int x.2), (0, .ref (ad 0 0)), (1, .int x1), (2, .int x2), (4, .int x.2)]) hx hb dX8_find_38 rfl hl (by decide) rfl (fun ls hl => ?_)
      obtain ⟨x17, hx17, hm⟩ := nm_ex hm
      refine lv_iinc (v := x17) (lv' := [(4, .int x17), (3, .int x.2), (0, .ref (ad 0 0)), (1, .int x1), (2, .int x2)]) hx hb dX8_find_39 hl (k := 4) rfl (by rw [hx17]; rfl) (by decide) rfl (fun ls hl => ?_)
      refine lv_goto (tgt := 5) hx hb dX8_find_42 (by decide) ?_
      obtain rfl := Option.some.inj hm
      exact hg H locs hw ls (lv_sub hl [2, 3, 4, 1, 0] rfl)
set_option maxRecDepth 100000 in
set_option maxHeartbeats 4000000 in
theorem t_X8_find_0 (K : Cx p s m args meth c D A (tysC cy) RX8 cX8_find 5 (some .int) wsX8_find (fun _ _ => True)) (n : Nat) (S : MSt) (x1 : Int32) (x2 : Int32)  {out : Int32} (hm : m_X8_find n S x1 x2 = some out) : ∀ (H : Heap) (locs : List Loc), Wd D A s.heap (GM cy ad S) H locs → ∀ ls : Array Slot, lv_has ls 5 [(0, .ref (ad 0 0)), (1, .int x1), (2, .int x2)] → W p l e rm_X8_find s m args below meth c H locs 0 0 (MQ below (va_Qi (fun r (u : MSt) => out = r ∧ u = S) (fun u => Pst D (tysC cy) A (GM cy ad u)) A) args s 0 0 A) (F0 m 0 ls []) := by
  intro H locs hw ls hl
  obtain ⟨hx, hb, hml, hown, hts, hr, hlo, hK, hA, hX⟩ := id K
  unfold m_X8_find at hm
  refine lv_iconst (v := (-1)) hx hb dX8_find_0 (by decide) ?_
  refine lv_istore_n (lv' := [(3, .int (-1)), (0, .ref (ad 0 0)), (1, .int x1), (2, .int x2)]) hx hb dX8_find_1 rfl hl (by decide) rfl (fun ls hl => ?_)
  refine lv_iconst (v := 0) hx hb dX8_find_2 (by decide) ?_
  refine lv_istore (lv' := [(4, .int 0), (3, .int (-1)), (0, .ref (ad 0 0)), (1, .int x1), (2, .int x2)]) hx hb dX8_find_3 hl (by decide) rfl (fun ls hl => ?_)
  obtain ⟨z18, hz19, hm⟩ := bindS hm
  refine t_X8_find_L5 K n S x1 x2 z18 (fun w20 hww20 => ?_) (((-1), 0)) hz19 H locs hw ls (lv_sub hl [2, 3, 4, 1, 0] rfl)
  · intro H locs hw ls hl 
    try rw [hww20] at hm
    refine lv_iload_n hx hb dX8_find_45 rfl (lv_at hl 0 rfl) ?_
    exact g_iret (GG := GM cy ad) K hw ⟨(Option.some.inj hm).symm, rfl⟩ dX8_find_46
set_option maxRecDepth 100000 in
set_option maxHeartbeats 4000000 in
theorem c_X8_find (l : Launch) (D : va_G) (cy : Nat → ClassId) (ad : Nat → Nat → Nat) (sz n : Nat) (S : MSt) (x1 : Int32) (x2 : Int32)  {out : Int32} (hm : m_X8_find n S x1 x2 = some out) : Met l yX8_find wsX8_find rm_X8_find (va_Pc [.ref (ad 0 0), .int x1, .int x2] (Pre D (tysC cy) (GM cy ad S) (fun _ _ => True) sz)) (va_Qi (fun r (u : MSt) => out = r ∧ u = S) (fun u => Pst D (tysC cy) (AA (adrs (GM cy ad S)) sz) (GM cy ad u)) (AA (adrs (GM cy ad S)) sz)) 0 0 (AA (adrs (GM cy ad S)) sz) := by
  refine g_met (by decide) rfl (Nat.le_of_ble_eq_true rfl) ?_
  intro p e s m args below meth c K hw ls hl
  exact t_X8_find_0 (cy := cy) K n S x1 x2  hm _ _ hw ls hl
end W_X8_find
section W_X8_newClass
variable {p : Program} {l : Launch} {e : Env} {s : State} {m : MethodId} {args : Array Value} {below : List Frame} {meth : Method} {c : Code} {D : va_G} {A : Nat → Prop} {cy : Nat → ClassId} {ad : Nat → Nat → Nat} {Q : State → Prop}
abbrev rm_X8_newClass : Room := { frames := 0, cells := 0, slots := 0, locals := 0 }
theorem in_X8_newClass_X8 : ∀ w ∈ u_ws RX8 TX8 44, w ∈ wsX8_newClass := by decide +kernel
set_option maxRecDepth 100000 in
set_option maxHeartbeats 4000000 in
theorem t_X8_newClass_J14 (K : Cx p s m args meth c D A (tysC cy) RX8 cX8_newClass 1 (some .int) wsX8_newClass (fun _ _ => True)) (n : Nat) (S : MSt) (y1 : Int32) {out : Int32 × MSt} (hm : m_X8_newClass_J14 n S y1 = some out) : ∀ (H : Heap) (locs : List Loc), Wd D A s.heap (GM cy ad S) H locs → ∀ ls : Array Slot, lv_has ls 1 [(0, .ref (ad 0 0))] → W p l e rm_X8_newClass s m args below meth c H locs 0 0 (MQ below (va_Qi (fun r (u : MSt) => out = (r, u)) (fun u => Pst D (tysC cy) A (GM cy ad u)) A) args s 0 0 A) (F0 m 14 ls [.int y1, .ref (ad 0 0)]) := by
  intro H locs hw ls hl 
  obtain ⟨hx, hb, hml, hown, hts, hr, hlo, hK, hA, hX⟩ := id K
  unfold m_X8_newClass_J14 at hm
  refine g_put (v := .int y1) (ty := .int) (ref := "MigrantHeapModel") (C := RX8) (T := TX8) (N := 44) (ci := 8) K in_X8_newClass_X8 tyX8 tyX8_ok nmX8 hw 0 rfl (by decide : 0 < 1) rfl rfl 0 (by decide) (List.mem_of_getElem? (i := 2) rfl) rfl rfl (by decide +kernel) rfl rfl (Nat.le_of_ble_eq_true rfl) dX8_newClass_14 (eM_0 cy ad S y1) (fun H locs hw => ?_)
  obtain ⟨S7, hS7, hm⟩ := nm_ex hm
  rw [← hS7] at hw
  refine lv_aload_n hx hb dX8_newClass_17 rfl (lv_at hl 0 rfl) ?_
  refine g_get (ref := "MigrantHeapModel") (C := RX8) (T := TX8) (N := 44) (ci := 8) K in_X8_newClass_X8 hw 0 rfl (by decide : 0 < 1) rfl rfl 0 (by decide) (List.mem_of_getElem? (i := 2) rfl) rfl rfl dX8_newClass_18 ?_
  refine lv_if_le (tgt := 26) hx hb dX8_newClass_21 (by decide) (fun c8 => ?_) (fun c8 => ?_)
  · replace hm := (if_pos c8).symm.trans hm
    refine lv_aload_n hx hb dX8_newClass_26 rfl (lv_at hl 0 rfl) ?_
    refine lv_dup hx hb dX8_newClass_27 rfl ?_
    refine g_get (ref := "MigrantHeapModel") (C := RX8) (T := TX8) (N := 44) (ci := 8) K in_X8_newClass_X8 hw 0 rfl (by decide : 0 < 1) rfl rfl 1 (by decide) (List.mem_of_getElem? (i := 1) rfl) rfl rfl dX8_newClass_28 ?_
    refine lv_iconst (v := 1) hx hb dX8_newClass_31 (by decide) ?_
    refine lv_iadd hx hb dX8_newClass_32 ?_
    refine g_put (v := .int ((S7.1 1 0) + 1)) (ty := .int) (ref := "MigrantHeapModel") (C := RX8) (T := TX8) (N := 44) (ci := 8) K in_X8_newClass_X8 tyX8 tyX8_ok nmX8 hw 0 rfl (by decide : 0 < 1) rfl rfl 1 (by decide) (List.mem_of_getElem? (i := 1) rfl) rfl rfl (by decide +kernel) rfl rfl (Nat.le_of_ble_eq_true rfl) dX8_newClass_33 (eM_1 cy ad S7 ((S7.1 1 0) + 1)) (fun H locs hw => ?_)
    obtain ⟨S9, hS9, hm⟩ := nm_ex hm
    rw [← hS9] at hw
    refine lv_aload_n hx hb dX8_newClass_36 rfl (lv_at hl 0 rfl) ?_
    refine g_get (ref := "MigrantHeapModel") (C := RX8) (T := TX8) (N := 44) (ci := 8) K in_X8_newClass_X8 hw 0 rfl (by decide : 0 < 1) rfl rfl 1 (by decide) (List.mem_of_getElem? (i := 1) rfl) rfl rfl dX8_newClass_37 ?_
    refine lv_iconst (v := 1) hx hb dX8_newClass_40 (by decide) ?_
    refine lv_isub hx hb dX8_newClass_41 ?_
    exact g_iret (GG := GM cy ad) K hw (Option.some.inj hm).symm dX8_newClass_42
  · replace hm := (if_neg c8).symm.trans hm
    refine lv_iconst (v := 0) hx hb dX8_newClass_24 (by decide) ?_
    exact g_iret (GG := GM cy ad) K hw (Option.some.inj hm).symm dX8_newClass_25
set_option maxRecDepth 100000 in
set_option maxHeartbeats 4000000 in
theorem t_X8_newClass_0 (K : Cx p s m args meth c D A (tysC cy) RX8 cX8_newClass 1 (some .int) wsX8_newClass (fun _ _ => True)) (n : Nat) (S : MSt)   {out : Int32 × MSt} (hm : m_X8_newClass n S  = some out) : ∀ (H : Heap) (locs : List Loc), Wd D A s.heap (GM cy ad S) H locs → ∀ ls : Array Slot, lv_has ls 1 [(0, .ref (ad 0 0))] → W p l e rm_X8_newClass s m args below meth c H locs 0 0 (MQ below (va_Qi (fun r (u : MSt) => out = (r, u)) (fun u => Pst D (tysC cy) A (GM cy ad u)) A) args s 0 0 A) (F0 m 0 ls []) := by
  intro H locs hw ls hl
  obtain ⟨hx, hb, hml, hown, hts, hr, hlo, hK, hA, hX⟩ := id K
  unfold m_X8_newClass at hm
  refine lv_aload_n hx hb dX8_newClass_0 rfl (lv_at hl 0 rfl) ?_
  refine lv_aload_n hx hb dX8_newClass_1 rfl (lv_at hl 0 rfl) ?_
  refine g_get (ref := "MigrantHeapModel") (C := RX8) (T := TX8) (N := 44) (ci := 8) K in_X8_newClass_X8 hw 0 rfl (by decide : 0 < 1) rfl rfl 1 (by decide) (List.mem_of_getElem? (i := 1) rfl) rfl rfl dX8_newClass_2 ?_
  refine lv_iconst (v := 4) hx hb dX8_newClass_5 (by decide) ?_
  refine lv_icmp_ne (tgt := 13) hx hb dX8_newClass_6 (by decide) (fun c10 => ?_) (fun c10 => ?_)
  · replace hm := (if_pos c10).symm.trans hm
    refine lv_iconst (v := 0) hx hb dX8_newClass_13 (by decide) ?_
    exact t_X8_newClass_J14 K n S 0 hm H locs hw ls (lv_sub hl [0] rfl)
  · replace hm := (if_neg (fun h => h c10)).symm.trans hm
    refine lv_iconst (v := 1) hx hb dX8_newClass_9 (by decide) ?_
    refine lv_goto (tgt := 14) hx hb dX8_newClass_10 (by decide) ?_
    exact t_X8_newClass_J14 K n S 1 hm H locs hw ls (lv_sub hl [0] rfl)
set_option maxRecDepth 100000 in
set_option maxHeartbeats 4000000 in
theorem c_X8_newClass (l : Launch) (D : va_G) (cy : Nat → ClassId) (ad : Nat → Nat → Nat) (sz n : Nat) (S : MSt)   {out : Int32 × MSt} (hm : m_X8_newClass n S  = some out) : Met l yX8_newClass wsX8_newClass rm_X8_newClass (va_Pc [.ref (ad 0 0)] (Pre D (tysC cy) (GM cy ad S) (fun _ _ => True) sz)) (va_Qi (fun r (u : MSt) => out = (r, u)) (fun u => Pst D (tysC cy) (AA (adrs (GM cy ad S)) sz) (GM cy ad u)) (AA (adrs (GM cy ad S)) sz)) 0 0 (AA (adrs (GM cy ad S)) sz) := by
  refine g_met (by decide) rfl (Nat.le_of_ble_eq_true rfl) ?_
  intro p e s m args below meth c K hw ls hl
  exact t_X8_newClass_0 (cy := cy) K n S   hm _ _ hw ls hl
end W_X8_newClass
section W_X8_needed
variable {p : Program} {l : Launch} {e : Env} {s : State} {m : MethodId} {args : Array Value} {below : List Frame} {meth : Method} {c : Code} {D : va_G} {A : Nat → Prop} {cy : Nat → ClassId} {ad : Nat → Nat → Nat} {Q : State → Prop}
abbrev rm_X8_needed : Room := { frames := 0, cells := 0, slots := 0, locals := 0 }
theorem in_X8_needed_X8 : ∀ w ∈ u_ws RX8 TX8 44, w ∈ wsX8_needed := by decide +kernel
set_option maxRecDepth 100000 in
set_option maxHeartbeats 4000000 in
theorem t_X8_needed_L33 (K : Cx p s m args meth c D A (tysC cy) RX8 cX8_needed 6 (some .int) wsX8_needed (fun _ _ => True)) (n : Nat) (x3 : Int32) (x4 : Int32)  (z : (MSt × Int32)) (hE0 : ∀ w : (MSt × Int32), z = w → ∀ (H : Heap) (locs : List Loc), Wd D A s.heap (GM cy ad w.1) H locs → ∀ ls : Array Slot, lv_has ls 6 [(0, .ref (ad 0 0)), (2, .int w.2), (3, .int x3)] → W p l e rm_X8_needed s m args below meth c H locs 0 0 Q (F0 m 96 ls [])) : ∀ (x : (MSt × Int32 × Int32)), lpO (b_X8_needed_33 n x3 x4) n x = some z → (fun (x : (MSt × Int32 × Int32)) => ∀ (H : Heap) (locs : List Loc), Wd D A s.heap (GM cy ad x.1) H locs → ∀ ls : Array Slot, lv_has ls 6 [(0, .ref (ad 0 0)), (2, .int x.2.1), (3, .int x3), (4, .int x4), (5, .int x.2.2)] → W p l e rm_X8_needed s m args below meth c H locs 0 0 Q (F0 m 33 ls [])) x := by
  intro x hx0
  refine lpO_ind2 (P := fun (x : (MSt × Int32 × Int32)) => ∀ (H : Heap) (locs : List Loc), Wd D A s.heap (GM cy ad x.1) H locs → ∀ ls : Array Slot, lv_has ls 6 [(0, .ref (ad 0 0)), (2, .int x.2.1), (3, .int x3), (4, .int x4), (5, .int x.2.2)] → W p l e rm_X8_needed s m args below meth c H locs 0 0 Q (F0 m 33 ls [])) (z := z) ?_ n x hx0
  clear hx0 x
  intro x out hm hg H locs hw ls hl 
  obtain ⟨hx, hb, hml, hown, hts, hr, hlo, hK, hA, hX⟩ := id K
  unfold b_X8_needed_33 at hm
  refine lv_iload hx hb dX8_needed_33 (lv_at hl 4 rfl) ?_
  refine lv_aload_n hx hb dX8_needed_35 rfl (lv_at hl 0 rfl) ?_
  refine g_get (ref := "MigrantHeapModel") (C := RX8) (T := TX8) (N := 44) (ci := 8) K in_X8_needed_X8 hw 0 rfl (by decide : 0 < 1) rfl rfl 4 (by decide) (List.mem_of_getElem? (i := 2) rfl) rfl rfl dX8_needed_36 ?_
  refine lv_iload hx hb dX8_needed_39 (lv_at hl 3 rfl) ?_
  obtain ⟨h41, hm⟩ := chkS hm
  refine g_iald K hw 3 0 rfl (by decide) rfl rfl h41 dX8_needed_41 ?_
  refine lv_icmp_ge (tgt := 96) hx hb dX8_needed_42 (by decide) (fun c42 => ?_) (fun c42 => ?_)
  · replace hm := (if_pos c42).symm.trans hm
    obtain rfl := Option.some.inj hm
    exact hE0 _ hg.symm H locs hw ls (lv_sub hl [0, 1, 2] rfl)
  · replace hm := (if_neg c42).symm.trans hm
    refine lv_aload_n hx hb dX8_needed_45 rfl (lv_at hl 0 rfl) ?_
    refine g_get (ref := "MigrantHeapModel") (C := RX8) (T := TX8) (N := 44) (ci := 8) K in_X8_needed_X8 hw 0 rfl (by decide : 0 < 1) rfl rfl 6 (by decide) (List.mem_of_getElem? (i := 3) rfl) rfl rfl dX8_needed_46 ?_
    refine lv_bipush (v := 6) hx hb dX8_needed_49 (by decide) ?_
    refine lv_iload hx hb dX8_needed_51 (lv_at hl 3 rfl) ?_
    refine lv_imul hx hb dX8_needed_53 ?_
    refine lv_iload hx hb dX8_needed_54 (lv_at hl 4 rfl) ?_
    refine lv_iadd hx hb dX8_needed_56 ?_
    obtain ⟨h43, hm⟩ := chkS hm
    refine g_iald K hw 5 0 rfl (by decide) rfl rfl h43 dX8_needed_57 ?_
    refine lv_iconst (v := 2) hx hb dX8_needed_58 (by decide) ?_
    refine lv_icmp_ne (tgt := 90) hx hb dX8_needed_59 (by decide) (fun c44 => ?_) (fun c44 => ?_)
    · replace hm := (if_pos c44).symm.trans hm
      obtain ⟨x45, hx45, hm⟩ := nm_ex hm
      refine lv_iinc (v := x45) (lv' := [(5, .int x45), (0, .ref (ad 0 0)), (2, .int x.2.1), (3, .int x3), (4, .int x4)]) hx hb dX8_needed_90 hl (k := 4) rfl (by rw [hx45]; rfl) (by decide) rfl (fun ls hl => ?_)
      refine lv_goto (tgt := 33) hx hb dX8_needed_93 (by decide) ?_
      obtain rfl := Option.some.inj hm
      exact hg H locs hw ls (lv_sub hl [1, 2, 3, 4, 0] rfl)
    · replace hm := (if_neg (fun h => h c44)).symm.trans hm
      refine lv_iload_n hx hb dX8_needed_62 rfl (lv_at hl 1 rfl) ?_
      refine lv_bipush (v := 25) hx hb dX8_needed_63 (by decide) ?_
      refine lv_icmp_ge (tgt := 90) hx hb dX8_needed_65 (by decide) (fun c46 => ?_) (fun c46 => ?_)
      · replace hm := (if_pos c46).symm.trans hm
        obtain ⟨x47, hx47, hm⟩ := nm_ex hm
        refine lv_iinc (v := x47) (lv' := [(5, .int x47), (0, .ref (ad 0 0)), (2, .int x.2.1), (3, .int x3), (4, .int x4)]) hx hb dX8_needed_90 hl (k := 4) rfl (by rw [hx47]; rfl) (by decide) rfl (fun ls hl => ?_)
        refine lv_goto (tgt := 33) hx hb dX8_needed_93 (by decide) ?_
        obtain rfl := Option.some.inj hm
        exact hg H locs hw ls (lv_sub hl [1, 2, 3, 4, 0] rfl)
      · replace hm := (if_neg c46).symm.trans hm
        refine lv_aload_n hx hb dX8_needed_68 rfl (lv_at hl 0 rfl) ?_
        refine g_get (ref := "MigrantHeapModel") (C := RX8) (T := TX8) (N := 44) (ci := 8) K in_X8_needed_X8 hw 0 rfl (by decide : 0 < 1) rfl rfl 43 (by decide) (List.mem_of_getElem? (i := 1) rfl) rfl rfl dX8_needed_69 ?_
        refine lv_iload_n hx hb dX8_needed_72 rfl (lv_at hl 1 rfl) ?_
        refine lv_aload_n hx hb dX8_needed_73 rfl (lv_at hl 0 rfl) ?_
        refine g_get (ref := "MigrantHeapModel") (C := RX8) (T := TX8) (N := 44) (ci := 8) K in_X8_needed_X8 hw 0 rfl (by decide : 0 < 1) rfl rfl 7 (by decide) (List.mem_of_getElem? (i := 4) rfl) rfl rfl dX8_needed_74 ?_
        refine lv_bipush (v := 6) hx hb dX8_needed_77 (by decide) ?_
        refine lv_iload hx hb dX8_needed_79 (lv_at hl 3 rfl) ?_
        refine lv_imul hx hb dX8_needed_81 ?_
        refine lv_iload hx hb dX8_needed_82 (lv_at hl 4 rfl) ?_
        refine lv_iadd hx hb dX8_needed_84 ?_
        obtain ⟨h48, hm⟩ := chkS hm
        refine g_iald K hw 6 0 rfl (by decide) rfl rfl h48 dX8_needed_85 ?_
        obtain ⟨h49, hm⟩ := chkS hm
        refine g_iast K hw 34 0 rfl (by decide) rfl rfl h49 dX8_needed_86 (eM_43 cy ad x.1 x.2.1.toNatClampNeg (x.1.1 7 ((6 * x4) + x.2.2).toNatClampNeg)) (fun H locs hw => ?_)
        obtain ⟨S50, hS50, hm⟩ := nm_ex hm
        rw [← hS50] at hw
        obtain ⟨x51, hx51, hm⟩ := nm_ex hm
        refine lv_iinc (v := x51) (lv' := [(2, .int x51), (0, .ref (ad 0 0)), (3, .int x3), (4, .int x4), (5, .int x.2.2)]) hx hb dX8_needed_87 hl (k := 1) rfl (by rw [hx51]; rfl) (by decide) rfl (fun ls hl => ?_)
        obtain ⟨x52, hx52, hm⟩ := nm_ex hm
        refine lv_iinc (v := x52) (lv' := [(5, .int x52), (2, .int x51), (0, .ref (ad 0 0)), (3, .int x3), (4, .int x4)]) hx hb dX8_needed_90 hl (k := 4) rfl (by rw [hx52]; rfl) (by decide) rfl (fun ls hl => ?_)
        refine lv_goto (tgt := 33) hx hb dX8_needed_93 (by decide) ?_
        obtain rfl := Option.some.inj hm
        exact hg H locs hw ls (lv_sub hl [2, 1, 3, 4, 0] rfl)
set_option maxRecDepth 100000 in
set_option maxHeartbeats 4000000 in
theorem t_X8_needed_L11 (K : Cx p s m args meth c D A (tysC cy) RX8 cX8_needed 6 (some .int) wsX8_needed (fun _ _ => True)) (n : Nat)   (z : (MSt × Int32)) (hE0 : ∀ w : (MSt × Int32), z = w → ∀ (H : Heap) (locs : List Loc), Wd D A s.heap (GM cy ad w.1) H locs → ∀ ls : Array Slot, lv_has ls 6 [(2, .int w.2)] → W p l e rm_X8_needed s m args below meth c H locs 0 0 Q (F0 m 102 ls [])) : ∀ (x : (MSt × Int32 × Int32)), lpO (b_X8_needed_11 n ) n x = some z → (fun (x : (MSt × Int32 × Int32)) => ∀ (H : Heap) (locs : List Loc), Wd D A s.heap (GM cy ad x.1) H locs → ∀ ls : Array Slot, lv_has ls 6 [(0, .ref (ad 0 0)), (2, .int x.2.1), (3, .int x.2.2)] → W p l e rm_X8_needed s m args below meth c H locs 0 0 Q (F0 m 11 ls [])) x := by
  intro x hx0
  refine lpO_ind2 (P := fun (x : (MSt × Int32 × Int32)) => ∀ (H : Heap) (locs : List Loc), Wd D A s.heap (GM cy ad x.1) H locs → ∀ ls : Array Slot, lv_has ls 6 [(0, .ref (ad 0 0)), (2, .int x.2.1), (3, .int x.2.2)] → W p l e rm_X8_needed s m args below meth c H locs 0 0 Q (F0 m 11 ls [])) (z := z) ?_ n x hx0
  clear hx0 x
  intro x out hm hg H locs hw ls hl 
  obtain ⟨hx, hb, hml, hown, hts, hr, hlo, hK, hA, hX⟩ := id K
  unfold b_X8_needed_11 at hm
  refine lv_iload_n hx hb dX8_needed_11 rfl (lv_at hl 2 rfl) ?_
  refine lv_iload_n hx hb dX8_needed_12 rfl (lv_at hl 1 rfl) ?_
  refine lv_icmp_ge (tgt := 102) hx hb dX8_needed_13 (by decide) (fun c53 => ?_) (fun c53 => ?_)
  · replace hm := (if_pos c53).symm.trans hm
    obtain rfl := Option.some.inj hm
    exact hE0 _ hg.symm H locs hw ls (lv_sub hl [1] rfl)
  · replace hm := (if_neg c53).symm.trans hm
    refine lv_iload_n hx hb dX8_needed_16 rfl (lv_at hl 1 rfl) ?_
    refine lv_bipush (v := 25) hx hb dX8_needed_17 (by decide) ?_
    refine lv_icmp_ge (tgt := 102) hx hb dX8_needed_19 (by decide) (fun c54 => ?_) (fun c54 => ?_)
    · replace hm := (if_pos c54).symm.trans hm
      obtain rfl := Option.some.inj hm
      exact hE0 _ hg.symm H locs hw ls (lv_sub hl [1] rfl)
    · replace hm := (if_neg c54).symm.trans hm
      refine lv_aload_n hx hb dX8_needed_22 rfl (lv_at hl 0 rfl) ?_
      refine g_get (ref := "MigrantHeapModel") (C := RX8) (T := TX8) (N := 44) (ci := 8) K in_X8_needed_X8 hw 0 rfl (by decide : 0 < 1) rfl rfl 43 (by decide) (List.mem_of_getElem? (i := 1) rfl) rfl rfl dX8_needed_23 ?_
      refine lv_iload_n hx hb dX8_needed_26 rfl (lv_at hl 2 rfl) ?_
      obtain ⟨h55, hm⟩ := chkS hm
      refine g_iald K hw 34 0 rfl (by decide) rfl rfl h55 dX8_needed_27 ?_
      obtain ⟨x56, hx56, hm⟩ := nm_ex hm
      refine W.eq (g2 := F0 m 28 ls (.int x56 :: [])) (by rw [hx56]) ?_
      refine lv_istore (lv' := [(4, .int x56), (0, .ref (ad 0 0)), (2, .int x.2.1), (3, .int x.2.2)]) hx hb dX8_needed_28 hl (by decide) rfl (fun ls hl => ?_)
      refine lv_iconst (v := 0) hx hb dX8_needed_30 (by decide) ?_
      refine lv_istore (lv' := [(5, .int 0), (4, .int x56), (0, .ref (ad 0 0)), (2, .int x.2.1), (3, .int x.2.2)]) hx hb dX8_needed_31 hl (by decide) rfl (fun ls hl => ?_)
      obtain ⟨z57, hz58, hm⟩ := bindS hm
      refine t_X8_needed_L33 K n x.2.2 x56 z57 (fun w59 hww59 => ?_) ((x.1, x.2.1, 0)) hz58 H locs hw ls (lv_sub hl [2, 3, 4, 1, 0] rfl)
      · intro H locs hw ls hl 
        try rw [hww59] at hm
        obtain ⟨x60, hx60, hm⟩ := nm_ex hm
        refine lv_iinc (v := x60) (lv' := [(3, .int x60), (0, .ref (ad 0 0)), (2, .int w59.2)]) hx hb dX8_needed_96 hl (k := 2) rfl (by rw [hx60]; rfl) (by decide) rfl (fun ls hl => ?_)
        refine lv_goto (tgt := 11) hx hb dX8_needed_99 (by decide) ?_
        obtain rfl := Option.some.inj hm
        exact hg H locs hw ls (lv_sub hl [1, 2, 0] rfl)
set_option maxRecDepth 100000 in
set_option maxHeartbeats 4000000 in
theorem t_X8_needed_0 (K : Cx p s m args meth c D A (tysC cy) RX8 cX8_needed 6 (some .int) wsX8_needed (fun _ _ => True)) (n : Nat) (S : MSt) (x1 : Int32)  {out : Int32 × MSt} (hm : m_X8_needed n S x1 = some out) : ∀ (H : Heap) (locs : List Loc), Wd D A s.heap (GM cy ad S) H locs → ∀ ls : Array Slot, lv_has ls 6 [(0, .ref (ad 0 0)), (1, .int x1)] → W p l e rm_X8_needed s m args below meth c H locs 0 0 (MQ below (va_Qi (fun r (u : MSt) => out = (r, u)) (fun u => Pst D (tysC cy) A (GM cy ad u)) A) args s 0 0 A) (F0 m 0 ls []) := by
  intro H locs hw ls hl
  obtain ⟨hx, hb, hml, hown, hts, hr, hlo, hK, hA, hX⟩ := id K
  unfold m_X8_needed at hm
  refine lv_aload_n hx hb dX8_needed_0 rfl (lv_at hl 0 rfl) ?_
  refine g_get (ref := "MigrantHeapModel") (C := RX8) (T := TX8) (N := 44) (ci := 8) K in_X8_needed_X8 hw 0 rfl (by decide : 0 < 1) rfl rfl 43 (by decide) (List.mem_of_getElem? (i := 1) rfl) rfl rfl dX8_needed_1 ?_
  refine lv_iconst (v := 0) hx hb dX8_needed_4 (by decide) ?_
  refine lv_iload_n hx hb dX8_needed_5 rfl (lv_at hl 1 rfl) ?_
  obtain ⟨h61, hm⟩ := chkS hm
  refine g_iast K hw 34 0 rfl (by decide) rfl rfl h61 dX8_needed_6 (eM_43 cy ad S ((0 : Int32).toNatClampNeg) x1) (fun H locs hw => ?_)
  obtain ⟨S62, hS62, hm⟩ := nm_ex hm
  rw [← hS62] at hw
  refine lv_iconst (v := 1) hx hb dX8_needed_7 (by decide) ?_
  refine lv_istore_n (lv' := [(2, .int 1), (0, .ref (ad 0 0)), (1, .int x1)]) hx hb dX8_needed_8 rfl hl (by decide) rfl (fun ls hl => ?_)
  refine lv_iconst (v := 0) hx hb dX8_needed_9 (by decide) ?_
  refine lv_istore_n (lv' := [(3, .int 0), (2, .int 1), (0, .ref (ad 0 0)), (1, .int x1)]) hx hb dX8_needed_10 rfl hl (by decide) rfl (fun ls hl => ?_)
  obtain ⟨z63, hz64, hm⟩ := bindS hm
  refine t_X8_needed_L11 K n  z63 (fun w65 hww65 => ?_) ((S62, 1, 0)) hz64 H locs hw ls (lv_sub hl [2, 1, 0] rfl)
  · intro H locs hw ls hl 
    try rw [hww65] at hm
    refine lv_iload_n hx hb dX8_needed_102 rfl (lv_at hl 0 rfl) ?_
    exact g_iret (GG := GM cy ad) K hw (Option.some.inj hm).symm dX8_needed_103
set_option maxRecDepth 100000 in
set_option maxHeartbeats 4000000 in
theorem c_X8_needed (l : Launch) (D : va_G) (cy : Nat → ClassId) (ad : Nat → Nat → Nat) (sz n : Nat) (S : MSt) (x1 : Int32)  {out : Int32 × MSt} (hm : m_X8_needed n S x1 = some out) : Met l yX8_needed wsX8_needed rm_X8_needed (va_Pc [.ref (ad 0 0), .int x1] (Pre D (tysC cy) (GM cy ad S) (fun _ _ => True) sz)) (va_Qi (fun r (u : MSt) => out = (r, u)) (fun u => Pst D (tysC cy) (AA (adrs (GM cy ad S)) sz) (GM cy ad u)) (AA (adrs (GM cy ad S)) sz)) 0 0 (AA (adrs (GM cy ad S)) sz) := by
  refine g_met (by decide) rfl (Nat.le_of_ble_eq_true rfl) ?_
  intro p e s m args below meth c K hw ls hl
  exact t_X8_needed_0 (cy := cy) K n S x1  hm _ _ hw ls hl
end W_X8_needed
section W_X8_bare
variable {p : Program} {l : Launch} {e : Env} {s : State} {m : MethodId} {args : Array Value} {below : List Frame} {meth : Method} {c : Code} {D : va_G} {A : Nat → Prop} {cy : Nat → ClassId} {ad : Nat → Nat → Nat} {Q : State → Prop}
abbrev rm_X8_bare : Room := { frames := 1, cells := 0, slots := 0, locals := 22 }
theorem in_X8_bare_X8 : ∀ w ∈ u_ws RX8 TX8 44, w ∈ wsX8_bare := by decide +kernel
set_option maxRecDepth 100000 in
set_option maxHeartbeats 4000000 in
theorem t_X8_bare_J136 (K : Cx p s m args meth c D A (tysC cy) RX8 cX8_bare 7 (some .int) wsX8_bare (fun _ _ => True)) (n : Nat) (S : MSt) (x1 : Int32) (x2 : Int32) (x3 : Int32) (y1 : Int32) (y2 : Int32) {out : (MSt × Int32) ⊕ MSt} {z : MSt} (hm : m_X8_bare_J136 n S x1 x2 x3 y1 y2 = some out) (hg : Gd (fun (x : (MSt × Int32)) => ∀ (H : Heap) (locs : List Loc), Wd D A s.heap (GM cy ad x.1) H locs → ∀ ls : Array Slot, lv_has ls 7 [(0, .ref (ad 0 0)), (1, .int x1), (2, .int x2), (3, .int x.2)] → W p l e rm_X8_bare s m args below meth c H locs 0 0 Q (F0 m 33 ls [])) z out) (hE0 : ∀ w : MSt, z = w → ∀ (H : Heap) (locs : List Loc), Wd D A s.heap (GM cy ad w) H locs → ∀ ls : Array Slot, lv_has ls 7 [(2, .int x2)] → W p l e rm_X8_bare s m args below meth c H locs 0 0 Q (F0 m 143 ls [])) : ∀ (H : Heap) (locs : List Loc), Wd D A s.heap (GM cy ad S) H locs → ∀ ls : Array Slot, lv_has ls 7 [(0, .ref (ad 0 0)), (1, .int x1), (2, .int x2), (3, .int x3)] → W p l e rm_X8_bare s m args below meth c H locs 0 0 Q (F0 m 136 ls [.int y2, .int y1, .ref (ad 15 0)]) := by
  intro H locs hw ls hl 
  obtain ⟨hx, hb, hml, hown, hts, hr, hlo, hK, hA, hX⟩ := id K
  unfold m_X8_bare_J136 at hm
  obtain ⟨h55, hm⟩ := chkS hm
  refine g_iast K hw 15 0 rfl (by decide) rfl rfl h55 dX8_bare_136 (eM_16 cy ad S y1.toNatClampNeg y2) (fun H locs hw => ?_)
  obtain ⟨S56, hS56, hm⟩ := nm_ex hm
  rw [← hS56] at hw
  obtain ⟨x57, hx57, hm⟩ := nm_ex hm
  refine lv_iinc (v := x57) (lv' := [(3, .int x57), (0, .ref (ad 0 0)), (1, .int x1), (2, .int x2)]) hx hb dX8_bare_137 hl (k := 3) rfl (by rw [hx57]; rfl) (by decide) rfl (fun ls hl => ?_)
  refine lv_goto (tgt := 33) hx hb dX8_bare_140 (by decide) ?_
  obtain rfl := Option.some.inj hm
  exact hg H locs hw ls (lv_sub hl [1, 2, 3, 0] rfl)
set_option maxRecDepth 100000 in
set_option maxHeartbeats 4000000 in
theorem t_X8_bare_J94 (K : Cx p s m args meth c D A (tysC cy) RX8 cX8_bare 7 (some .int) wsX8_bare (fun _ _ => True)) (n : Nat) (S : MSt) (x1 : Int32) (x2 : Int32) (x3 : Int32) (x4 : Int32) (x5 : Int32) (y0 : Int32) {out : (MSt × Int32) ⊕ MSt} {z : MSt} (hm : m_X8_bare_J94 n S x1 x2 x3 x4 x5 y0 = some out) (hg : Gd (fun (x : (MSt × Int32)) => ∀ (H : Heap) (locs : List Loc), Wd D A s.heap (GM cy ad x.1) H locs → ∀ ls : Array Slot, lv_has ls 7 [(0, .ref (ad 0 0)), (1, .int x1), (2, .int x2), (3, .int x.2)] → W p l e rm_X8_bare s m args below meth c H locs 0 0 Q (F0 m 33 ls [])) z out) (hE0 : ∀ w : MSt, z = w → ∀ (H : Heap) (locs : List Loc), Wd D A s.heap (GM cy ad w) H locs → ∀ ls : Array Slot, lv_has ls 7 [(2, .int x2)] → W p l e rm_X8_bare s m args below meth c H locs 0 0 Q (F0 m 143 ls [])) : ∀ (H : Heap) (locs : List Loc), Wd D A s.heap (GM cy ad S) H locs → ∀ ls : Array Slot, lv_has ls 7 [(0, .ref (ad 0 0)), (1, .int x1), (2, .int x2), (3, .int x3), (4, .int x4), (5, .int x5)] → W p l e rm_X8_bare s m args below meth c H locs 0 0 Q (F0 m 94 ls [.int y0]) := by
  intro H locs hw ls hl 
  obtain ⟨hx, hb, hml, hown, hts, hr, hlo, hK, hA, hX⟩ := id K
  unfold m_X8_bare_J94 at hm
  refine lv_istore (lv' := [(6, .int y0), (0, .ref (ad 0 0)), (1, .int x1), (2, .int x2), (3, .int x3), (4, .int x4), (5, .int x5)]) hx hb dX8_bare_94 hl (by decide) rfl (fun ls hl => ?_)
  refine lv_aload_n hx hb dX8_bare_96 rfl (lv_at hl 1 rfl) ?_
  refine g_get (ref := "MigrantHeapModel") (C := RX8) (T := TX8) (N := 44) (ci := 8) K in_X8_bare_X8 hw 0 rfl (by decide : 0 < 1) rfl rfl 16 (by decide) (List.mem_of_getElem? (i := 9) rfl) rfl rfl dX8_bare_97 ?_
  refine lv_bipush (v := 6) hx hb dX8_bare_100 (by decide) ?_
  refine lv_iload_n hx hb dX8_bare_102 rfl (lv_at hl 3 rfl) ?_
  refine lv_imul hx hb dX8_bare_103 ?_
  refine lv_iload_n hx hb dX8_bare_104 rfl (lv_at hl 4 rfl) ?_
  refine lv_iadd hx hb dX8_bare_105 ?_
  refine lv_iload hx hb dX8_bare_106 (lv_at hl 0 rfl) ?_
  refine lv_if_ne (tgt := 115) hx hb dX8_bare_108 (by decide) (fun c58 => ?_) (fun c58 => ?_)
  · replace hm := (if_pos c58).symm.trans hm
    refine lv_iload hx hb dX8_bare_115 (lv_at hl 5 rfl) ?_
    refine lv_if_le (tgt := 125) hx hb dX8_bare_117 (by decide) (fun c59 => ?_) (fun c59 => ?_)
    · replace hm := (if_pos c59).symm.trans hm
      refine lv_iload hx hb dX8_bare_125 (lv_at hl 6 rfl) ?_
      refine lv_if_ge (tgt := 135) hx hb dX8_bare_127 (by decide) (fun c60 => ?_) (fun c60 => ?_)
      · replace hm := (if_pos c60).symm.trans hm
        refine lv_iconst (v := 0) hx hb dX8_bare_135 (by decide) ?_
        exact t_X8_bare_J136 K n S x1 x2 x3 ((6 * x2) + x3) 0 hm hg hE0 H locs hw ls (lv_sub hl [1, 2, 3, 4] rfl)
      · replace hm := (if_neg c60).symm.trans hm
        refine lv_iload hx hb dX8_bare_130 (lv_at hl 6 rfl) ?_
        refine lv_goto (tgt := 136) hx hb dX8_bare_132 (by decide) ?_
        exact t_X8_bare_J136 K n S x1 x2 x3 ((6 * x2) + x3) x5 hm hg hE0 H locs hw ls (lv_sub hl [1, 2, 3, 4] rfl)
    · replace hm := (if_neg c59).symm.trans hm
      refine lv_iload hx hb dX8_bare_120 (lv_at hl 5 rfl) ?_
      refine lv_goto (tgt := 136) hx hb dX8_bare_122 (by decide) ?_
      exact t_X8_bare_J136 K n S x1 x2 x3 ((6 * x2) + x3) x4 hm hg hE0 H locs hw ls (lv_sub hl [1, 2, 3, 4] rfl)
  · replace hm := (if_neg (fun h => h c58)).symm.trans hm
    refine lv_iconst (v := (-1)) hx hb dX8_bare_111 (by decide) ?_
    refine lv_goto (tgt := 136) hx hb dX8_bare_112 (by decide) ?_
    exact t_X8_bare_J136 K n S x1 x2 x3 ((6 * x2) + x3) (-1) hm hg hE0 H locs hw ls (lv_sub hl [1, 2, 3, 4] rfl)
set_option maxRecDepth 100000 in
set_option maxHeartbeats 4000000 in
theorem t_X8_bare_J93 (K : Cx p s m args meth c D A (tysC cy) RX8 cX8_bare 7 (some .int) wsX8_bare (fun _ _ => True)) (n : Nat) (S : MSt) (x1 : Int32) (x2 : Int32) (x3 : Int32) (x4 : Int32) (x5 : Int32) {out : (MSt × Int32) ⊕ MSt} {z : MSt} (hm : m_X8_bare_J93 n S x1 x2 x3 x4 x5 = some out) (hg : Gd (fun (x : (MSt × Int32)) => ∀ (H : Heap) (locs : List Loc), Wd D A s.heap (GM cy ad x.1) H locs → ∀ ls : Array Slot, lv_has ls 7 [(0, .ref (ad 0 0)), (1, .int x1), (2, .int x2), (3, .int x.2)] → W p l e rm_X8_bare s m args below meth c H locs 0 0 Q (F0 m 33 ls [])) z out) (hE0 : ∀ w : MSt, z = w → ∀ (H : Heap) (locs : List Loc), Wd D A s.heap (GM cy ad w) H locs → ∀ ls : Array Slot, lv_has ls 7 [(2, .int x2)] → W p l e rm_X8_bare s m args below meth c H locs 0 0 Q (F0 m 143 ls [])) : ∀ (H : Heap) (locs : List Loc), Wd D A s.heap (GM cy ad S) H locs → ∀ ls : Array Slot, lv_has ls 7 [(0, .ref (ad 0 0)), (1, .int x1), (2, .int x2), (3, .int x3), (4, .int x4), (5, .int x5)] → W p l e rm_X8_bare s m args below meth c H locs 0 0 Q (F0 m 93 ls []) := by
  intro H locs hw ls hl 
  obtain ⟨hx, hb, hml, hown, hts, hr, hlo, hK, hA, hX⟩ := id K
  unfold m_X8_bare_J93 at hm
  refine lv_iconst (v := 0) hx hb dX8_bare_93 (by decide) ?_
  exact t_X8_bare_J94 K n S x1 x2 x3 x4 x5 0 hm hg hE0 H locs hw ls (lv_sub hl [0, 1, 2, 3, 4, 5] rfl)
set_option maxRecDepth 100000 in
set_option maxHeartbeats 4000000 in
theorem t_X8_bare_L33 (K : Cx p s m args meth c D A (tysC cy) RX8 cX8_bare 7 (some .int) wsX8_bare (fun _ _ => True)) (n : Nat) (x1 : Int32) (x2 : Int32)  (z : MSt) (hE0 : ∀ w : MSt, z = w → ∀ (H : Heap) (locs : List Loc), Wd D A s.heap (GM cy ad w) H locs → ∀ ls : Array Slot, lv_has ls 7 [(2, .int x2)] → W p l e rm_X8_bare s m args below meth c H locs 0 0 Q (F0 m 143 ls [])) : ∀ (x : (MSt × Int32)), lpO (b_X8_bare_33 n x1 x2) n x = some z → (fun (x : (MSt × Int32)) => ∀ (H : Heap) (locs : List Loc), Wd D A s.heap (GM cy ad x.1) H locs → ∀ ls : Array Slot, lv_has ls 7 [(0, .ref (ad 0 0)), (1, .int x1), (2, .int x2), (3, .int x.2)] → W p l e rm_X8_bare s m args below meth c H locs 0 0 Q (F0 m 33 ls [])) x := by
  intro x hx0
  refine lpO_ind2 (P := fun (x : (MSt × Int32)) => ∀ (H : Heap) (locs : List Loc), Wd D A s.heap (GM cy ad x.1) H locs → ∀ ls : Array Slot, lv_has ls 7 [(0, .ref (ad 0 0)), (1, .int x1), (2, .int x2), (3, .int x.2)] → W p l e rm_X8_bare s m args below meth c H locs 0 0 Q (F0 m 33 ls [])) (z := z) ?_ n x hx0
  clear hx0 x
  intro x out hm hg H locs hw ls hl 
  obtain ⟨hx, hb, hml, hown, hts, hr, hlo, hK, hA, hX⟩ := id K
  unfold b_X8_bare_33 at hm
  refine lv_iload_n hx hb dX8_bare_33 rfl (lv_at hl 3 rfl) ?_
  refine lv_bipush (v := 6) hx hb dX8_bare_34 (by decide) ?_
  refine lv_icmp_ge (tgt := 143) hx hb dX8_bare_36 (by decide) (fun c61 => ?_) (fun c61 => ?_)
  · replace hm := (if_pos c61).symm.trans hm
    obtain rfl := Option.some.inj hm
    exact hE0 _ hg.symm H locs hw ls (lv_sub hl [2] rfl)
  · replace hm := (if_neg c61).symm.trans hm
    refine lv_aload_n hx hb dX8_bare_39 rfl (lv_at hl 0 rfl) ?_
    refine g_get (ref := "MigrantHeapModel") (C := RX8) (T := TX8) (N := 44) (ci := 8) K in_X8_bare_X8 hw 0 rfl (by decide : 0 < 1) rfl rfl 7 (by decide) (List.mem_of_getElem? (i := 5) rfl) rfl rfl dX8_bare_40 ?_
    refine lv_bipush (v := 6) hx hb dX8_bare_43 (by decide) ?_
    refine lv_iload_n hx hb dX8_bare_45 rfl (lv_at hl 1 rfl) ?_
    refine lv_imul hx hb dX8_bare_46 ?_
    refine lv_iload_n hx hb dX8_bare_47 rfl (lv_at hl 3 rfl) ?_
    refine lv_iadd hx hb dX8_bare_48 ?_
    obtain ⟨h62, hm⟩ := chkS hm
    refine g_iald K hw 6 0 rfl (by decide) rfl rfl h62 dX8_bare_49 ?_
    obtain ⟨x63, hx63, hm⟩ := nm_ex hm
    refine W.eq (g2 := F0 m 50 ls (.int x63 :: [])) (by rw [hx63]) ?_
    refine lv_istore (lv' := [(4, .int x63), (0, .ref (ad 0 0)), (1, .int x1), (2, .int x2), (3, .int x.2)]) hx hb dX8_bare_50 hl (by decide) rfl (fun ls hl => ?_)
    refine lv_aload_n hx hb dX8_bare_52 rfl (lv_at hl 1 rfl) ?_
    refine g_get (ref := "MigrantHeapModel") (C := RX8) (T := TX8) (N := 44) (ci := 8) K in_X8_bare_X8 hw 0 rfl (by decide : 0 < 1) rfl rfl 8 (by decide) (List.mem_of_getElem? (i := 6) rfl) rfl rfl dX8_bare_53 ?_
    refine lv_bipush (v := 6) hx hb dX8_bare_56 (by decide) ?_
    refine lv_iload_n hx hb dX8_bare_58 rfl (lv_at hl 2 rfl) ?_
    refine lv_imul hx hb dX8_bare_59 ?_
    refine lv_iload_n hx hb dX8_bare_60 rfl (lv_at hl 4 rfl) ?_
    refine lv_iadd hx hb dX8_bare_61 ?_
    obtain ⟨h64, hm⟩ := chkS hm
    refine g_iald K hw 7 0 rfl (by decide) rfl rfl h64 dX8_bare_62 ?_
    obtain ⟨x65, hx65, hm⟩ := nm_ex hm
    refine W.eq (g2 := F0 m 63 ls (.int x65 :: [])) (by rw [hx65]) ?_
    refine lv_istore (lv' := [(5, .int x65), (4, .int x63), (0, .ref (ad 0 0)), (1, .int x1), (2, .int x2), (3, .int x.2)]) hx hb dX8_bare_63 hl (by decide) rfl (fun ls hl => ?_)
    refine lv_iload_n hx hb dX8_bare_65 rfl (lv_at hl 5 rfl) ?_
    refine lv_aload_n hx hb dX8_bare_66 rfl (lv_at hl 2 rfl) ?_
    refine g_get (ref := "MigrantHeapModel") (C := RX8) (T := TX8) (N := 44) (ci := 8) K in_X8_bare_X8 hw 0 rfl (by decide : 0 < 1) rfl rfl 4 (by decide) (List.mem_of_getElem? (i := 7) rfl) rfl rfl dX8_bare_67 ?_
    refine lv_iload_n hx hb dX8_bare_70 rfl (lv_at hl 3 rfl) ?_
    obtain ⟨h66, hm⟩ := chkS hm
    refine g_iald K hw 3 0 rfl (by decide) rfl rfl h66 dX8_bare_71 ?_
    refine lv_icmp_ge (tgt := 93) hx hb dX8_bare_72 (by decide) (fun c67 => ?_) (fun c67 => ?_)
    · replace hm := (if_pos c67).symm.trans hm
      exact t_X8_bare_J93 K n x.1 x1 x2 x.2 x63 x65 hm hg hE0 H locs hw ls (lv_sub hl [2, 3, 4, 5, 1, 0] rfl)
    · replace hm := (if_neg c67).symm.trans hm
      refine lv_aload_n hx hb dX8_bare_75 rfl (lv_at hl 2 rfl) ?_
      refine g_get (ref := "MigrantHeapModel") (C := RX8) (T := TX8) (N := 44) (ci := 8) K in_X8_bare_X8 hw 0 rfl (by decide : 0 < 1) rfl rfl 6 (by decide) (List.mem_of_getElem? (i := 8) rfl) rfl rfl dX8_bare_76 ?_
      refine lv_bipush (v := 6) hx hb dX8_bare_79 (by decide) ?_
      refine lv_iload_n hx hb dX8_bare_81 rfl (lv_at hl 3 rfl) ?_
      refine lv_imul hx hb dX8_bare_82 ?_
      refine lv_iload_n hx hb dX8_bare_83 rfl (lv_at hl 5 rfl) ?_
      refine lv_iadd hx hb dX8_bare_84 ?_
      obtain ⟨h68, hm⟩ := chkS hm
      refine g_iald K hw 5 0 rfl (by decide) rfl rfl h68 dX8_bare_85 ?_
      refine lv_if_ne (tgt := 93) hx hb dX8_bare_86 (by decide) (fun c69 => ?_) (fun c69 => ?_)
      · replace hm := (if_pos c69).symm.trans hm
        exact t_X8_bare_J93 K n x.1 x1 x2 x.2 x63 x65 hm hg hE0 H locs hw ls (lv_sub hl [2, 3, 4, 5, 1, 0] rfl)
      · replace hm := (if_neg (fun h => h c69)).symm.trans hm
        refine lv_iconst (v := 1) hx hb dX8_bare_89 (by decide) ?_
        refine lv_goto (tgt := 94) hx hb dX8_bare_90 (by decide) ?_
        exact t_X8_bare_J94 K n x.1 x1 x2 x.2 x63 x65 1 hm hg hE0 H locs hw ls (lv_sub hl [2, 3, 4, 5, 1, 0] rfl)
set_option maxRecDepth 100000 in
set_option maxHeartbeats 4000000 in
theorem t_X8_bare_0 (K : Cx p s m args meth c D A (tysC cy) RX8 cX8_bare 7 (some .int) wsX8_bare (fun _ _ => True)) (n : Nat) (S : MSt) (x1 : Int32)  {out : Int32 × MSt} (hm : m_X8_bare n S x1 = some out) : ∀ (H : Heap) (locs : List Loc), Wd D A s.heap (GM cy ad S) H locs → ∀ ls : Array Slot, lv_has ls 7 [(0, .ref (ad 0 0)), (1, .int x1)] → W p l e rm_X8_bare s m args below meth c H locs 0 0 (MQ below (va_Qi (fun r (u : MSt) => out = (r, u)) (fun u => Pst D (tysC cy) A (GM cy ad u)) A) args s 0 0 A) (F0 m 0 ls []) := by
  intro H locs hw ls hl
  obtain ⟨hx, hb, hml, hown, hts, hr, hlo, hK, hA, hX⟩ := id K
  unfold m_X8_bare at hm
  refine lv_aload_n hx hb dX8_bare_0 rfl (lv_at hl 0 rfl) ?_
  obtain ⟨z71, hc70, hm⟩ := bindS hm
  refine g_calli (GG := GM cy ad) K hw (va_runV (As := []) (rest := []) (g_fix K) (c_X8_free l D cy ad H.size n S   hc70) (cwV 0 (g_hts K) gX8_bare_X8_free rfl rfl rfl (by decide +kernel) ⟨Nat.le_of_ble_eq_true rfl, Nat.le_of_ble_eq_true rfl⟩) ⟨g_blind rides_none, g_recv K hw 0 rfl (by decide : 0 < 1) rfl rfl, g_pre (X2 := fun _ _ => True) K hw (fun _ _ _ => trivial)⟩ rfl rfl hl.1 rfl (lv_room (Nat.le_of_ble_eq_true rfl)) dX8_bare_1 ⟨Nat.le_of_ble_eq_true rfl, Nat.le_of_ble_eq_true rfl⟩) (fun r u H locs hp hw => ?_)
  obtain ⟨rfl, hu⟩ := hp
  rw [hu] at hw
  refine lv_istore_n (lv' := [(2, .int z71), (0, .ref (ad 0 0)), (1, .int x1)]) hx hb dX8_bare_4 rfl hl (by decide) rfl (fun ls hl => ?_)
  refine lv_aload_n hx hb dX8_bare_5 rfl (lv_at hl 1 rfl) ?_
  refine g_get (ref := "MigrantHeapModel") (C := RX8) (T := TX8) (N := 44) (ci := 8) K in_X8_bare_X8 hw 0 rfl (by decide : 0 < 1) rfl rfl 14 (by decide) (List.mem_of_getElem? (i := 1) rfl) rfl rfl dX8_bare_6 ?_
  refine lv_iload_n hx hb dX8_bare_9 rfl (lv_at hl 0 rfl) ?_
  refine lv_iload_n hx hb dX8_bare_10 rfl (lv_at hl 2 rfl) ?_
  obtain ⟨h72, hm⟩ := chkS hm
  refine g_iast K hw 13 0 rfl (by decide) rfl rfl h72 dX8_bare_11 (eM_14 cy ad S z71.toNatClampNeg x1) (fun H locs hw => ?_)
  obtain ⟨S73, hS73, hm⟩ := nm_ex hm
  rw [← hS73] at hw
  refine lv_aload_n hx hb dX8_bare_12 rfl (lv_at hl 1 rfl) ?_
  refine g_get (ref := "MigrantHeapModel") (C := RX8) (T := TX8) (N := 44) (ci := 8) K in_X8_bare_X8 hw 0 rfl (by decide : 0 < 1) rfl rfl 15 (by decide) (List.mem_of_getElem? (i := 2) rfl) rfl rfl dX8_bare_13 ?_
  refine lv_iload_n hx hb dX8_bare_16 rfl (lv_at hl 0 rfl) ?_
  refine lv_aload_n hx hb dX8_bare_17 rfl (lv_at hl 1 rfl) ?_
  refine g_get (ref := "MigrantHeapModel") (C := RX8) (T := TX8) (N := 44) (ci := 8) K in_X8_bare_X8 hw 0 rfl (by decide : 0 < 1) rfl rfl 2 (by decide) (List.mem_of_getElem? (i := 3) rfl) rfl rfl dX8_bare_18 ?_
  refine lv_iload_n hx hb dX8_bare_21 rfl (lv_at hl 2 rfl) ?_
  obtain ⟨h74, hm⟩ := chkS hm
  refine g_iald K hw 1 0 rfl (by decide) rfl rfl h74 dX8_bare_22 ?_
  obtain ⟨h75, hm⟩ := chkS hm
  refine g_iast K hw 14 0 rfl (by decide) rfl rfl h75 dX8_bare_23 (eM_15 cy ad S73 z71.toNatClampNeg (S73.1 2 x1.toNatClampNeg)) (fun H locs hw => ?_)
  obtain ⟨S76, hS76, hm⟩ := nm_ex hm
  rw [← hS76] at hw
  refine lv_aload_n hx hb dX8_bare_24 rfl (lv_at hl 1 rfl) ?_
  refine g_get (ref := "MigrantHeapModel") (C := RX8) (T := TX8) (N := 44) (ci := 8) K in_X8_bare_X8 hw 0 rfl (by decide : 0 < 1) rfl rfl 3 (by decide) (List.mem_of_getElem? (i := 4) rfl) rfl rfl dX8_bare_25 ?_
  refine lv_iload_n hx hb dX8_bare_28 rfl (lv_at hl 2 rfl) ?_
  refine lv_iconst (v := 0) hx hb dX8_bare_29 (by decide) ?_
  obtain ⟨h77, hm⟩ := chkS hm
  refine g_zast K hw 2 2 rfl (by decide) rfl rfl h77 rfl dX8_bare_30 (eM_3 cy ad S76 x1.toNatClampNeg 0) (fun H locs hw => ?_)
  obtain ⟨S78, hS78, hm⟩ := nm_ex hm
  rw [← hS78] at hw
  refine lv_iconst (v := 0) hx hb dX8_bare_31 (by decide) ?_
  refine lv_istore_n (lv' := [(3, .int 0), (2, .int z71), (0, .ref (ad 0 0)), (1, .int x1)]) hx hb dX8_bare_32 rfl hl (by decide) rfl (fun ls hl => ?_)
  obtain ⟨z79, hz80, hm⟩ := bindS hm
  refine t_X8_bare_L33 K n x1 z71 z79 (fun w81 hww81 => ?_) ((S78, 0)) hz80 H locs hw ls (lv_sub hl [2, 3, 1, 0] rfl)
  · intro H locs hw ls hl 
    try rw [hww81] at hm
    refine lv_iload_n hx hb dX8_bare_143 rfl (lv_at hl 0 rfl) ?_
    exact g_iret (GG := GM cy ad) K hw (Option.some.inj hm).symm dX8_bare_144
set_option maxRecDepth 100000 in
set_option maxHeartbeats 4000000 in
theorem c_X8_bare (l : Launch) (D : va_G) (cy : Nat → ClassId) (ad : Nat → Nat → Nat) (sz n : Nat) (S : MSt) (x1 : Int32)  {out : Int32 × MSt} (hm : m_X8_bare n S x1 = some out) : Met l yX8_bare wsX8_bare rm_X8_bare (va_Pc [.ref (ad 0 0), .int x1] (Pre D (tysC cy) (GM cy ad S) (fun _ _ => True) sz)) (va_Qi (fun r (u : MSt) => out = (r, u)) (fun u => Pst D (tysC cy) (AA (adrs (GM cy ad S)) sz) (GM cy ad u)) (AA (adrs (GM cy ad S)) sz)) 0 0 (AA (adrs (GM cy ad S)) sz) := by
  refine g_met (by decide) rfl (Nat.le_of_ble_eq_true rfl) ?_
  intro p e s m args below meth c K hw ls hl
  exact t_X8_bare_0 (cy := cy) K n S x1  hm _ _ hw ls hl
end W_X8_bare
