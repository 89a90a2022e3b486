section W_X0_isOf
variable {p : Program} {l : Launch} {e : Env} {s : State} {m : MethodId} {args : Array Value} {below : List Frame} {meth : Method} {c : Code} {D : va_G} {A : Nat → Prop} {cy : Nat → ClassId} {ad : Nat → Nat → Nat} {Q : State → Prop}
abbrev rm_X0_isOf : Room := { frames := 0, cells := 0, slots := 0, locals := 0 }
theorem in_X0_isOf_X0 : ∀ w ∈ u_ws RX0 TX0 6, w ∈ wsX0_isOf := by decide +kernel
set_option maxRecDepth 100000 in
set_option maxHeartbeats 4000000 in
theorem t_X0_isOf_0 (K : Cx p s m args meth c D A (tysC cy) RX0 cX0_isOf 2 (some .boolean) wsX0_isOf (fun _ _ => True)) (n : Nat) (S : CSt) (x0 : Nat) (x1 : Int32) (hb_x0 : x0 < 24) {out : Int32} (hm : m_X0_isOf n S x0 x1 = some out) : ∀ (H : Heap) (locs : List Loc), Wd D A s.heap (GC cy ad S) H locs → ∀ ls : Array Slot, lv_has ls 2 [(0, .ref (ad 11 x0)), (1, .int x1)] → W p l e rm_X0_isOf s m args below meth c H locs 0 0 (MQ below (va_Qi (fun r (u : CSt) => out = r ∧ u = S) (fun u => Pst D (tysC cy) A (GC cy ad u)) A) args s 0 0 A) (F0 m 0 ls []) := by
  intro H locs hw ls hl
  obtain ⟨hx, hb, hml, hown, hts, hr, hlo, hK, hA, hX⟩ := id K
  unfold m_X0_isOf at hm
  refine lv_aload_n hx hb dX0_isOf_0 rfl (lv_at hl 0 rfl) ?_
  refine g_get (ref := "MigrantHeap$Entry") (C := RX0) (T := TX0) (N := 6) (ci := 0) K in_X0_isOf_X0 hw 11 rfl hb_x0 rfl rfl 0 (by decide) (List.mem_of_getElem? (i := 1) rfl) rfl rfl dX0_isOf_1 ?_
  refine lv_if_eq (tgt := 19) hx hb dX0_isOf_4 (by decide) (fun c1 => ?_) (fun c1 => ?_)
  · replace hm := (if_pos c1).symm.trans hm
    refine lv_iconst (v := 0) hx hb dX0_isOf_19 (by decide) ?_
    exact g_zret (GG := GC cy ad) K hw rfl ⟨(Option.some.inj hm).symm, rfl⟩ dX0_isOf_20
  · replace hm := (if_neg c1).symm.trans hm
    refine lv_aload_n hx hb dX0_isOf_7 rfl (lv_at hl 0 rfl) ?_
    refine g_get (ref := "MigrantHeap$Entry") (C := RX0) (T := TX0) (N := 6) (ci := 0) K in_X0_isOf_X0 hw 11 rfl hb_x0 rfl rfl 1 (by decide) (List.mem_of_getElem? (i := 2) rfl) rfl rfl dX0_isOf_8 ?_
    refine lv_iload_n hx hb dX0_isOf_11 rfl (lv_at hl 1 rfl) ?_
    refine lv_icmp_ne (tgt := 19) hx hb dX0_isOf_12 (by decide) (fun c2 => ?_) (fun c2 => ?_)
    · replace hm := (if_pos c2).symm.trans hm
      refine lv_iconst (v := 0) hx hb dX0_isOf_19 (by decide) ?_
      exact g_zret (GG := GC cy ad) K hw rfl ⟨(Option.some.inj hm).symm, rfl⟩ dX0_isOf_20
    · replace hm := (if_neg (fun h => h c2)).symm.trans hm
      refine lv_iconst (v := 1) hx hb dX0_isOf_15 (by decide) ?_
      refine lv_goto (tgt := 20) hx hb dX0_isOf_16 (by decide) ?_
      exact g_zret (GG := GC cy ad) K hw rfl ⟨(Option.some.inj hm).symm, rfl⟩ dX0_isOf_20
set_option maxRecDepth 100000 in
set_option maxHeartbeats 4000000 in
theorem c_X0_isOf (l : Launch) (D : va_G) (cy : Nat → ClassId) (ad : Nat → Nat → Nat) (sz n : Nat) (S : CSt) (x0 : Nat) (x1 : Int32) (hb_x0 : x0 < 24) {out : Int32} (hm : m_X0_isOf n S x0 x1 = some out) : Met l yX0_isOf wsX0_isOf rm_X0_isOf (va_Pc [.ref (ad 11 x0), .int x1] (Pre D (tysC cy) (GC cy ad S) (fun _ _ => True) sz)) (va_Qi (fun r (u : CSt) => out = r ∧ u = S) (fun u => Pst D (tysC cy) (AA (adrs (GC cy ad S)) sz) (GC cy ad u)) (AA (adrs (GC cy ad S)) sz)) 0 0 (AA (adrs (GC cy ad S)) sz) := by
  refine g_met (by decide) rfl (Nat.le_of_ble_eq_true rfl) ?_
  intro p e s m args below meth c K hw ls hl
  exact t_X0_isOf_0 (cy := cy) K n S x0 x1 hb_x0 hm _ _ hw ls hl
end W_X0_isOf
section W_X0_put
variable {p : Program} {l : Launch} {e : Env} {s : State} {m : MethodId} {args : Array Value} {below : List Frame} {meth : Method} {c : Code} {D : va_G} {A : Nat → Prop} {cy : Nat → ClassId} {ad : Nat → Nat → Nat} {Q : State → Prop}
abbrev rm_X0_put : Room := { frames := 0, cells := 0, slots := 0, locals := 0 }
theorem in_X0_put_X0 : ∀ w ∈ u_ws RX0 TX0 6, w ∈ wsX0_put := by decide +kernel
set_option maxRecDepth 100000 in
set_option maxHeartbeats 4000000 in
theorem t_X0_put_0 (K : Cx p s m args meth c D A (tysC cy) RX0 cX0_put 3 none wsX0_put (fun _ _ => True)) (n : Nat) (S : CSt) (x0 : Nat) (x1 : Int32) (x2 : Int32) (hb_x0 : x0 < 24) {out : CSt} (hm : m_X0_put n S x0 x1 x2 = some out) : ∀ (H : Heap) (locs : List Loc), Wd D A s.heap (GC cy ad S) H locs → ∀ ls : Array Slot, lv_has ls 3 [(0, .ref (ad 11 x0)), (1, .int x1), (2, .int x2)] → W p l e rm_X0_put s m args below meth c H locs 0 0 (MQ below (va_Qv (fun (u : CSt) => out = u) (fun u => Pst D (tysC cy) A (GC cy ad u)) A) args s 0 0 A) (F0 m 0 ls []) := by
  intro H locs hw ls hl
  obtain ⟨hx, hb, hml, hown, hts, hr, hlo, hK, hA, hX⟩ := id K
  unfold m_X0_put at hm
  refine lv_iload_n hx hb dX0_put_0 rfl (lv_at hl 1 rfl) ?_
  refine lv_if_lt (tgt := 17) hx hb dX0_put_1 (by decide) (fun c5 => ?_) (fun c5 => ?_)
  · replace hm := (if_pos c5).symm.trans hm
    exact g_vret (GG := GC cy ad) K hw (Option.some.inj hm).symm dX0_put_17
  · replace hm := (if_neg c5).symm.trans hm
    refine lv_iload_n hx hb dX0_put_4 rfl (lv_at hl 1 rfl) ?_
    refine lv_bipush (v := 6) hx hb dX0_put_5 (by decide) ?_
    refine lv_icmp_ge (tgt := 17) hx hb dX0_put_7 (by decide) (fun c6 => ?_) (fun c6 => ?_)
    · replace hm := (if_pos c6).symm.trans hm
      exact g_vret (GG := GC cy ad) K hw (Option.some.inj hm).symm dX0_put_17
    · replace hm := (if_neg c6).symm.trans hm
      refine lv_aload_n hx hb dX0_put_10 rfl (lv_at hl 0 rfl) ?_
      refine g_get (ref := "MigrantHeap$Entry") (C := RX0) (T := TX0) (N := 6) (ci := 0) K in_X0_put_X0 hw 11 rfl hb_x0 rfl rfl 4 (by decide) (List.mem_of_getElem? (i := 1) rfl) rfl rfl dX0_put_11 ?_
      refine lv_iload_n hx hb dX0_put_14 rfl (lv_at hl 1 rfl) ?_
      refine lv_iload_n hx hb dX0_put_15 rfl (lv_at hl 2 rfl) ?_
      obtain ⟨h7, hm⟩ := chkS hm
      refine g_iast K hw 12 0 rfl hb_x0 rfl rfl h7 dX0_put_16 (eC_17 cy ad S x0 x1.toNatClampNeg x2) (fun H locs hw => ?_)
      obtain ⟨S8, hS8, hm⟩ := nm_ex hm
      rw [← hS8] at hw
      exact g_vret (GG := GC cy ad) K hw (Option.some.inj hm).symm dX0_put_17
set_option maxRecDepth 100000 in
set_option maxHeartbeats 4000000 in
theorem c_X0_put (l : Launch) (D : va_G) (cy : Nat → ClassId) (ad : Nat → Nat → Nat) (sz n : Nat) (S : CSt) (x0 : Nat) (x1 : Int32) (x2 : Int32) (hb_x0 : x0 < 24) {out : CSt} (hm : m_X0_put n S x0 x1 x2 = some out) : Met l yX0_put wsX0_put rm_X0_put (va_Pc [.ref (ad 11 x0), .int x1, .int x2] (Pre D (tysC cy) (GC cy ad S) (fun _ _ => True) sz)) (va_Qv (fun (u : CSt) => out = u) (fun u => Pst D (tysC cy) (AA (adrs (GC cy ad S)) sz) (GC cy ad u)) (AA (adrs (GC cy ad S)) sz)) 0 0 (AA (adrs (GC cy ad S)) sz) := by
  refine g_met (by decide) rfl (Nat.le_of_ble_eq_true rfl) ?_
  intro p e s m args below meth c K hw ls hl
  exact t_X0_put_0 (cy := cy) K n S x0 x1 x2 hb_x0 hm _ _ hw ls hl
end W_X0_put
section W_X1_append
variable {p : Program} {l : Launch} {e : Env} {s : State} {m : MethodId} {args : Array Value} {below : List Frame} {meth : Method} {c : Code} {D : va_G} {A : Nat → Prop} {cy : Nat → ClassId} {ad : Nat → Nat → Nat} {Q : State → Prop}
abbrev rm_X1_append : Room := { frames := 0, cells := 0, slots := 0, locals := 0 }
theorem in_X1_append_X1 : ∀ w ∈ u_ws RX1 TX1 2, w ∈ wsX1_append := by decide +kernel
set_option maxRecDepth 100000 in
set_option maxHeartbeats 4000000 in
theorem t_X1_append_0 (K : Cx p s m args meth c D A (tysC cy) RX1 cX1_append 2 none wsX1_append (fun _ _ => True)) (n : Nat) (S : CSt) (x0 : Nat) (x1 : Int32) (hb_x0 : x0 < 7) {out : CSt} (hm : m_X1_append n S x0 x1 = some out) : ∀ (H : Heap) (locs : List Loc), Wd D A s.heap (GC cy ad S) H locs → ∀ ls : Array Slot, lv_has ls 2 [(0, .ref (ad 15 x0)), (1, .int x1)] → W p l e rm_X1_append s m args below meth c H locs 0 0 (MQ below (va_Qv (fun (u : CSt) => out = u) (fun u => Pst D (tysC cy) A (GC cy ad u)) A) args s 0 0 A) (F0 m 0 ls []) := by
  intro H locs hw ls hl
  obtain ⟨hx, hb, hml, hown, hts, hr, hlo, hK, hA, hX⟩ := id K
  unfold m_X1_append at hm
  refine lv_aload_n hx hb dX1_append_0 rfl (lv_at hl 0 rfl) ?_
  refine g_get (ref := "MigrantHeap$Formula") (C := RX1) (T := TX1) (N := 2) (ci := 1) K in_X1_append_X1 hw 15 rfl hb_x0 rfl rfl 0 (by decide) (List.mem_of_getElem? (i := 1) rfl) rfl rfl dX1_append_1 ?_
  refine lv_bipush (v := 12) hx hb dX1_append_4 (by decide) ?_
  refine lv_icmp_ge (tgt := 29) hx hb dX1_append_6 (by decide) (fun c7 => ?_) (fun c7 => ?_)
  · replace hm := (if_pos c7).symm.trans hm
    exact g_vret (GG := GC cy ad) K hw (Option.some.inj hm).symm dX1_append_29
  · replace hm := (if_neg c7).symm.trans hm
    refine lv_aload_n hx hb dX1_append_9 rfl (lv_at hl 0 rfl) ?_
    refine g_get (ref := "MigrantHeap$Formula") (C := RX1) (T := TX1) (N := 2) (ci := 1) K in_X1_append_X1 hw 15 rfl hb_x0 rfl rfl 1 (by decide) (List.mem_of_getElem? (i := 2) rfl) rfl rfl dX1_append_10 ?_
    refine lv_aload_n hx hb dX1_append_13 rfl (lv_at hl 0 rfl) ?_
    refine g_get (ref := "MigrantHeap$Formula") (C := RX1) (T := TX1) (N := 2) (ci := 1) K in_X1_append_X1 hw 15 rfl hb_x0 rfl rfl 0 (by decide) (List.mem_of_getElem? (i := 1) rfl) rfl rfl dX1_append_14 ?_
    refine lv_iload_n hx hb dX1_append_17 rfl (lv_at hl 1 rfl) ?_
    obtain ⟨h8, hm⟩ := chkS hm
    refine g_iast K hw 16 0 rfl hb_x0 rfl rfl h8 dX1_append_18 (eC_21 cy ad S x0 ((S.1 20 x0 0).toNatClampNeg) x1) (fun H locs hw => ?_)
    obtain ⟨S9, hS9, hm⟩ := nm_ex hm
    rw [← hS9] at hw
    refine lv_aload_n hx hb dX1_append_19 rfl (lv_at hl 0 rfl) ?_
    refine lv_dup hx hb dX1_append_20 rfl ?_
    refine g_get (ref := "MigrantHeap$Formula") (C := RX1) (T := TX1) (N := 2) (ci := 1) K in_X1_append_X1 hw 15 rfl hb_x0 rfl rfl 0 (by decide) (List.mem_of_getElem? (i := 1) rfl) rfl rfl dX1_append_21 ?_
    refine lv_iconst (v := 1) hx hb dX1_append_24 (by decide) ?_
    refine lv_iadd hx hb dX1_append_25 ?_
    refine g_put (v := .int ((S9.1 20 x0 0) + 1)) (ty := .int) (ref := "MigrantHeap$Formula") (C := RX1) (T := TX1) (N := 2) (ci := 1) K in_X1_append_X1 tyX1 tyX1_ok nmX1 hw 15 rfl hb_x0 rfl rfl 0 (by decide) (List.mem_of_getElem? (i := 1) rfl) rfl rfl (by decide +kernel) rfl rfl (Nat.le_of_ble_eq_true rfl) dX1_append_26 (eC_20 cy ad S9 x0 ((S9.1 20 x0 0) + 1)) (fun H locs hw => ?_)
    obtain ⟨S10, hS10, hm⟩ := nm_ex hm
    rw [← hS10] at hw
    exact g_vret (GG := GC cy ad) K hw (Option.some.inj hm).symm dX1_append_29
set_option maxRecDepth 100000 in
set_option maxHeartbeats 4000000 in
theorem c_X1_append (l : Launch) (D : va_G) (cy : Nat → ClassId) (ad : Nat → Nat → Nat) (sz n : Nat) (S : CSt) (x0 : Nat) (x1 : Int32) (hb_x0 : x0 < 7) {out : CSt} (hm : m_X1_append n S x0 x1 = some out) : Met l yX1_append wsX1_append rm_X1_append (va_Pc [.ref (ad 15 x0), .int x1] (Pre D (tysC cy) (GC cy ad S) (fun _ _ => True) sz)) (va_Qv (fun (u : CSt) => out = u) (fun u => Pst D (tysC cy) (AA (adrs (GC cy ad S)) sz) (GC cy ad u)) (AA (adrs (GC cy ad S)) sz)) 0 0 (AA (adrs (GC cy ad S)) sz) := by
  refine g_met (by decide) rfl (Nat.le_of_ble_eq_true rfl) ?_
  intro p e s m args below meth c K hw ls hl
  exact t_X1_append_0 (cy := cy) K n S x0 x1 hb_x0 hm _ _ hw ls hl
end W_X1_append
section W_X1_takenBy
variable {p : Program} {l : Launch} {e : Env} {s : State} {m : MethodId} {args : Array Value} {below : List Frame} {meth : Method} {c : Code} {D : va_G} {A : Nat → Prop} {cy : Nat → ClassId} {ad : Nat → Nat → Nat} {Q : State → Prop}
abbrev rm_X1_takenBy : Room := { frames := 0, cells := 0, slots := 0, locals := 0 }
set_option maxRecDepth 100000 in
set_option maxHeartbeats 4000000 in
theorem t_X1_takenBy_0 (K : Cx p s m args meth c D A (tysC cy) RX1 cX1_takenBy 1 (some .int) wsX1_takenBy (fun _ _ => True)) (n : Nat) (S : CSt) (x0 : Int32)  {out : Int32} (hm : m_X1_takenBy n S x0 = some out) : ∀ (H : Heap) (locs : List Loc), Wd D A s.heap (GC cy ad S) H locs → ∀ ls : Array Slot, lv_has ls 1 [(0, .int x0)] → W p l e rm_X1_takenBy s m args below meth c H locs 0 0 (MQ below (va_Qi (fun r (u : CSt) => out = r ∧ u = S) (fun u => Pst D (tysC cy) A (GC cy ad u)) A) args s 0 0 A) (F0 m 0 ls []) := by
  intro H locs hw ls hl
  obtain ⟨hx, hb, hml, hown, hts, hr, hlo, hK, hA, hX⟩ := id K
  unfold m_X1_takenBy at hm
  refine lv_iload_n hx hb dX1_takenBy_0 rfl (lv_at hl 0 rfl) ?_
  refine lv_bipush (v := 16) hx hb dX1_takenBy_1 (by decide) ?_
  refine lv_icmp_ne (tgt := 8) hx hb dX1_takenBy_3 (by decide) (fun c1 => ?_) (fun c1 => ?_)
  · replace hm := (if_pos c1).symm.trans hm
    refine lv_iload_n hx hb dX1_takenBy_8 rfl (lv_at hl 0 rfl) ?_
    refine lv_bipush (v := 10) hx hb dX1_takenBy_9 (by decide) ?_
    refine lv_icmp_lt (tgt := 24) hx hb dX1_takenBy_11 (by decide) (fun c2 => ?_) (fun c2 => ?_)
    · replace hm := (if_pos c2).symm.trans hm
      refine lv_iconst (v := 0) hx hb dX1_takenBy_24 (by decide) ?_
      exact g_iret (GG := GC cy ad) K hw ⟨(Option.some.inj hm).symm, rfl⟩ dX1_takenBy_25
    · replace hm := (if_neg c2).symm.trans hm
      refine lv_iload_n hx hb dX1_takenBy_14 rfl (lv_at hl 0 rfl) ?_
      refine lv_bipush (v := 16) hx hb dX1_takenBy_15 (by decide) ?_
      refine lv_icmp_ge (tgt := 24) hx hb dX1_takenBy_17 (by decide) (fun c3 => ?_) (fun c3 => ?_)
      · replace hm := (if_pos c3).symm.trans hm
        refine lv_iconst (v := 0) hx hb dX1_takenBy_24 (by decide) ?_
        exact g_iret (GG := GC cy ad) K hw ⟨(Option.some.inj hm).symm, rfl⟩ dX1_takenBy_25
      · replace hm := (if_neg c3).symm.trans hm
        refine lv_iconst (v := 2) hx hb dX1_takenBy_20 (by decide) ?_
        refine lv_goto (tgt := 25) hx hb dX1_takenBy_21 (by decide) ?_
        exact g_iret (GG := GC cy ad) K hw ⟨(Option.some.inj hm).symm, rfl⟩ dX1_takenBy_25
  · replace hm := (if_neg (fun h => h c1)).symm.trans hm
    refine lv_iconst (v := 1) hx hb dX1_takenBy_6 (by decide) ?_
    exact g_iret (GG := GC cy ad) K hw ⟨(Option.some.inj hm).symm, rfl⟩ dX1_takenBy_7
set_option maxRecDepth 100000 in
set_option maxHeartbeats 4000000 in
theorem c_X1_takenBy (l : Launch) (D : va_G) (cy : Nat → ClassId) (ad : Nat → Nat → Nat) (sz n : Nat) (S : CSt) (x0 : Int32)  {out : Int32} (hm : m_X1_takenBy n S x0 = some out) : Met l yX1_takenBy wsX1_takenBy rm_X1_takenBy (va_Pc [.int x0] (Pre D (tysC cy) (GC cy ad S) (fun _ _ => True) sz)) (va_Qi (fun r (u : CSt) => out = r ∧ u = S) (fun u => Pst D (tysC cy) (AA (adrs (GC cy ad S)) sz) (GC cy ad u)) (AA (adrs (GC cy ad S)) sz)) 0 0 (AA (adrs (GC cy ad S)) sz) := by
  refine g_met (by decide) rfl (Nat.le_of_ble_eq_true rfl) ?_
  intro p e s m args below meth c K hw ls hl
  exact t_X1_takenBy_0 (cy := cy) K n S x0  hm _ _ hw ls hl
end W_X1_takenBy
section W_X1_isRight
variable {p : Program} {l : Launch} {e : Env} {s : State} {m : MethodId} {args : Array Value} {below : List Frame} {meth : Method} {c : Code} {D : va_G} {A : Nat → Prop} {cy : Nat → ClassId} {ad : Nat → Nat → Nat} {Q : State → Prop}
abbrev rm_X1_isRight : Room := { frames := 1, cells := 0, slots := 0, locals := 20 }
theorem in_X1_isRight_X1 : ∀ w ∈ u_ws RX1 TX1 2, w ∈ wsX1_isRight := by decide +kernel
set_option maxRecDepth 100000 in
set_option maxHeartbeats 4000000 in
theorem t_X1_isRight_L4 (K : Cx p s m args meth c D A (tysC cy) RX1 cX1_isRight 4 (some .boolean) wsX1_isRight (fun _ _ => True)) (n : Nat) (S : CSt) (x0 : Nat) (hb_x0 : x0 < 7) (z : (Unit ⊕ Int32)) (hE0 : ∀ w : Unit, z = .inl w → ∀ (H : Heap) (locs : List Loc), Wd D A s.heap (GC cy ad S) H locs → ∀ ls : Array Slot, lv_has ls 4 [] → W p l e rm_X1_isRight s m args below meth c H locs 0 0 Q (F0 m 27 ls [])) (hE1 : ∀ w : Int32, z = .inr w → ∀ (H : Heap) (locs : List Loc), Wd D A s.heap (GC cy ad S) H locs → ∀ ls : Array Slot, lv_has ls 4 [(1, .int w)] → W p l e rm_X1_isRight s m args below meth c H locs 0 0 Q (F0 m 41 ls [])) : ∀ (x : (Int32 × Int32)), lpO (b_X1_isRight_4 n S x0) n x = some z → (fun (x : (Int32 × Int32)) => ∀ (H : Heap) (locs : List Loc), Wd D A s.heap (GC cy ad S) H locs → ∀ ls : Array Slot, lv_has ls 4 [(0, .ref (ad 15 x0)), (1, .int x.1), (2, .int x.2)] → W p l e rm_X1_isRight s m args below meth c H locs 0 0 Q (F0 m 4 ls [])) x := by
  intro x hx0
  refine lpO_ind2 (P := fun (x : (Int32 × Int32)) => ∀ (H : Heap) (locs : List Loc), Wd D A s.heap (GC cy ad S) H locs → ∀ ls : Array Slot, lv_has ls 4 [(0, .ref (ad 15 x0)), (1, .int x.1), (2, .int x.2)] → W p l e rm_X1_isRight s m args below meth c H locs 0 0 Q (F0 m 4 ls [])) (z := z) ?_ n x hx0
  clear hx0 x
  intro x out hm hg H locs hw ls hl 
  obtain ⟨hx, hb, hml, hown, hts, hr, hlo, hK, hA, hX⟩ := id K
  unfold b_X1_isRight_4 at hm
  refine lv_iload_n hx hb dX1_isRight_4 rfl (lv_at hl 2 rfl) ?_
  refine lv_aload_n hx hb dX1_isRight_5 rfl (lv_at hl 0 rfl) ?_
  refine g_get (ref := "MigrantHeap$Formula") (C := RX1) (T := TX1) (N := 2) (ci := 1) K in_X1_isRight_X1 hw 15 rfl hb_x0 rfl rfl 0 (by decide) (List.mem_of_getElem? (i := 1) rfl) rfl rfl dX1_isRight_6 ?_
  refine lv_icmp_ge (tgt := 41) hx hb dX1_isRight_9 (by decide) (fun c16 => ?_) (fun c16 => ?_)
  · replace hm := (if_pos c16).symm.trans hm
    obtain rfl := Option.some.inj hm
    exact hE1 _ hg.symm H locs hw ls (lv_sub hl [1] rfl)
  · replace hm := (if_neg c16).symm.trans hm
    refine lv_aload_n hx hb dX1_isRight_12 rfl (lv_at hl 0 rfl) ?_
    refine g_get (ref := "MigrantHeap$Formula") (C := RX1) (T := TX1) (N := 2) (ci := 1) K in_X1_isRight_X1 hw 15 rfl hb_x0 rfl rfl 1 (by decide) (List.mem_of_getElem? (i := 2) rfl) rfl rfl dX1_isRight_13 ?_
    refine lv_iload_n hx hb dX1_isRight_16 rfl (lv_at hl 2 rfl) ?_
    obtain ⟨h17, hm⟩ := chkS hm
    refine g_iald K hw 16 0 rfl hb_x0 rfl rfl h17 dX1_isRight_17 ?_
    obtain ⟨z19, hc18, hm⟩ := bindS hm
    refine g_calli (GG := GC cy ad) K hw (va_runS (As := [.int (S.1 21 x0 x.2.toNatClampNeg)]) (rest := []) (g_fix K) (c_X1_takenBy l D cy ad H.size n S (S.1 21 x0 x.2.toNatClampNeg)  hc18) (va_cwS 1 (g_hts K) gX1_isRight_X1_takenBy rfl rfl rfl (by decide +kernel) ⟨Nat.le_of_ble_eq_true rfl, Nat.le_of_ble_eq_true rfl⟩) ⟨g_blind rides_none, g_pre (X2 := fun _ _ => True) K hw (fun _ _ _ => trivial)⟩ rfl rfl hl.1 rfl (lv_room (Nat.le_of_ble_eq_true rfl)) dX1_isRight_18 ⟨Nat.le_of_ble_eq_true rfl, Nat.le_of_ble_eq_true rfl⟩) (fun r u H locs hp hw => ?_)
    obtain ⟨rfl, hu⟩ := hp
    rw [hu] at hw
    refine lv_istore_n (lv' := [(3, .int z19), (0, .ref (ad 15 x0)), (1, .int x.1), (2, .int x.2)]) hx hb dX1_isRight_21 rfl hl (by decide) rfl (fun ls hl => ?_)
    refine lv_iload_n hx hb dX1_isRight_22 rfl (lv_at hl 2 rfl) ?_
    refine lv_iload_n hx hb dX1_isRight_23 rfl (lv_at hl 0 rfl) ?_
    refine lv_icmp_ge (tgt := 29) hx hb dX1_isRight_24 (by decide) (fun c20 => ?_) (fun c20 => ?_)
    · replace hm := (if_pos c20).symm.trans hm
      refine lv_iload_n hx hb dX1_isRight_29 rfl (lv_at hl 2 rfl) ?_
      refine lv_iconst (v := 1) hx hb dX1_isRight_30 (by decide) ?_
      refine lv_iload_n hx hb dX1_isRight_31 rfl (lv_at hl 0 rfl) ?_
      refine lv_isub hx hb dX1_isRight_32 ?_
      refine lv_iadd hx hb dX1_isRight_33 ?_
      obtain ⟨x21, hx21, hm⟩ := nm_ex hm
      refine W.eq (g2 := F0 m 34 ls (.int x21 :: [])) (by rw [hx21]) ?_
      refine lv_istore_n (lv' := [(1, .int x21), (3, .int z19), (0, .ref (ad 15 x0)), (2, .int x.2)]) hx hb dX1_isRight_34 rfl hl (by decide) rfl (fun ls hl => ?_)
      obtain ⟨x22, hx22, hm⟩ := nm_ex hm
      refine lv_iinc (v := x22) (lv' := [(2, .int x22), (1, .int x21), (3, .int z19), (0, .ref (ad 15 x0))]) hx hb dX1_isRight_35 hl (k := 3) rfl (by rw [hx22]; rfl) (by decide) rfl (fun ls hl => ?_)
      refine lv_goto (tgt := 4) hx hb dX1_isRight_38 (by decide) ?_
      obtain rfl := Option.some.inj hm
      exact hg H locs hw ls (lv_sub hl [3, 1, 0] rfl)
    · replace hm := (if_neg c20).symm.trans hm
      obtain rfl := Option.some.inj hm
      exact hE0 _ hg.symm H locs hw ls (lv_sub hl [] rfl)
set_option maxRecDepth 100000 in
set_option maxHeartbeats 4000000 in
theorem t_X1_isRight_0 (K : Cx p s m args meth c D A (tysC cy) RX1 cX1_isRight 4 (some .boolean) wsX1_isRight (fun _ _ => True)) (n : Nat) (S : CSt) (x0 : Nat) (hb_x0 : x0 < 7) {out : Int32} (hm : m_X1_isRight n S x0 = some out) : ∀ (H : Heap) (locs : List Loc), Wd D A s.heap (GC cy ad S) H locs → ∀ ls : Array Slot, lv_has ls 4 [(0, .ref (ad 15 x0))] → W p l e rm_X1_isRight s m args below meth c H locs 0 0 (MQ below (va_Qi (fun r (u : CSt) => out = r ∧ u = S) (fun u => Pst D (tysC cy) A (GC cy ad u)) A) args s 0 0 A) (F0 m 0 ls []) := by
  intro H locs hw ls hl
  obtain ⟨hx, hb, hml, hown, hts, hr, hlo, hK, hA, hX⟩ := id K
  unfold m_X1_isRight at hm
  refine lv_iconst (v := 0) hx hb dX1_isRight_0 (by decide) ?_
  refine lv_istore_n (lv' := [(1, .int 0), (0, .ref (ad 15 x0))]) hx hb dX1_isRight_1 rfl hl (by decide) rfl (fun ls hl => ?_)
  refine lv_iconst (v := 0) hx hb dX1_isRight_2 (by decide) ?_
  refine lv_istore_n (lv' := [(2, .int 0), (1, .int 0), (0, .ref (ad 15 x0))]) hx hb dX1_isRight_3 rfl hl (by decide) rfl (fun ls hl => ?_)
  obtain ⟨z23, hz24, hm⟩ := bindS hm
  refine t_X1_isRight_L4 K n S x0 hb_x0 z23 (fun w25 hww25 => ?_) (fun w26 hww26 => ?_) ((0, 0)) hz24 H locs hw ls (lv_sub hl [2, 1, 0] rfl)
  · intro H locs hw ls hl 
    subst hww25
    replace hm := (sumL _ _ _).symm.trans hm
    refine lv_iconst (v := 0) hx hb dX1_isRight_27 (by decide) ?_
    exact g_zret (GG := GC cy ad) K hw rfl ⟨(Option.some.inj hm).symm, rfl⟩ dX1_isRight_28
  · intro H locs hw ls hl 
    subst hww26
    replace hm := (sumR _ _ _).symm.trans hm
    refine lv_iload_n hx hb dX1_isRight_41 rfl (lv_at hl 0 rfl) ?_
    refine lv_iconst (v := 1) hx hb dX1_isRight_42 (by decide) ?_
    refine lv_icmp_ne (tgt := 50) hx hb dX1_isRight_43 (by decide) (fun c27 => ?_) (fun c27 => ?_)
    · replace hm := (if_pos c27).symm.trans hm
      refine lv_iconst (v := 0) hx hb dX1_isRight_50 (by decide) ?_
      exact g_zret (GG := GC cy ad) K hw rfl ⟨(Option.some.inj hm).symm, rfl⟩ dX1_isRight_51
    · replace hm := (if_neg (fun h => h c27)).symm.trans hm
      refine lv_iconst (v := 1) hx hb dX1_isRight_46 (by decide) ?_
      refine lv_goto (tgt := 51) hx hb dX1_isRight_47 (by decide) ?_
      exact g_zret (GG := GC cy ad) K hw rfl ⟨(Option.some.inj hm).symm, rfl⟩ dX1_isRight_51
set_option maxRecDepth 100000 in
set_option maxHeartbeats 4000000 in
theorem c_X1_isRight (l : Launch) (D : va_G) (cy : Nat → ClassId) (ad : Nat → Nat → Nat) (sz n : Nat) (S : CSt) (x0 : Nat) (hb_x0 : x0 < 7) {out : Int32} (hm : m_X1_isRight n S x0 = some out) : Met l yX1_isRight wsX1_isRight rm_X1_isRight (va_Pc [.ref (ad 15 x0)] (Pre D (tysC cy) (GC cy ad S) (fun _ _ => True) sz)) (va_Qi (fun r (u : CSt) => out = r ∧ u = S) (fun u => Pst D (tysC cy) (AA (adrs (GC cy ad S)) sz) (GC cy ad u)) (AA (adrs (GC cy ad S)) sz)) 0 0 (AA (adrs (GC cy ad S)) sz) := by
  refine g_met (by decide) rfl (Nat.le_of_ble_eq_true rfl) ?_
  intro p e s m args below meth c K hw ls hl
  exact t_X1_isRight_0 (cy := cy) K n S x0 hb_x0 hm _ _ hw ls hl
end W_X1_isRight
section W_X4_placeOf
variable {p : Program} {l : Launch} {e : Env} {s : State} {m : MethodId} {args : Array Value} {below : List Frame} {meth : Method} {c : Code} {D : va_G} {A : Nat → Prop} {cy : Nat → ClassId} {ad : Nat → Nat → Nat} {Q : State → Prop}
abbrev rm_X4_placeOf : Room := { frames := 0, cells := 0, slots := 0, locals := 0 }
theorem in_X4_placeOf_X4 : ∀ w ∈ u_ws RX4 TX4 6, w ∈ wsX4_placeOf := by decide +kernel
set_option maxRecDepth 100000 in
set_option maxHeartbeats 4000000 in
theorem t_X4_placeOf_L2 (K : Cx p s m args meth c D A (tysC cy) RX4 cX4_placeOf 3 (some .int) wsX4_placeOf (fun _ _ => True)) (n : Nat) (S : CSt) (x0 : Nat) (x1 : Int32) (hb_x0 : x0 < 9) (z : (Int32 ⊕ Unit)) (hE0 : ∀ w : Int32, z = .inl w → ∀ (H : Heap) (locs : List Loc), Wd D A s.heap (GC cy ad S) H locs → ∀ ls : Array Slot, lv_has ls 3 [(2, .int w)] → W p l e rm_X4_placeOf s m args below meth c H locs 0 0 Q (F0 m 20 ls [])) (hE1 : ∀ w : Unit, z = .inr w → ∀ (H : Heap) (locs : List Loc), Wd D A s.heap (GC cy ad S) H locs → ∀ ls : Array Slot, lv_has ls 3 [] → W p l e rm_X4_placeOf s m args below meth c H locs 0 0 Q (F0 m 28 ls [])) : ∀ (x : Int32), lpO (b_X4_placeOf_2 n S x0 x1) n x = some z → (fun (x : Int32) => ∀ (H : Heap) (locs : List Loc), Wd D A s.heap (GC cy ad S) H locs → ∀ ls : Array Slot, lv_has ls 3 [(0, .ref (ad 3 x0)), (1, .int x1), (2, .int x)] → W p l e rm_X4_placeOf s m args below meth c H locs 0 0 Q (F0 m 2 ls [])) x := by
  intro x hx0
  refine lpO_ind2 (P := fun (x : Int32) => ∀ (H : Heap) (locs : List Loc), Wd D A s.heap (GC cy ad S) H locs → ∀ ls : Array Slot, lv_has ls 3 [(0, .ref (ad 3 x0)), (1, .int x1), (2, .int x)] → W p l e rm_X4_placeOf s m args below meth c H locs 0 0 Q (F0 m 2 ls [])) (z := z) ?_ n x hx0
  clear hx0 x
  intro x out hm hg H locs hw ls hl 
  obtain ⟨hx, hb, hml, hown, hts, hr, hlo, hK, hA, hX⟩ := id K
  unfold b_X4_placeOf_2 at hm
  refine lv_iload_n hx hb dX4_placeOf_2 rfl (lv_at hl 2 rfl) ?_
  refine lv_aload_n hx hb dX4_placeOf_3 rfl (lv_at hl 0 rfl) ?_
  refine g_get (ref := "MigrantHeap$Shape") (C := RX4) (T := TX4) (N := 6) (ci := 4) K in_X4_placeOf_X4 hw 3 rfl hb_x0 rfl rfl 0 (by decide) (List.mem_of_getElem? (i := 1) rfl) rfl rfl dX4_placeOf_4 ?_
  refine lv_icmp_ge (tgt := 28) hx hb dX4_placeOf_7 (by decide) (fun c7 => ?_) (fun c7 => ?_)
  · replace hm := (if_pos c7).symm.trans hm
    obtain rfl := Option.some.inj hm
    exact hE1 _ hg.symm H locs hw ls (lv_sub hl [] rfl)
  · replace hm := (if_neg c7).symm.trans hm
    refine lv_aload_n hx hb dX4_placeOf_10 rfl (lv_at hl 0 rfl) ?_
    refine g_get (ref := "MigrantHeap$Shape") (C := RX4) (T := TX4) (N := 6) (ci := 4) K in_X4_placeOf_X4 hw 3 rfl hb_x0 rfl rfl 1 (by decide) (List.mem_of_getElem? (i := 2) rfl) rfl rfl dX4_placeOf_11 ?_
    refine lv_iload_n hx hb dX4_placeOf_14 rfl (lv_at hl 2 rfl) ?_
    obtain ⟨h8, hm⟩ := chkS hm
    refine g_iald K hw 4 0 rfl hb_x0 rfl rfl h8 dX4_placeOf_15 ?_
    refine lv_iload_n hx hb dX4_placeOf_16 rfl (lv_at hl 1 rfl) ?_
    refine lv_icmp_ne (tgt := 22) hx hb dX4_placeOf_17 (by decide) (fun c9 => ?_) (fun c9 => ?_)
    · replace hm := (if_pos c9).symm.trans hm
      obtain ⟨x10, hx10, hm⟩ := nm_ex hm
      refine lv_iinc (v := x10) (lv' := [(2, .int x10), (0, .ref (ad 3 x0)), (1, .int x1)]) hx hb dX4_placeOf_22 hl (k := 2) rfl (by rw [hx10]; rfl) (by decide) rfl (fun ls hl => ?_)
      refine lv_goto (tgt := 2) hx hb dX4_placeOf_25 (by decide) ?_
      obtain rfl := Option.some.inj hm
      exact hg H locs hw ls (lv_sub hl [1, 2, 0] rfl)
    · replace hm := (if_neg (fun h => h c9)).symm.trans hm
      obtain rfl := Option.some.inj hm
      exact hE0 _ hg.symm H locs hw ls (lv_sub hl [2] rfl)
set_option maxRecDepth 100000 in
set_option maxHeartbeats 4000000 in
theorem t_X4_placeOf_0 (K : Cx p s m args meth c D A (tysC cy) RX4 cX4_placeOf 3 (some .int) wsX4_placeOf (fun _ _ => True)) (n : Nat) (S : CSt) (x0 : Nat) (x1 : Int32) (hb_x0 : x0 < 9) {out : Int32} (hm : m_X4_placeOf n S x0 x1 = some out) : ∀ (H : Heap) (locs : List Loc), Wd D A s.heap (GC cy ad S) H locs → ∀ ls : Array Slot, lv_has ls 3 [(0, .ref (ad 3 x0)), (1, .int x1)] → W p l e rm_X4_placeOf s m args below meth c H locs 0 0 (MQ below (va_Qi (fun r (u : CSt) => out = r ∧ u = S) (fun u => Pst D (tysC cy) A (GC cy ad u)) A) args s 0 0 A) (F0 m 0 ls []) := by
  intro H locs hw ls hl
  obtain ⟨hx, hb, hml, hown, hts, hr, hlo, hK, hA, hX⟩ := id K
  unfold m_X4_placeOf at hm
  refine lv_iconst (v := 0) hx hb dX4_placeOf_0 (by decide) ?_
  refine lv_istore_n (lv' := [(2, .int 0), (0, .ref (ad 3 x0)), (1, .int x1)]) hx hb dX4_placeOf_1 rfl hl (by decide) rfl (fun ls hl => ?_)
  obtain ⟨z11, hz12, hm⟩ := bindS hm
  refine t_X4_placeOf_L2 K n S x0 x1 hb_x0 z11 (fun w13 hww13 => ?_) (fun w14 hww14 => ?_) (0) hz12 H locs hw ls (lv_sub hl [1, 2, 0] rfl)
  · intro H locs hw ls hl 
    subst hww13
    replace hm := (sumL _ _ _).symm.trans hm
    refine lv_iload_n hx hb dX4_placeOf_20 rfl (lv_at hl 0 rfl) ?_
    exact g_iret (GG := GC cy ad) K hw ⟨(Option.some.inj hm).symm, rfl⟩ dX4_placeOf_21
  · intro H locs hw ls hl 
    subst hww14
    replace hm := (sumR _ _ _).symm.trans hm
    refine lv_iconst (v := (-1)) hx hb dX4_placeOf_28 (by decide) ?_
    exact g_iret (GG := GC cy ad) K hw ⟨(Option.some.inj hm).symm, rfl⟩ dX4_placeOf_29
set_option maxRecDepth 100000 in
set_option maxHeartbeats 4000000 in
theorem c_X4_placeOf (l : Launch) (D : va_G) (cy : Nat → ClassId) (ad : Nat → Nat → Nat) (sz n : Nat) (S : CSt) (x0 : Nat) (x1 : Int32) (hb_x0 : x0 < 9) {out : Int32} (hm : m_X4_placeOf n S x0 x1 = some out) : Met l yX4_placeOf wsX4_placeOf rm_X4_placeOf (va_Pc [.ref (ad 3 x0), .int x1] (Pre D (tysC cy) (GC cy ad S) (fun _ _ => True) sz)) (va_Qi (fun r (u : CSt) => out = r ∧ u = S) (fun u => Pst D (tysC cy) (AA (adrs (GC cy ad S)) sz) (GC cy ad u)) (AA (adrs (GC cy ad S)) sz)) 0 0 (AA (adrs (GC cy ad S)) sz) := by
  refine g_met (by decide) rfl (Nat.le_of_ble_eq_true rfl) ?_
  intro p e s m args below meth c K hw ls hl
  exact t_X4_placeOf_0 (cy := cy) K n S x0 x1 hb_x0 hm _ _ hw ls hl
end W_X4_placeOf
section W_X4_isThere
variable {p : Program} {l : Launch} {e : Env} {s : State} {m : MethodId} {args : Array Value} {below : List Frame} {meth : Method} {c : Code} {D : va_G} {A : Nat → Prop} {cy : Nat → ClassId} {ad : Nat → Nat → Nat} {Q : State → Prop}
abbrev rm_X4_isThere : Room := { frames := 0, cells := 0, slots := 0, locals := 0 }
theorem in_X4_isThere_X4 : ∀ w ∈ u_ws RX4 TX4 6, w ∈ wsX4_isThere := by decide +kernel
set_option maxRecDepth 100000 in
set_option maxHeartbeats 4000000 in
theorem t_X4_isThere_0 (K : Cx p s m args meth c D A (tysC cy) RX4 cX4_isThere 2 (some .boolean) wsX4_isThere (fun _ _ => True)) (n : Nat) (S : CSt) (x0 : Nat) (x1 : Int32) (hb_x0 : x0 < 9) {out : Int32} (hm : m_X4_isThere n S x0 x1 = some out) : ∀ (H : Heap) (locs : List Loc), Wd D A s.heap (GC cy ad S) H locs → ∀ ls : Array Slot, lv_has ls 2 [(0, .ref (ad 3 x0)), (1, .int x1)] → W p l e rm_X4_isThere s m args below meth c H locs 0 0 (MQ below (va_Qi (fun r (u : CSt) => out = r ∧ u = S) (fun u => Pst D (tysC cy) A (GC cy ad u)) A) args s 0 0 A) (F0 m 0 ls []) := by
  intro H locs hw ls hl
  obtain ⟨hx, hb, hml, hown, hts, hr, hlo, hK, hA, hX⟩ := id K
  unfold m_X4_isThere at hm
  refine lv_iload_n hx hb dX4_isThere_0 rfl (lv_at hl 1 rfl) ?_
  refine lv_if_lt (tgt := 16) hx hb dX4_isThere_1 (by decide) (fun c1 => ?_) (fun c1 => ?_)
  · replace hm := (if_pos c1).symm.trans hm
    refine lv_iconst (v := 0) hx hb dX4_isThere_16 (by decide) ?_
    exact g_zret (GG := GC cy ad) K hw rfl ⟨(Option.some.inj hm).symm, rfl⟩ dX4_isThere_17
  · replace hm := (if_neg c1).symm.trans hm
    refine lv_iload_n hx hb dX4_isThere_4 rfl (lv_at hl 1 rfl) ?_
    refine lv_aload_n hx hb dX4_isThere_5 rfl (lv_at hl 0 rfl) ?_
    refine g_get (ref := "MigrantHeap$Shape") (C := RX4) (T := TX4) (N := 6) (ci := 4) K in_X4_isThere_X4 hw 3 rfl hb_x0 rfl rfl 0 (by decide) (List.mem_of_getElem? (i := 1) rfl) rfl rfl dX4_isThere_6 ?_
    refine lv_icmp_ge (tgt := 16) hx hb dX4_isThere_9 (by decide) (fun c2 => ?_) (fun c2 => ?_)
    · replace hm := (if_pos c2).symm.trans hm
      refine lv_iconst (v := 0) hx hb dX4_isThere_16 (by decide) ?_
      exact g_zret (GG := GC cy ad) K hw rfl ⟨(Option.some.inj hm).symm, rfl⟩ dX4_isThere_17
    · replace hm := (if_neg c2).symm.trans hm
      refine lv_iconst (v := 1) hx hb dX4_isThere_12 (by decide) ?_
      refine lv_goto (tgt := 17) hx hb dX4_isThere_13 (by decide) ?_
      exact g_zret (GG := GC cy ad) K hw rfl ⟨(Option.some.inj hm).symm, rfl⟩ dX4_isThere_17
set_option maxRecDepth 100000 in
set_option maxHeartbeats 4000000 in
theorem c_X4_isThere (l : Launch) (D : va_G) (cy : Nat → ClassId) (ad : Nat → Nat → Nat) (sz n : Nat) (S : CSt) (x0 : Nat) (x1 : Int32) (hb_x0 : x0 < 9) {out : Int32} (hm : m_X4_isThere n S x0 x1 = some out) : Met l yX4_isThere wsX4_isThere rm_X4_isThere (va_Pc [.ref (ad 3 x0), .int x1] (Pre D (tysC cy) (GC cy ad S) (fun _ _ => True) sz)) (va_Qi (fun r (u : CSt) => out = r ∧ u = S) (fun u => Pst D (tysC cy) (AA (adrs (GC cy ad S)) sz) (GC cy ad u)) (AA (adrs (GC cy ad S)) sz)) 0 0 (AA (adrs (GC cy ad S)) sz) := by
  refine g_met (by decide) rfl (Nat.le_of_ble_eq_true rfl) ?_
  intro p e s m args below meth c K hw ls hl
  exact t_X4_isThere_0 (cy := cy) K n S x0 x1 hb_x0 hm _ _ hw ls hl
end W_X4_isThere
section W_X4_isNumber
variable {p : Program} {l : Launch} {e : Env} {s : State} {m : MethodId} {args : Array Value} {below : List Frame} {meth : Method} {c : Code} {D : va_G} {A : Nat → Prop} {cy : Nat → ClassId} {ad : Nat → Nat → Nat} {Q : State → Prop}
abbrev rm_X4_isNumber : Room := { frames := 1, cells := 0, slots := 0, locals := 21 }
theorem in_X4_isNumber_X4 : ∀ w ∈ u_ws RX4 TX4 6, w ∈ wsX4_isNumber := by decide +kernel
set_option maxRecDepth 100000 in
set_option maxHeartbeats 4000000 in
theorem t_X4_isNumber_0 (K : Cx p s m args meth c D A (tysC cy) RX4 cX4_isNumber 2 (some .boolean) wsX4_isNumber (fun _ _ => True)) (n : Nat) (S : CSt) (x0 : Nat) (x1 : Int32) (hb_x0 : x0 < 9) {out : Int32} (hm : m_X4_isNumber n S x0 x1 = some out) : ∀ (H : Heap) (locs : List Loc), Wd D A s.heap (GC cy ad S) H locs → ∀ ls : Array Slot, lv_has ls 2 [(0, .ref (ad 3 x0)), (1, .int x1)] → W p l e rm_X4_isNumber s m args below meth c H locs 0 0 (MQ below (va_Qi (fun r (u : CSt) => out = r ∧ u = S) (fun u => Pst D (tysC cy) A (GC cy ad u)) A) args s 0 0 A) (F0 m 0 ls []) := by
  intro H locs hw ls hl
  obtain ⟨hx, hb, hml, hown, hts, hr, hlo, hK, hA, hX⟩ := id K
  unfold m_X4_isNumber at hm
  refine lv_aload_n hx hb dX4_isNumber_0 rfl (lv_at hl 0 rfl) ?_
  refine lv_iload_n hx hb dX4_isNumber_1 rfl (lv_at hl 1 rfl) ?_
  obtain ⟨z8, hc7, hm⟩ := bindS hm
  refine g_calli (GG := GC cy ad) K hw (va_runV (As := [.int x1]) (rest := []) (g_fix K) (c_X4_isThere l D cy ad H.size n S x0 x1 hb_x0 hc7) (cwV 1 (g_hts K) gX4_isNumber_X4_isThere rfl rfl rfl (by decide +kernel) ⟨Nat.le_of_ble_eq_true rfl, Nat.le_of_ble_eq_true rfl⟩) ⟨g_blind rides_none, g_recv K hw 3 rfl hb_x0 rfl rfl, g_pre (X2 := fun _ _ => True) K hw (fun _ _ _ => trivial)⟩ rfl rfl hl.1 rfl (lv_room (Nat.le_of_ble_eq_true rfl)) dX4_isNumber_2 ⟨Nat.le_of_ble_eq_true rfl, Nat.le_of_ble_eq_true rfl⟩) (fun r u H locs hp hw => ?_)
  obtain ⟨rfl, hu⟩ := hp
  rw [hu] at hw
  refine lv_if_eq (tgt := 21) hx hb dX4_isNumber_5 (by decide) (fun c9 => ?_) (fun c9 => ?_)
  · replace hm := (if_pos c9).symm.trans hm
    refine lv_iconst (v := 0) hx hb dX4_isNumber_21 (by decide) ?_
    exact g_zret (GG := GC cy ad) K hw rfl ⟨(Option.some.inj hm).symm, rfl⟩ dX4_isNumber_22
  · replace hm := (if_neg c9).symm.trans hm
    refine lv_aload_n hx hb dX4_isNumber_8 rfl (lv_at hl 0 rfl) ?_
    refine g_get (ref := "MigrantHeap$Shape") (C := RX4) (T := TX4) (N := 6) (ci := 4) K in_X4_isNumber_X4 hw 3 rfl hb_x0 rfl rfl 2 (by decide) (List.mem_of_getElem? (i := 1) rfl) rfl rfl dX4_isNumber_9 ?_
    refine lv_iload_n hx hb dX4_isNumber_12 rfl (lv_at hl 1 rfl) ?_
    obtain ⟨h10, hm⟩ := chkS hm
    refine g_iald K hw 5 0 rfl hb_x0 rfl rfl h10 dX4_isNumber_13 ?_
    refine lv_if_ne (tgt := 21) hx hb dX4_isNumber_14 (by decide) (fun c11 => ?_) (fun c11 => ?_)
    · replace hm := (if_pos c11).symm.trans hm
      refine lv_iconst (v := 0) hx hb dX4_isNumber_21 (by decide) ?_
      exact g_zret (GG := GC cy ad) K hw rfl ⟨(Option.some.inj hm).symm, rfl⟩ dX4_isNumber_22
    · replace hm := (if_neg (fun h => h c11)).symm.trans hm
      refine lv_iconst (v := 1) hx hb dX4_isNumber_17 (by decide) ?_
      refine lv_goto (tgt := 22) hx hb dX4_isNumber_18 (by decide) ?_
      exact g_zret (GG := GC cy ad) K hw rfl ⟨(Option.some.inj hm).symm, rfl⟩ dX4_isNumber_22
set_option maxRecDepth 100000 in
set_option maxHeartbeats 4000000 in
theorem c_X4_isNumber (l : Launch) (D : va_G) (cy : Nat → ClassId) (ad : Nat → Nat → Nat) (sz n : Nat) (S : CSt) (x0 : Nat) (x1 : Int32) (hb_x0 : x0 < 9) {out : Int32} (hm : m_X4_isNumber n S x0 x1 = some out) : Met l yX4_isNumber wsX4_isNumber rm_X4_isNumber (va_Pc [.ref (ad 3 x0), .int x1] (Pre D (tysC cy) (GC cy ad S) (fun _ _ => True) sz)) (va_Qi (fun r (u : CSt) => out = r ∧ u = S) (fun u => Pst D (tysC cy) (AA (adrs (GC cy ad S)) sz) (GC cy ad u)) (AA (adrs (GC cy ad S)) sz)) 0 0 (AA (adrs (GC cy ad S)) sz) := by
  refine g_met (by decide) rfl (Nat.le_of_ble_eq_true rfl) ?_
  intro p e s m args below meth c K hw ls hl
  exact t_X4_isNumber_0 (cy := cy) K n S x0 x1 hb_x0 hm _ _ hw ls hl
end W_X4_isNumber
section W_X3_lay
variable {p : Program} {l : Launch} {e : Env} {s : State} {m : MethodId} {args : Array Value} {below : List Frame} {meth : Method} {c : Code} {D : va_G} {A : Nat → Prop} {cy : Nat → ClassId} {ad : Nat → Nat → Nat} {Q : State → Prop}
abbrev rm_X3_lay : Room := { frames := 0, cells := 0, slots := 0, locals := 0 }
theorem in_X3_lay_X3 : ∀ w ∈ u_ws RX3 TX3 3, w ∈ wsX3_lay := by decide +kernel
set_option maxRecDepth 100000 in
set_option maxHeartbeats 4000000 in
theorem t_X3_lay_0 (K : Cx p s m args meth c D A (tysC cy) RX3 cX3_lay 5 (some .boolean) wsX3_lay (fun _ _ => True)) (n : Nat) (S : CSt) (x1 : Int64) (x3 : Int64)  {out : Int32 × CSt} (hm : m_X3_lay n S x1 x3 = some out) : ∀ (H : Heap) (locs : List Loc), Wd D A s.heap (GC cy ad S) H locs → ∀ ls : Array Slot, lv_has ls 5 [(0, .ref (ad 19 0)), (1, .long x1), (3, .long x3)] → W p l e rm_X3_lay s m args below meth c H locs 0 0 (MQ below (va_Qi (fun r (u : CSt) => out = (r, u)) (fun u => Pst D (tysC cy) A (GC cy ad u)) A) args s 0 0 A) (F0 m 0 ls []) := by
  intro H locs hw ls hl
  obtain ⟨hx, hb, hml, hown, hts, hr, hlo, hK, hA, hX⟩ := id K
  unfold m_X3_lay at hm
  refine lv_aload_n hx hb dX3_lay_0 rfl (lv_at hl 0 rfl) ?_
  refine g_get (ref := "MigrantHeap$Pile") (C := RX3) (T := TX3) (N := 3) (ci := 3) K in_X3_lay_X3 hw 19 rfl (by decide : 0 < 1) rfl rfl 0 (by decide) (List.mem_of_getElem? (i := 1) rfl) rfl rfl dX3_lay_1 ?_
  refine lv_bipush (v := 12) hx hb dX3_lay_4 (by decide) ?_
  refine lv_icmp_ge (tgt := 25) hx hb dX3_lay_6 (by decide) (fun c11 => ?_) (fun c11 => ?_)
  · replace hm := (if_pos c11).symm.trans hm
    refine lv_iconst (v := 0) hx hb dX3_lay_25 (by decide) ?_
    exact g_zret (GG := GC cy ad) K hw rfl (Option.some.inj hm).symm dX3_lay_26
  · replace hm := (if_neg c11).symm.trans hm
    refine lv_lload_n hx hb dX3_lay_9 rfl (lv_at hl 1 rfl) ?_
    refine lv_ldc2 (v := (-1000000000000)) hx hb hown (hts _ (List.mem_of_getElem? (i := 2) rfl)) dX3_lay_10 ?_
    refine W.lcmp hx hb dX3_lay_13 ?_
    refine lv_if_lt (tgt := 25) hx hb dX3_lay_14 (by decide) (fun c12 => ?_) (fun c12 => ?_)
    · replace hm := (if_pos c12).symm.trans hm
      refine lv_iconst (v := 0) hx hb dX3_lay_25 (by decide) ?_
      exact g_zret (GG := GC cy ad) K hw rfl (Option.some.inj hm).symm dX3_lay_26
    · replace hm := (if_neg c12).symm.trans hm
      refine lv_lload_n hx hb dX3_lay_17 rfl (lv_at hl 2 rfl) ?_
      refine lv_ldc2 (v := 1000000000000) hx hb hown (hts _ (List.mem_of_getElem? (i := 3) rfl)) dX3_lay_18 ?_
      refine W.lcmp hx hb dX3_lay_21 ?_
      refine lv_if_le (tgt := 27) hx hb dX3_lay_22 (by decide) (fun c13 => ?_) (fun c13 => ?_)
      · replace hm := (if_pos c13).symm.trans hm
        refine lv_aload_n hx hb dX3_lay_27 rfl (lv_at hl 0 rfl) ?_
        refine g_get (ref := "MigrantHeap$Pile") (C := RX3) (T := TX3) (N := 3) (ci := 3) K in_X3_lay_X3 hw 19 rfl (by decide : 0 < 1) rfl rfl 1 (by decide) (List.mem_of_getElem? (i := 4) rfl) rfl rfl dX3_lay_28 ?_
        refine lv_aload_n hx hb dX3_lay_31 rfl (lv_at hl 0 rfl) ?_
        refine g_get (ref := "MigrantHeap$Pile") (C := RX3) (T := TX3) (N := 3) (ci := 3) K in_X3_lay_X3 hw 19 rfl (by decide : 0 < 1) rfl rfl 0 (by decide) (List.mem_of_getElem? (i := 1) rfl) rfl rfl dX3_lay_32 ?_
        refine lv_lload_n hx hb dX3_lay_35 rfl (lv_at hl 1 rfl) ?_
        obtain ⟨h14, hm⟩ := chkS hm
        refine g_last K hw 20 1 rfl (by decide) rfl rfl h14 dX3_lay_36 (eJ_0 cy ad S ((S.1 27 0 0).toNatClampNeg) x1) (fun H locs hw => ?_)
        obtain ⟨S15, hS15, hm⟩ := nm_ex hm
        rw [← hS15] at hw
        refine lv_aload_n hx hb dX3_lay_37 rfl (lv_at hl 0 rfl) ?_
        refine g_get (ref := "MigrantHeap$Pile") (C := RX3) (T := TX3) (N := 3) (ci := 3) K in_X3_lay_X3 hw 19 rfl (by decide : 0 < 1) rfl rfl 2 (by decide) (List.mem_of_getElem? (i := 5) rfl) rfl rfl dX3_lay_38 ?_
        refine lv_aload_n hx hb dX3_lay_41 rfl (lv_at hl 0 rfl) ?_
        refine g_get (ref := "MigrantHeap$Pile") (C := RX3) (T := TX3) (N := 3) (ci := 3) K in_X3_lay_X3 hw 19 rfl (by decide : 0 < 1) rfl rfl 0 (by decide) (List.mem_of_getElem? (i := 1) rfl) rfl rfl dX3_lay_42 ?_
        refine lv_lload_n hx hb dX3_lay_45 rfl (lv_at hl 2 rfl) ?_
        obtain ⟨h16, hm⟩ := chkS hm
        refine g_last K hw 21 1 rfl (by decide) rfl rfl h16 dX3_lay_46 (eJ_1 cy ad S15 ((S15.1 27 0 0).toNatClampNeg) x3) (fun H locs hw => ?_)
        obtain ⟨S17, hS17, hm⟩ := nm_ex hm
        rw [← hS17] at hw
        refine lv_aload_n hx hb dX3_lay_47 rfl (lv_at hl 0 rfl) ?_
        refine lv_dup hx hb dX3_lay_48 rfl ?_
        refine g_get (ref := "MigrantHeap$Pile") (C := RX3) (T := TX3) (N := 3) (ci := 3) K in_X3_lay_X3 hw 19 rfl (by decide : 0 < 1) rfl rfl 0 (by decide) (List.mem_of_getElem? (i := 1) rfl) rfl rfl dX3_lay_49 ?_
        refine lv_iconst (v := 1) hx hb dX3_lay_52 (by decide) ?_
        refine lv_iadd hx hb dX3_lay_53 ?_
        refine g_put (v := .int ((S17.1 27 0 0) + 1)) (ty := .int) (ref := "MigrantHeap$Pile") (C := RX3) (T := TX3) (N := 3) (ci := 3) K in_X3_lay_X3 tyX3 tyX3_ok nmX3 hw 19 rfl (by decide : 0 < 1) rfl rfl 0 (by decide) (List.mem_of_getElem? (i := 1) rfl) rfl rfl (by decide +kernel) rfl rfl (Nat.le_of_ble_eq_true rfl) dX3_lay_54 (eC_27 cy ad S17 0 ((S17.1 27 0 0) + 1)) (fun H locs hw => ?_)
        obtain ⟨S18, hS18, hm⟩ := nm_ex hm
        rw [← hS18] at hw
        refine lv_iconst (v := 1) hx hb dX3_lay_57 (by decide) ?_
        exact g_zret (GG := GC cy ad) K hw rfl (Option.some.inj hm).symm dX3_lay_58
      · replace hm := (if_neg c13).symm.trans hm
        refine lv_iconst (v := 0) hx hb dX3_lay_25 (by decide) ?_
        exact g_zret (GG := GC cy ad) K hw rfl (Option.some.inj hm).symm dX3_lay_26
set_option maxRecDepth 100000 in
set_option maxHeartbeats 4000000 in
theorem c_X3_lay (l : Launch) (D : va_G) (cy : Nat → ClassId) (ad : Nat → Nat → Nat) (sz n : Nat) (S : CSt) (x1 : Int64) (x3 : Int64)  {out : Int32 × CSt} (hm : m_X3_lay n S x1 x3 = some out) : Met l yX3_lay wsX3_lay rm_X3_lay (va_Pc [.ref (ad 19 0), .long x1, .long x3] (Pre D (tysC cy) (GC cy ad S) (fun _ _ => True) sz)) (va_Qi (fun r (u : CSt) => out = (r, u)) (fun u => Pst D (tysC cy) (AA (adrs (GC cy ad S)) sz) (GC cy ad u)) (AA (adrs (GC cy ad S)) sz)) 0 0 (AA (adrs (GC cy ad S)) sz) := by
  refine g_met (by decide) rfl (Nat.le_of_ble_eq_true rfl) ?_
  intro p e s m args below meth c K hw ls hl
  exact t_X3_lay_0 (cy := cy) K n S x1 x3  hm _ _ hw ls hl
end W_X3_lay
section W_X3_negate
variable {p : Program} {l : Launch} {e : Env} {s : State} {m : MethodId} {args : Array Value} {below : List Frame} {meth : Method} {c : Code} {D : va_G} {A : Nat → Prop} {cy : Nat → ClassId} {ad : Nat → Nat → Nat} {Q : State → Prop}
abbrev rm_X3_negate : Room := { frames := 1, cells := 0, slots := 0, locals := 24 }
theorem in_X3_negate_X3 : ∀ w ∈ u_ws RX3 TX3 3, w ∈ wsX3_negate := by decide +kernel
set_option maxRecDepth 100000 in
set_option maxHeartbeats 4000000 in
theorem t_X3_negate_0 (K : Cx p s m args meth c D A (tysC cy) RX3 cX3_negate 1 (some .boolean) wsX3_negate (fun _ _ => True)) (n : Nat) (S : CSt)   {out : Int32 × CSt} (hm : m_X3_negate n S  = some out) : ∀ (H : Heap) (locs : List Loc), Wd D A s.heap (GC cy ad S) H locs → ∀ ls : Array Slot, lv_has ls 1 [(0, .ref (ad 19 0))] → W p l e rm_X3_negate s m args below meth c H locs 0 0 (MQ below (va_Qi (fun r (u : CSt) => out = (r, u)) (fun u => Pst D (tysC cy) A (GC cy ad u)) A) args s 0 0 A) (F0 m 0 ls []) := by
  intro H locs hw ls hl
  obtain ⟨hx, hb, hml, hown, hts, hr, hlo, hK, hA, hX⟩ := id K
  unfold m_X3_negate at hm
  refine lv_aload_n hx hb dX3_negate_0 rfl (lv_at hl 0 rfl) ?_
  refine g_get (ref := "MigrantHeap$Pile") (C := RX3) (T := TX3) (N := 3) (ci := 3) K in_X3_negate_X3 hw 19 rfl (by decide : 0 < 1) rfl rfl 0 (by decide) (List.mem_of_getElem? (i := 1) rfl) rfl rfl dX3_negate_1 ?_
  refine lv_iconst (v := 1) hx hb dX3_negate_4 (by decide) ?_
  refine lv_icmp_ge (tgt := 10) hx hb dX3_negate_5 (by decide) (fun c11 => ?_) (fun c11 => ?_)
  · replace hm := (if_pos c11).symm.trans hm
    refine lv_aload_n hx hb dX3_negate_10 rfl (lv_at hl 0 rfl) ?_
    refine lv_dup hx hb dX3_negate_11 rfl ?_
    refine g_get (ref := "MigrantHeap$Pile") (C := RX3) (T := TX3) (N := 3) (ci := 3) K in_X3_negate_X3 hw 19 rfl (by decide : 0 < 1) rfl rfl 0 (by decide) (List.mem_of_getElem? (i := 1) rfl) rfl rfl dX3_negate_12 ?_
    refine lv_iconst (v := 1) hx hb dX3_negate_15 (by decide) ?_
    refine lv_isub hx hb dX3_negate_16 ?_
    refine g_put (v := .int ((S.1 27 0 0) - 1)) (ty := .int) (ref := "MigrantHeap$Pile") (C := RX3) (T := TX3) (N := 3) (ci := 3) K in_X3_negate_X3 tyX3 tyX3_ok nmX3 hw 19 rfl (by decide : 0 < 1) rfl rfl 0 (by decide) (List.mem_of_getElem? (i := 1) rfl) rfl rfl (by decide +kernel) rfl rfl (Nat.le_of_ble_eq_true rfl) dX3_negate_17 (eC_27 cy ad S 0 ((S.1 27 0 0) - 1)) (fun H locs hw => ?_)
    obtain ⟨S12, hS12, hm⟩ := nm_ex hm
    rw [← hS12] at hw
    refine lv_aload_n hx hb dX3_negate_20 rfl (lv_at hl 0 rfl) ?_
    refine lv_aload_n hx hb dX3_negate_21 rfl (lv_at hl 0 rfl) ?_
    refine g_get (ref := "MigrantHeap$Pile") (C := RX3) (T := TX3) (N := 3) (ci := 3) K in_X3_negate_X3 hw 19 rfl (by decide : 0 < 1) rfl rfl 2 (by decide) (List.mem_of_getElem? (i := 2) rfl) rfl rfl dX3_negate_22 ?_
    refine lv_aload_n hx hb dX3_negate_25 rfl (lv_at hl 0 rfl) ?_
    refine g_get (ref := "MigrantHeap$Pile") (C := RX3) (T := TX3) (N := 3) (ci := 3) K in_X3_negate_X3 hw 19 rfl (by decide : 0 < 1) rfl rfl 0 (by decide) (List.mem_of_getElem? (i := 1) rfl) rfl rfl dX3_negate_26 ?_
    obtain ⟨h13, hm⟩ := chkS hm
    refine g_lald K hw 21 1 rfl (by decide) rfl rfl h13 dX3_negate_29 ?_
    refine lv_lneg hx hb dX3_negate_30 ?_
    refine lv_aload_n hx hb dX3_negate_31 rfl (lv_at hl 0 rfl) ?_
    refine g_get (ref := "MigrantHeap$Pile") (C := RX3) (T := TX3) (N := 3) (ci := 3) K in_X3_negate_X3 hw 19 rfl (by decide : 0 < 1) rfl rfl 1 (by decide) (List.mem_of_getElem? (i := 3) rfl) rfl rfl dX3_negate_32 ?_
    refine lv_aload_n hx hb dX3_negate_35 rfl (lv_at hl 0 rfl) ?_
    refine g_get (ref := "MigrantHeap$Pile") (C := RX3) (T := TX3) (N := 3) (ci := 3) K in_X3_negate_X3 hw 19 rfl (by decide : 0 < 1) rfl rfl 0 (by decide) (List.mem_of_getElem? (i := 1) rfl) rfl rfl dX3_negate_36 ?_
    obtain ⟨h14, hm⟩ := chkS hm
    refine g_lald K hw 20 1 rfl (by decide) rfl rfl h14 dX3_negate_39 ?_
    refine lv_lneg hx hb dX3_negate_40 ?_
    obtain ⟨z16, hc15, hm⟩ := bindS hm
    refine g_calli (GG := GC cy ad) K hw (va_runV (As := [.long (-(S12.2.1 1 (S12.1 27 0 0).toNatClampNeg)), .long (-(S12.2.1 0 (S12.1 27 0 0).toNatClampNeg))]) (rest := []) (g_fix K) (c_X3_lay l D cy ad H.size n S12 (-(S12.2.1 1 (S12.1 27 0 0).toNatClampNeg)) (-(S12.2.1 0 (S12.1 27 0 0).toNatClampNeg))  hc15) (cwV 2 (g_hts K) gX3_negate_X3_lay rfl rfl rfl (by decide +kernel) ⟨Nat.le_of_ble_eq_true rfl, Nat.le_of_ble_eq_true rfl⟩) ⟨g_blind rides_none, g_recv K hw 19 rfl (by decide : 0 < 1) rfl rfl, g_pre (X2 := fun _ _ => True) K hw (fun _ _ _ => trivial)⟩ rfl rfl hl.1 rfl (lv_room (Nat.le_of_ble_eq_true rfl)) dX3_negate_41 ⟨Nat.le_of_ble_eq_true rfl, Nat.le_of_ble_eq_true rfl⟩) (fun r u H locs hp hw => ?_)
    obtain ⟨rfl, rfl⟩ : r = z16.1 ∧ u = z16.2 := by rw [hp]; exact ⟨rfl, rfl⟩
    obtain ⟨h17, hm⟩ := chkS hm
    exact g_zret (GG := GC cy ad) K hw h17 (Option.some.inj hm).symm dX3_negate_44
  · replace hm := (if_neg c11).symm.trans hm
    refine lv_iconst (v := 0) hx hb dX3_negate_8 (by decide) ?_
    exact g_zret (GG := GC cy ad) K hw rfl (Option.some.inj hm).symm dX3_negate_9
set_option maxRecDepth 100000 in
set_option maxHeartbeats 4000000 in
theorem c_X3_negate (l : Launch) (D : va_G) (cy : Nat → ClassId) (ad : Nat → Nat → Nat) (sz n : Nat) (S : CSt)   {out : Int32 × CSt} (hm : m_X3_negate n S  = some out) : Met l yX3_negate wsX3_negate rm_X3_negate (va_Pc [.ref (ad 19 0)] (Pre D (tysC cy) (GC cy ad S) (fun _ _ => True) sz)) (va_Qi (fun r (u : CSt) => out = (r, u)) (fun u => Pst D (tysC cy) (AA (adrs (GC cy ad S)) sz) (GC cy ad u)) (AA (adrs (GC cy ad S)) sz)) 0 0 (AA (adrs (GC cy ad S)) sz) := by
  refine g_met (by decide) rfl (Nat.le_of_ble_eq_true rfl) ?_
  intro p e s m args below meth c K hw ls hl
  exact t_X3_negate_0 (cy := cy) K n S   hm _ _ hw ls hl
end W_X3_negate
section W_X3_isTooFar
variable {p : Program} {l : Launch} {e : Env} {s : State} {m : MethodId} {args : Array Value} {below : List Frame} {meth : Method} {c : Code} {D : va_G} {A : Nat → Prop} {cy : Nat → ClassId} {ad : Nat → Nat → Nat} {Q : State → Prop}
abbrev rm_X3_isTooFar : Room := { frames := 1, cells := 0, slots := 0, locals := 24 }
set_option maxRecDepth 100000 in
set_option maxHeartbeats 4000000 in
theorem t_X3_isTooFar_0 (K : Cx p s m args meth c D A (tysC cy) RX3 cX3_isTooFar 4 (some .boolean) wsX3_isTooFar (fun _ _ => True)) (n : Nat) (S : CSt) (x0 : Int64) (x2 : Int64)  {out : Int32} (hm : m_X3_isTooFar n S x0 x2 = some out) : ∀ (H : Heap) (locs : List Loc), Wd D A s.heap (GC cy ad S) H locs → ∀ ls : Array Slot, lv_has ls 4 [(0, .long x0), (2, .long x2)] → W p l e rm_X3_isTooFar s m args below meth c H locs 0 0 (MQ below (va_Qi (fun r (u : CSt) => out = r ∧ u = S) (fun u => Pst D (tysC cy) A (GC cy ad u)) A) args s 0 0 A) (F0 m 0 ls []) := by
  intro H locs hw ls hl
  obtain ⟨hx, hb, hml, hown, hts, hr, hlo, hK, hA, hX⟩ := id K
  unfold m_X3_isTooFar at hm
  refine lv_lload_n hx hb dX3_isTooFar_0 rfl (lv_at hl 1 rfl) ?_
  refine lv_lconst (v := 0) hx hb dX3_isTooFar_1 (by decide) ?_
  refine W.lcmp hx hb dX3_isTooFar_2 ?_
  refine lv_if_eq (tgt := 26) hx hb dX3_isTooFar_3 (by decide) (fun c1 => ?_) (fun c1 => ?_)
  · replace hm := (if_pos c1).symm.trans hm
    refine lv_iconst (v := 0) hx hb dX3_isTooFar_26 (by decide) ?_
    exact g_zret (GG := GC cy ad) K hw rfl ⟨(Option.some.inj hm).symm, rfl⟩ dX3_isTooFar_27
  · replace hm := (if_neg c1).symm.trans hm
    refine lv_lload_n hx hb dX3_isTooFar_6 rfl (lv_at hl 0 rfl) ?_
    refine va_mabs_long hx hb (hml.trans hl.1.symm) hown (hts _ (List.mem_of_getElem? (i := 1) rfl)) (hts _ (List.mem_of_getElem? (i := 2) rfl)) (hts _ (List.mem_of_getElem? (i := 3) rfl)) (hts _ (List.mem_of_getElem? (i := 4) rfl)) (Nat.le_of_ble_eq_true rfl) (Nat.le_of_ble_eq_true rfl) (Nat.le_of_ble_eq_true rfl) (Nat.le_of_ble_eq_true rfl) dX3_isTooFar_7 ?_
    refine lv_ldc2 (v := 1000000000000) hx hb hown (hts _ (List.mem_of_getElem? (i := 5) rfl)) dX3_isTooFar_10 ?_
    refine lv_lload_n hx hb dX3_isTooFar_13 rfl (lv_at hl 1 rfl) ?_
    refine va_mabs_long hx hb (hml.trans hl.1.symm) hown (hts _ (List.mem_of_getElem? (i := 1) rfl)) (hts _ (List.mem_of_getElem? (i := 2) rfl)) (hts _ (List.mem_of_getElem? (i := 3) rfl)) (hts _ (List.mem_of_getElem? (i := 4) rfl)) (Nat.le_of_ble_eq_true rfl) (Nat.le_of_ble_eq_true rfl) (Nat.le_of_ble_eq_true rfl) (Nat.le_of_ble_eq_true rfl) dX3_isTooFar_14 ?_
    obtain ⟨h2, hm⟩ := chkS hm
    refine lv_ldiv hx hb dX3_isTooFar_17 (of_decide_eq_true h2) ?_
    refine W.lcmp hx hb dX3_isTooFar_18 ?_
    refine lv_if_le (tgt := 26) hx hb dX3_isTooFar_19 (by decide) (fun c3 => ?_) (fun c3 => ?_)
    · replace hm := (if_pos c3).symm.trans hm
      refine lv_iconst (v := 0) hx hb dX3_isTooFar_26 (by decide) ?_
      exact g_zret (GG := GC cy ad) K hw rfl ⟨(Option.some.inj hm).symm, rfl⟩ dX3_isTooFar_27
    · replace hm := (if_neg c3).symm.trans hm
      refine lv_iconst (v := 1) hx hb dX3_isTooFar_22 (by decide) ?_
      refine lv_goto (tgt := 27) hx hb dX3_isTooFar_23 (by decide) ?_
      exact g_zret (GG := GC cy ad) K hw rfl ⟨(Option.some.inj hm).symm, rfl⟩ dX3_isTooFar_27
set_option maxRecDepth 100000 in
set_option maxHeartbeats 4000000 in
theorem c_X3_isTooFar (l : Launch) (D : va_G) (cy : Nat → ClassId) (ad : Nat → Nat → Nat) (sz n : Nat) (S : CSt) (x0 : Int64) (x2 : Int64)  {out : Int32} (hm : m_X3_isTooFar n S x0 x2 = some out) : Met l yX3_isTooFar wsX3_isTooFar rm_X3_isTooFar (va_Pc [.long x0, .long x2] (Pre D (tysC cy) (GC cy ad S) (fun _ _ => True) sz)) (va_Qi (fun r (u : CSt) => out = r ∧ u = S) (fun u => Pst D (tysC cy) (AA (adrs (GC cy ad S)) sz) (GC cy ad u)) (AA (adrs (GC cy ad S)) sz)) 0 0 (AA (adrs (GC cy ad S)) sz) := by
  refine g_met (by decide) rfl (Nat.le_of_ble_eq_true rfl) ?_
  intro p e s m args below meth c K hw ls hl
  exact t_X3_isTooFar_0 (cy := cy) K n S x0 x2  hm _ _ hw ls hl
end W_X3_isTooFar
section W_X3_apply
variable {p : Program} {l : Launch} {e : Env} {s : State} {m : MethodId} {args : Array Value} {below : List Frame} {meth : Method} {c : Code} {D : va_G} {A : Nat → Prop} {cy : Nat → ClassId} {ad : Nat → Nat → Nat} {Q : State → Prop}
abbrev rm_X3_apply : Room := { frames := 1, cells := 0, slots := 0, locals := 24 }
set_option maxRecDepth 100000 in
set_option maxHeartbeats 4000000 in
theorem t_X3_apply_0 (K : Cx p s m args meth c D A (tysC cy) RX3 cX3_apply 5 (some .long) wsX3_apply (fun _ _ => True)) (n : Nat) (S : CSt) (x0 : Int32) (x1 : Int64) (x3 : Int64)  {out : Int64} (hm : m_X3_apply n S x0 x1 x3 = some out) : ∀ (H : Heap) (locs : List Loc), Wd D A s.heap (GC cy ad S) H locs → ∀ ls : Array Slot, lv_has ls 5 [(0, .int x0), (1, .long x1), (3, .long x3)] → W p l e rm_X3_apply s m args below meth c H locs 0 0 (MQ below (va_Ql (fun r (u : CSt) => out = r ∧ u = S) (fun u => Pst D (tysC cy) A (GC cy ad u)) A) args s 0 0 A) (F0 m 0 ls []) := by
  intro H locs hw ls hl
  obtain ⟨hx, hb, hml, hown, hts, hr, hlo, hK, hA, hX⟩ := id K
  unfold m_X3_apply at hm
  refine lv_iload_n hx hb dX3_apply_0 rfl (lv_at hl 0 rfl) ?_
  by_cases c1 : x0 = 10
  · replace hm := (if_pos c1).symm.trans hm
    refine lv_tableIn (off := 39) (tgt := 40) hx hb dX3_apply_1 (by rw [c1]; decide) (by rw [c1]; decide) (by rw [c1]; rfl) (by decide) ?_
    refine lv_lload_n hx hb dX3_apply_40 rfl (lv_at hl 1 rfl) ?_
    refine lv_lload_n hx hb dX3_apply_41 rfl (lv_at hl 2 rfl) ?_
    refine lv_ladd hx hb dX3_apply_42 ?_
    exact g_lret (GG := GC cy ad) K hw ⟨(Option.some.inj hm).symm, rfl⟩ dX3_apply_43
  · replace hm := (if_neg c1).symm.trans hm
    by_cases c2 : x0 = 11
    · replace hm := (if_pos c2).symm.trans hm
      refine lv_tableIn (off := 43) (tgt := 44) hx hb dX3_apply_1 (by rw [c2]; decide) (by rw [c2]; decide) (by rw [c2]; rfl) (by decide) ?_
      refine lv_lload_n hx hb dX3_apply_44 rfl (lv_at hl 1 rfl) ?_
      refine lv_lload_n hx hb dX3_apply_45 rfl (lv_at hl 2 rfl) ?_
      refine lv_lsub hx hb dX3_apply_46 ?_
      exact g_lret (GG := GC cy ad) K hw ⟨(Option.some.inj hm).symm, rfl⟩ dX3_apply_47
    · replace hm := (if_neg c2).symm.trans hm
      by_cases c3 : x0 = 12
      · replace hm := (if_pos c3).symm.trans hm
        refine lv_tableIn (off := 47) (tgt := 48) hx hb dX3_apply_1 (by rw [c3]; decide) (by rw [c3]; decide) (by rw [c3]; rfl) (by decide) ?_
        refine lv_lload_n hx hb dX3_apply_48 rfl (lv_at hl 1 rfl) ?_
        refine lv_lload_n hx hb dX3_apply_49 rfl (lv_at hl 2 rfl) ?_
        refine lv_lmul hx hb dX3_apply_50 ?_
        exact g_lret (GG := GC cy ad) K hw ⟨(Option.some.inj hm).symm, rfl⟩ dX3_apply_51
      · replace hm := (if_neg c3).symm.trans hm
        by_cases c4 : x0 = 13
        · replace hm := (if_pos c4).symm.trans hm
          refine lv_tableIn (off := 51) (tgt := 52) hx hb dX3_apply_1 (by rw [c4]; decide) (by rw [c4]; decide) (by rw [c4]; rfl) (by decide) ?_
          refine lv_lload_n hx hb dX3_apply_52 rfl (lv_at hl 2 rfl) ?_
          refine lv_lconst (v := 0) hx hb dX3_apply_53 (by decide) ?_
          refine W.lcmp hx hb dX3_apply_54 ?_
          refine lv_if_ne (tgt := 62) hx hb dX3_apply_55 (by decide) (fun c5 => ?_) (fun c5 => ?_)
          · replace hm := (if_pos c5).symm.trans hm
            refine lv_lload_n hx hb dX3_apply_62 rfl (lv_at hl 1 rfl) ?_
            refine lv_lload_n hx hb dX3_apply_63 rfl (lv_at hl 2 rfl) ?_
            obtain ⟨h6, hm⟩ := chkS hm
            refine lv_ldiv hx hb dX3_apply_64 (of_decide_eq_true h6) ?_
            exact g_lret (GG := GC cy ad) K hw ⟨(Option.some.inj hm).symm, rfl⟩ dX3_apply_65
          · replace hm := (if_neg (fun h => h c5)).symm.trans hm
            refine lv_lconst (v := 0) hx hb dX3_apply_58 (by decide) ?_
            refine lv_goto (tgt := 65) hx hb dX3_apply_59 (by decide) ?_
            exact g_lret (GG := GC cy ad) K hw ⟨(Option.some.inj hm).symm, rfl⟩ dX3_apply_65
        · replace hm := (if_neg c4).symm.trans hm
          by_cases c7 : x0 = 14
          · replace hm := (if_pos c7).symm.trans hm
            refine lv_tableIn (off := 65) (tgt := 66) hx hb dX3_apply_1 (by rw [c7]; decide) (by rw [c7]; decide) (by rw [c7]; rfl) (by decide) ?_
            refine lv_lload_n hx hb dX3_apply_66 rfl (lv_at hl 1 rfl) ?_
            refine lv_lload_n hx hb dX3_apply_67 rfl (lv_at hl 2 rfl) ?_
            refine va_mmin_long hx hb (hml.trans hl.1.symm) hown (hts _ (List.mem_of_getElem? (i := 1) rfl)) (hts _ (List.mem_of_getElem? (i := 2) rfl)) (hts _ (List.mem_of_getElem? (i := 3) rfl)) (hts _ (List.mem_of_getElem? (i := 4) rfl)) (Nat.le_of_ble_eq_true rfl) (Nat.le_of_ble_eq_true rfl) (Nat.le_of_ble_eq_true rfl) (Nat.le_of_ble_eq_true rfl) dX3_apply_68 ?_
            exact g_lret (GG := GC cy ad) K hw ⟨(Option.some.inj hm).symm, rfl⟩ dX3_apply_71
          · replace hm := (if_neg c7).symm.trans hm
            by_cases c8 : x0 = 15
            · replace hm := (if_pos c8).symm.trans hm
              refine lv_tableIn (off := 71) (tgt := 72) hx hb dX3_apply_1 (by rw [c8]; decide) (by rw [c8]; decide) (by rw [c8]; rfl) (by decide) ?_
              refine lv_lload_n hx hb dX3_apply_72 rfl (lv_at hl 1 rfl) ?_
              refine lv_lload_n hx hb dX3_apply_73 rfl (lv_at hl 2 rfl) ?_
              refine va_mmax_long hx hb (hml.trans hl.1.symm) hown (hts _ (List.mem_of_getElem? (i := 5) rfl)) (hts _ (List.mem_of_getElem? (i := 6) rfl)) (hts _ (List.mem_of_getElem? (i := 3) rfl)) (hts _ (List.mem_of_getElem? (i := 7) rfl)) (Nat.le_of_ble_eq_true rfl) (Nat.le_of_ble_eq_true rfl) (Nat.le_of_ble_eq_true rfl) (Nat.le_of_ble_eq_true rfl) dX3_apply_74 ?_
              exact g_lret (GG := GC cy ad) K hw ⟨(Option.some.inj hm).symm, rfl⟩ dX3_apply_77
            · replace hm := (if_neg c8).symm.trans hm
              have hsw9 : Int32.toInt x0 < 10 ∨ 15 < Int32.toInt x0 := by
                refine sw_out (fun k h1 h2 => ?_)
                rcases (show k = 10 ∨ k = 11 ∨ k = 12 ∨ k = 13 ∨ k = 14 ∨ k = 15 by omega) with rfl | rfl | rfl | rfl | rfl | rfl
                · exact c1
                · exact c2
                · exact c3
                · exact c4
                · exact c7
                · exact c8
              refine lv_tableOut (tgt := 78) hx hb dX3_apply_1 hsw9 (by decide) ?_
              refine lv_lconst (v := 0) hx hb dX3_apply_78 (by decide) ?_
              exact g_lret (GG := GC cy ad) K hw ⟨(Option.some.inj hm).symm, rfl⟩ dX3_apply_79
set_option maxRecDepth 100000 in
set_option maxHeartbeats 4000000 in
theorem c_X3_apply (l : Launch) (D : va_G) (cy : Nat → ClassId) (ad : Nat → Nat → Nat) (sz n : Nat) (S : CSt) (x0 : Int32) (x1 : Int64) (x3 : Int64)  {out : Int64} (hm : m_X3_apply n S x0 x1 x3 = some out) : Met l yX3_apply wsX3_apply rm_X3_apply (va_Pc [.int x0, .long x1, .long x3] (Pre D (tysC cy) (GC cy ad S) (fun _ _ => True) sz)) (va_Ql (fun r (u : CSt) => out = r ∧ u = S) (fun u => Pst D (tysC cy) (AA (adrs (GC cy ad S)) sz) (GC cy ad u)) (AA (adrs (GC cy ad S)) sz)) 0 0 (AA (adrs (GC cy ad S)) sz) := by
  refine g_met (by decide) rfl (Nat.le_of_ble_eq_true rfl) ?_
  intro p e s m args below meth c K hw ls hl
  exact t_X3_apply_0 (cy := cy) K n S x0 x1 x3  hm _ _ hw ls hl
end W_X3_apply
section W_X3_combine
variable {p : Program} {l : Launch} {e : Env} {s : State} {m : MethodId} {args : Array Value} {below : List Frame} {meth : Method} {c : Code} {D : va_G} {A : Nat → Prop} {cy : Nat → ClassId} {ad : Nat → Nat → Nat} {Q : State → Prop}
abbrev rm_X3_combine : Room := { frames := 2, cells := 0, slots := 0, locals := 48 }
theorem in_X3_combine_X3 : ∀ w ∈ u_ws RX3 TX3 3, w ∈ wsX3_combine := by decide +kernel
set_option maxRecDepth 100000 in
set_option maxHeartbeats 4000000 in
theorem t_X3_combine_J170 (K : Cx p s m args meth c D A (tysC cy) RX3 cX3_combine 15 (some .boolean) wsX3_combine (fun _ _ => True)) (n : Nat) (S : CSt) (x1 : Int32) (x2 : Int32) (x3 : Int32) (x6 : Int64) (x8 : Int32) (x13 : Int64) (y0 : Int64) {out : (Int64 × Int64 × Int32) ⊕ (Unit ⊕ (Int64 × Int64))} {z : (Unit ⊕ (Int64 × Int64))} (hm : m_X3_combine_J170 n S x1 x2 x3 x6 x8 x13 y0 = some out) (hg : Gd (fun (x : (Int64 × Int64 × Int32)) => ∀ (H : Heap) (locs : List Loc), Wd D A s.heap (GC cy ad S) H locs → ∀ ls : Array Slot, lv_has ls 15 [(0, .ref (ad 19 0)), (1, .int x1), (2, .int x2), (3, .int x3), (4, .long x.1), (6, .long x.2.1), (8, .int x.2.2)] → W p l e rm_X3_combine s m args below meth c H locs 0 0 Q (F0 m 71 ls [])) z out) (hE0 : ∀ w : Unit, z = .inl w → ∀ (H : Heap) (locs : List Loc), Wd D A s.heap (GC cy ad S) H locs → ∀ ls : Array Slot, lv_has ls 15 [] → W p l e rm_X3_combine s m args below meth c H locs 0 0 Q (F0 m 141 ls [])) (hE1 : ∀ w : (Int64 × Int64), z = .inr w → ∀ (H : Heap) (locs : List Loc), Wd D A s.heap (GC cy ad S) H locs → ∀ ls : Array Slot, lv_has ls 15 [(0, .ref (ad 19 0)), (4, .long w.1), (6, .long w.2)] → W p l e rm_X3_combine s m args below meth c H locs 0 0 Q (F0 m 197 ls [])) : ∀ (H : Heap) (locs : List Loc), Wd D A s.heap (GC cy ad S) H locs → ∀ ls : Array Slot, lv_has ls 15 [(0, .ref (ad 19 0)), (1, .int x1), (2, .int x2), (3, .int x3), (6, .long x6), (8, .int x8), (13, .long x13)] → W p l e rm_X3_combine s m args below meth c H locs 0 0 Q (F0 m 170 ls [.long y0]) := by
  intro H locs hw ls hl 
  obtain ⟨hx, hb, hml, hown, hts, hr, hlo, hK, hA, hX⟩ := id K
  unfold m_X3_combine_J170 at hm
  refine lv_lstore (lv' := [(4, .long y0), (0, .ref (ad 19 0)), (1, .int x1), (2, .int x2), (3, .int x3), (6, .long x6), (8, .int x8), (13, .long x13)]) hx hb dX3_combine_170 hl (by decide) rfl (fun ls hl => ?_)
  refine lv_iload hx hb dX3_combine_172 (lv_at hl 6 rfl) ?_
  refine lv_if_ne (tgt := 182) hx hb dX3_combine_174 (by decide) (fun c54 => ?_) (fun c54 => ?_)
  · replace hm := (if_pos c54).symm.trans hm
    refine lv_lload hx hb dX3_combine_182 (lv_at hl 5 rfl) ?_
    refine lv_lload hx hb dX3_combine_184 (lv_at hl 7 rfl) ?_
    refine va_mmax_long hx hb (hml.trans hl.1.symm) hown (hts _ (List.mem_of_getElem? (i := 8) rfl)) (hts _ (List.mem_of_getElem? (i := 9) rfl)) (hts _ (List.mem_of_getElem? (i := 6) rfl)) (hts _ (List.mem_of_getElem? (i := 10) rfl)) (Nat.le_of_ble_eq_true rfl) (Nat.le_of_ble_eq_true rfl) (Nat.le_of_ble_eq_true rfl) (Nat.le_of_ble_eq_true rfl) dX3_combine_186 ?_
    obtain ⟨x55, hx55, hm⟩ := nm_ex hm
    refine W.eq (g2 := F0 m 189 ls (.long x55 :: [])) (by rw [hx55]) ?_
    refine lv_lstore (lv' := [(6, .long x55), (4, .long y0), (0, .ref (ad 19 0)), (1, .int x1), (2, .int x2), (3, .int x3), (8, .int x8), (13, .long x13)]) hx hb dX3_combine_189 hl (by decide) rfl (fun ls hl => ?_)
    obtain ⟨x56, hx56, hm⟩ := nm_ex hm
    refine lv_iinc (v := x56) (lv' := [(8, .int x56), (6, .long x55), (4, .long y0), (0, .ref (ad 19 0)), (1, .int x1), (2, .int x2), (3, .int x3), (13, .long x13)]) hx hb dX3_combine_191 hl (k := 6) rfl (by rw [hx56]; rfl) (by decide) rfl (fun ls hl => ?_)
    refine lv_goto (tgt := 71) hx hb dX3_combine_194 (by decide) ?_
    obtain rfl := Option.some.inj hm
    exact hg H locs hw ls (lv_sub hl [3, 4, 5, 6, 2, 1, 0] rfl)
  · replace hm := (if_neg (fun h => h c54)).symm.trans hm
    refine lv_lload hx hb dX3_combine_177 (lv_at hl 7 rfl) ?_
    refine lv_goto (tgt := 189) hx hb dX3_combine_179 (by decide) ?_
    refine lv_lstore (lv' := [(6, .long x13), (4, .long y0), (0, .ref (ad 19 0)), (1, .int x1), (2, .int x2), (3, .int x3), (8, .int x8), (13, .long x13)]) hx hb dX3_combine_189 hl (by decide) rfl (fun ls hl => ?_)
    obtain ⟨x57, hx57, hm⟩ := nm_ex hm
    refine lv_iinc (v := x57) (lv' := [(8, .int x57), (6, .long x13), (4, .long y0), (0, .ref (ad 19 0)), (1, .int x1), (2, .int x2), (3, .int x3), (13, .long x13)]) hx hb dX3_combine_191 hl (k := 6) rfl (by rw [hx57]; rfl) (by decide) rfl (fun ls hl => ?_)
    refine lv_goto (tgt := 71) hx hb dX3_combine_194 (by decide) ?_
    obtain rfl := Option.some.inj hm
    exact hg H locs hw ls (lv_sub hl [3, 4, 5, 6, 2, 1, 0] rfl)
set_option maxRecDepth 100000 in
set_option maxHeartbeats 4000000 in
theorem t_X3_combine_J143 (K : Cx p s m args meth c D A (tysC cy) RX3 cX3_combine 15 (some .boolean) wsX3_combine (fun _ _ => True)) (n : Nat) (S : CSt) (x1 : Int32) (x2 : Int32) (x3 : Int32) (x4 : Int64) (x6 : Int64) (x8 : Int32) (x9 : Int64) (x11 : Int64) {out : (Int64 × Int64 × Int32) ⊕ (Unit ⊕ (Int64 × Int64))} {z : (Unit ⊕ (Int64 × Int64))} (hm : m_X3_combine_J143 n S x1 x2 x3 x4 x6 x8 x9 x11 = some out) (hg : Gd (fun (x : (Int64 × Int64 × Int32)) => ∀ (H : Heap) (locs : List Loc), Wd D A s.heap (GC cy ad S) H locs → ∀ ls : Array Slot, lv_has ls 15 [(0, .ref (ad 19 0)), (1, .int x1), (2, .int x2), (3, .int x3), (4, .long x.1), (6, .long x.2.1), (8, .int x.2.2)] → W p l e rm_X3_combine s m args below meth c H locs 0 0 Q (F0 m 71 ls [])) z out) (hE0 : ∀ w : Unit, z = .inl w → ∀ (H : Heap) (locs : List Loc), Wd D A s.heap (GC cy ad S) H locs → ∀ ls : Array Slot, lv_has ls 15 [] → W p l e rm_X3_combine s m args below meth c H locs 0 0 Q (F0 m 141 ls [])) (hE1 : ∀ w : (Int64 × Int64), z = .inr w → ∀ (H : Heap) (locs : List Loc), Wd D A s.heap (GC cy ad S) H locs → ∀ ls : Array Slot, lv_has ls 15 [(0, .ref (ad 19 0)), (4, .long w.1), (6, .long w.2)] → W p l e rm_X3_combine s m args below meth c H locs 0 0 Q (F0 m 197 ls [])) : ∀ (H : Heap) (locs : List Loc), Wd D A s.heap (GC cy ad S) H locs → ∀ ls : Array Slot, lv_has ls 15 [(0, .ref (ad 19 0)), (1, .int x1), (2, .int x2), (3, .int x3), (4, .long x4), (6, .long x6), (8, .int x8), (9, .long x9), (11, .long x11)] → W p l e rm_X3_combine s m args below meth c H locs 0 0 Q (F0 m 143 ls []) := by
  intro H locs hw ls hl 
  obtain ⟨hx, hb, hml, hown, hts, hr, hlo, hK, hA, hX⟩ := id K
  unfold m_X3_combine_J143 at hm
  refine lv_iload_n hx hb dX3_combine_143 rfl (lv_at hl 1 rfl) ?_
  refine lv_lload hx hb dX3_combine_144 (lv_at hl 7 rfl) ?_
  refine lv_lload hx hb dX3_combine_146 (lv_at hl 8 rfl) ?_
  obtain ⟨z59, hc58, hm⟩ := bindS hm
  refine g_calll (GG := GC cy ad) K hw (va_runS (As := [.int x1, .long x9, .long x11]) (rest := []) (g_fix K) (c_X3_apply l D cy ad H.size n S x1 x9 x11  hc58) (va_cwS 3 (g_hts K) gX3_combine_X3_apply rfl rfl rfl (by decide +kernel) ⟨Nat.le_of_ble_eq_true rfl, Nat.le_of_ble_eq_true rfl⟩) ⟨g_blind rides_none, g_pre (X2 := fun _ _ => True) K hw (fun _ _ _ => trivial)⟩ rfl rfl hl.1 rfl (lv_room (Nat.le_of_ble_eq_true rfl)) dX3_combine_148 ⟨Nat.le_of_ble_eq_true rfl, Nat.le_of_ble_eq_true rfl⟩) (fun r u H locs hp hw => ?_)
  obtain ⟨rfl, hu⟩ := hp
  rw [hu] at hw
  refine lv_lstore (lv' := [(13, .long z59), (0, .ref (ad 19 0)), (1, .int x1), (2, .int x2), (3, .int x3), (4, .long x4), (6, .long x6), (8, .int x8), (9, .long x9), (11, .long x11)]) hx hb dX3_combine_151 hl (by decide) rfl (fun ls hl => ?_)
  refine lv_iload hx hb dX3_combine_153 (lv_at hl 7 rfl) ?_
  refine lv_if_ne (tgt := 163) hx hb dX3_combine_155 (by decide) (fun c60 => ?_) (fun c60 => ?_)
  · replace hm := (if_pos c60).symm.trans hm
    refine lv_lload hx hb dX3_combine_163 (lv_at hl 5 rfl) ?_
    refine lv_lload hx hb dX3_combine_165 (lv_at hl 0 rfl) ?_
    refine va_mmin_long hx hb (hml.trans hl.1.symm) hown (hts _ (List.mem_of_getElem? (i := 4) rfl)) (hts _ (List.mem_of_getElem? (i := 5) rfl)) (hts _ (List.mem_of_getElem? (i := 6) rfl)) (hts _ (List.mem_of_getElem? (i := 7) rfl)) (Nat.le_of_ble_eq_true rfl) (Nat.le_of_ble_eq_true rfl) (Nat.le_of_ble_eq_true rfl) (Nat.le_of_ble_eq_true rfl) dX3_combine_167 ?_
    exact t_X3_combine_J170 K n S x1 x2 x3 x6 x8 z59 (if z59 < x4 then z59 else x4) hm hg hE0 hE1 H locs hw ls (lv_sub hl [1, 2, 3, 4, 6, 7, 0] rfl)
  · replace hm := (if_neg (fun h => h c60)).symm.trans hm
    refine lv_lload hx hb dX3_combine_158 (lv_at hl 0 rfl) ?_
    refine lv_goto (tgt := 170) hx hb dX3_combine_160 (by decide) ?_
    exact t_X3_combine_J170 K n S x1 x2 x3 x6 x8 z59 z59 hm hg hE0 hE1 H locs hw ls (lv_sub hl [1, 2, 3, 4, 6, 7, 0] rfl)
set_option maxRecDepth 100000 in
set_option maxHeartbeats 4000000 in
theorem t_X3_combine_J123 (K : Cx p s m args meth c D A (tysC cy) RX3 cX3_combine 15 (some .boolean) wsX3_combine (fun _ _ => True)) (n : Nat) (S : CSt) (x1 : Int32) (x2 : Int32) (x3 : Int32) (x4 : Int64) (x6 : Int64) (x8 : Int32) (x9 : Int64) (y0 : Int64) {out : (Int64 × Int64 × Int32) ⊕ (Unit ⊕ (Int64 × Int64))} {z : (Unit ⊕ (Int64 × Int64))} (hm : m_X3_combine_J123 n S x1 x2 x3 x4 x6 x8 x9 y0 = some out) (hg : Gd (fun (x : (Int64 × Int64 × Int32)) => ∀ (H : Heap) (locs : List Loc), Wd D A s.heap (GC cy ad S) H locs → ∀ ls : Array Slot, lv_has ls 15 [(0, .ref (ad 19 0)), (1, .int x1), (2, .int x2), (3, .int x3), (4, .long x.1), (6, .long x.2.1), (8, .int x.2.2)] → W p l e rm_X3_combine s m args below meth c H locs 0 0 Q (F0 m 71 ls [])) z out) (hE0 : ∀ w : Unit, z = .inl w → ∀ (H : Heap) (locs : List Loc), Wd D A s.heap (GC cy ad S) H locs → ∀ ls : Array Slot, lv_has ls 15 [] → W p l e rm_X3_combine s m args below meth c H locs 0 0 Q (F0 m 141 ls [])) (hE1 : ∀ w : (Int64 × Int64), z = .inr w → ∀ (H : Heap) (locs : List Loc), Wd D A s.heap (GC cy ad S) H locs → ∀ ls : Array Slot, lv_has ls 15 [(0, .ref (ad 19 0)), (4, .long w.1), (6, .long w.2)] → W p l e rm_X3_combine s m args below meth c H locs 0 0 Q (F0 m 197 ls [])) : ∀ (H : Heap) (locs : List Loc), Wd D A s.heap (GC cy ad S) H locs → ∀ ls : Array Slot, lv_has ls 15 [(0, .ref (ad 19 0)), (1, .int x1), (2, .int x2), (3, .int x3), (4, .long x4), (6, .long x6), (8, .int x8), (9, .long x9)] → W p l e rm_X3_combine s m args below meth c H locs 0 0 Q (F0 m 123 ls [.long y0]) := by
  intro H locs hw ls hl 
  obtain ⟨hx, hb, hml, hown, hts, hr, hlo, hK, hA, hX⟩ := id K
  unfold m_X3_combine_J123 at hm
  refine lv_lstore (lv' := [(11, .long y0), (0, .ref (ad 19 0)), (1, .int x1), (2, .int x2), (3, .int x3), (4, .long x4), (6, .long x6), (8, .int x8), (9, .long x9)]) hx hb dX3_combine_123 hl (by decide) rfl (fun ls hl => ?_)
  refine lv_iload_n hx hb dX3_combine_125 rfl (lv_at hl 2 rfl) ?_
  refine lv_bipush (v := 12) hx hb dX3_combine_126 (by decide) ?_
  refine lv_icmp_ne (tgt := 143) hx hb dX3_combine_128 (by decide) (fun c61 => ?_) (fun c61 => ?_)
  · replace hm := (if_pos c61).symm.trans hm
    exact t_X3_combine_J143 K n S x1 x2 x3 x4 x6 x8 x9 y0 hm hg hE0 hE1 H locs hw ls (lv_sub hl [1, 2, 3, 4, 5, 6, 7, 8, 0] rfl)
  · replace hm := (if_neg (fun h => h c61)).symm.trans hm
    refine lv_lload hx hb dX3_combine_131 (lv_at hl 8 rfl) ?_
    refine lv_lload hx hb dX3_combine_133 (lv_at hl 0 rfl) ?_
    obtain ⟨z63, hc62, hm⟩ := bindS hm
    refine g_calli (GG := GC cy ad) K hw (va_runS (As := [.long x9, .long y0]) (rest := []) (g_fix K) (c_X3_isTooFar l D cy ad H.size n S x9 y0  hc62) (va_cwS 2 (g_hts K) gX3_combine_X3_isTooFar rfl rfl rfl (by decide +kernel) ⟨Nat.le_of_ble_eq_true rfl, Nat.le_of_ble_eq_true rfl⟩) ⟨g_blind rides_none, g_pre (X2 := fun _ _ => True) K hw (fun _ _ _ => trivial)⟩ rfl rfl hl.1 rfl (lv_room (Nat.le_of_ble_eq_true rfl)) dX3_combine_135 ⟨Nat.le_of_ble_eq_true rfl, Nat.le_of_ble_eq_true rfl⟩) (fun r u H locs hp hw => ?_)
    obtain ⟨rfl, hu⟩ := hp
    rw [hu] at hw
    refine lv_if_eq (tgt := 143) hx hb dX3_combine_138 (by decide) (fun c64 => ?_) (fun c64 => ?_)
    · replace hm := (if_pos c64).symm.trans hm
      exact t_X3_combine_J143 K n S x1 x2 x3 x4 x6 x8 x9 y0 hm hg hE0 hE1 H locs hw ls (lv_sub hl [1, 2, 3, 4, 5, 6, 7, 8, 0] rfl)
    · replace hm := (if_neg c64).symm.trans hm
      obtain rfl := Option.some.inj hm
      exact hE0 _ hg.symm H locs hw ls (lv_sub hl [] rfl)
set_option maxRecDepth 100000 in
set_option maxHeartbeats 4000000 in
theorem t_X3_combine_J99 (K : Cx p s m args meth c D A (tysC cy) RX3 cX3_combine 15 (some .boolean) wsX3_combine (fun _ _ => True)) (n : Nat) (S : CSt) (x1 : Int32) (x2 : Int32) (x3 : Int32) (x4 : Int64) (x6 : Int64) (x8 : Int32) (y0 : Int64) {out : (Int64 × Int64 × Int32) ⊕ (Unit ⊕ (Int64 × Int64))} {z : (Unit ⊕ (Int64 × Int64))} (hm : m_X3_combine_J99 n S x1 x2 x3 x4 x6 x8 y0 = some out) (hg : Gd (fun (x : (Int64 × Int64 × Int32)) => ∀ (H : Heap) (locs : List Loc), Wd D A s.heap (GC cy ad S) H locs → ∀ ls : Array Slot, lv_has ls 15 [(0, .ref (ad 19 0)), (1, .int x1), (2, .int x2), (3, .int x3), (4, .long x.1), (6, .long x.2.1), (8, .int x.2.2)] → W p l e rm_X3_combine s m args below meth c H locs 0 0 Q (F0 m 71 ls [])) z out) (hE0 : ∀ w : Unit, z = .inl w → ∀ (H : Heap) (locs : List Loc), Wd D A s.heap (GC cy ad S) H locs → ∀ ls : Array Slot, lv_has ls 15 [] → W p l e rm_X3_combine s m args below meth c H locs 0 0 Q (F0 m 141 ls [])) (hE1 : ∀ w : (Int64 × Int64), z = .inr w → ∀ (H : Heap) (locs : List Loc), Wd D A s.heap (GC cy ad S) H locs → ∀ ls : Array Slot, lv_has ls 15 [(0, .ref (ad 19 0)), (4, .long w.1), (6, .long w.2)] → W p l e rm_X3_combine s m args below meth c H locs 0 0 Q (F0 m 197 ls [])) : ∀ (H : Heap) (locs : List Loc), Wd D A s.heap (GC cy ad S) H locs → ∀ ls : Array Slot, lv_has ls 15 [(0, .ref (ad 19 0)), (1, .int x1), (2, .int x2), (3, .int x3), (4, .long x4), (6, .long x6), (8, .int x8)] → W p l e rm_X3_combine s m args below meth c H locs 0 0 Q (F0 m 99 ls [.long y0]) := by
  intro H locs hw ls hl 
  obtain ⟨hx, hb, hml, hown, hts, hr, hlo, hK, hA, hX⟩ := id K
  unfold m_X3_combine_J99 at hm
  refine lv_lstore (lv' := [(9, .long y0), (0, .ref (ad 19 0)), (1, .int x1), (2, .int x2), (3, .int x3), (4, .long x4), (6, .long x6), (8, .int x8)]) hx hb dX3_combine_99 hl (by decide) rfl (fun ls hl => ?_)
  refine lv_iload hx hb dX3_combine_101 (lv_at hl 7 rfl) ?_
  refine lv_iconst (v := 2) hx hb dX3_combine_103 (by decide) ?_
  refine lv_iand hx hb dX3_combine_104 ?_
  refine lv_if_ne (tgt := 117) hx hb dX3_combine_105 (by decide) (fun c65 => ?_) (fun c65 => ?_)
  · replace hm := (if_pos c65).symm.trans hm
    refine lv_aload_n hx hb dX3_combine_117 rfl (lv_at hl 1 rfl) ?_
    refine g_get (ref := "MigrantHeap$Pile") (C := RX3) (T := TX3) (N := 3) (ci := 3) K in_X3_combine_X3 hw 19 rfl (by decide : 0 < 1) rfl rfl 2 (by decide) (List.mem_of_getElem? (i := 3) rfl) rfl rfl dX3_combine_118 ?_
    refine lv_iload_n hx hb dX3_combine_121 rfl (lv_at hl 4 rfl) ?_
    obtain ⟨h66, hm⟩ := chkS hm
    refine g_lald K hw 21 1 rfl (by decide) rfl rfl h66 dX3_combine_122 ?_
    exact t_X3_combine_J123 K n S x1 x2 x3 x4 x6 x8 y0 (S.2.1 1 x3.toNatClampNeg) hm hg hE0 hE1 H locs hw ls (lv_sub hl [1, 2, 3, 4, 5, 6, 7, 0] rfl)
  · replace hm := (if_neg (fun h => h c65)).symm.trans hm
    refine lv_aload_n hx hb dX3_combine_108 rfl (lv_at hl 1 rfl) ?_
    refine g_get (ref := "MigrantHeap$Pile") (C := RX3) (T := TX3) (N := 3) (ci := 3) K in_X3_combine_X3 hw 19 rfl (by decide : 0 < 1) rfl rfl 1 (by decide) (List.mem_of_getElem? (i := 2) rfl) rfl rfl dX3_combine_109 ?_
    refine lv_iload_n hx hb dX3_combine_112 rfl (lv_at hl 4 rfl) ?_
    obtain ⟨h67, hm⟩ := chkS hm
    refine g_lald K hw 20 1 rfl (by decide) rfl rfl h67 dX3_combine_113 ?_
    refine lv_goto (tgt := 123) hx hb dX3_combine_114 (by decide) ?_
    exact t_X3_combine_J123 K n S x1 x2 x3 x4 x6 x8 y0 (S.2.1 0 x3.toNatClampNeg) hm hg hE0 hE1 H locs hw ls (lv_sub hl [1, 2, 3, 4, 5, 6, 7, 0] rfl)
set_option maxRecDepth 100000 in
set_option maxHeartbeats 4000000 in
theorem t_X3_combine_L71 (K : Cx p s m args meth c D A (tysC cy) RX3 cX3_combine 15 (some .boolean) wsX3_combine (fun _ _ => True)) (n : Nat) (S : CSt) (x1 : Int32) (x2 : Int32) (x3 : Int32)  (z : (Unit ⊕ (Int64 × Int64))) (hE0 : ∀ w : Unit, z = .inl w → ∀ (H : Heap) (locs : List Loc), Wd D A s.heap (GC cy ad S) H locs → ∀ ls : Array Slot, lv_has ls 15 [] → W p l e rm_X3_combine s m args below meth c H locs 0 0 Q (F0 m 141 ls [])) (hE1 : ∀ w : (Int64 × Int64), z = .inr w → ∀ (H : Heap) (locs : List Loc), Wd D A s.heap (GC cy ad S) H locs → ∀ ls : Array Slot, lv_has ls 15 [(0, .ref (ad 19 0)), (4, .long w.1), (6, .long w.2)] → W p l e rm_X3_combine s m args below meth c H locs 0 0 Q (F0 m 197 ls [])) : ∀ (x : (Int64 × Int64 × Int32)), lpO (b_X3_combine_71 n S x1 x2 x3) n x = some z → (fun (x : (Int64 × Int64 × Int32)) => ∀ (H : Heap) (locs : List Loc), Wd D A s.heap (GC cy ad S) H locs → ∀ ls : Array Slot, lv_has ls 15 [(0, .ref (ad 19 0)), (1, .int x1), (2, .int x2), (3, .int x3), (4, .long x.1), (6, .long x.2.1), (8, .int x.2.2)] → W p l e rm_X3_combine s m args below meth c H locs 0 0 Q (F0 m 71 ls [])) x := by
  intro x hx0
  refine lpO_ind2 (P := fun (x : (Int64 × Int64 × Int32)) => ∀ (H : Heap) (locs : List Loc), Wd D A s.heap (GC cy ad S) H locs → ∀ ls : Array Slot, lv_has ls 15 [(0, .ref (ad 19 0)), (1, .int x1), (2, .int x2), (3, .int x3), (4, .long x.1), (6, .long x.2.1), (8, .int x.2.2)] → W p l e rm_X3_combine s m args below meth c H locs 0 0 Q (F0 m 71 ls [])) (z := z) ?_ n x hx0
  clear hx0 x
  intro x out hm hg H locs hw ls hl 
  obtain ⟨hx, hb, hml, hown, hts, hr, hlo, hK, hA, hX⟩ := id K
  unfold b_X3_combine_71 at hm
  refine lv_iload hx hb dX3_combine_71 (lv_at hl 6 rfl) ?_
  refine lv_iconst (v := 4) hx hb dX3_combine_73 (by decide) ?_
  refine lv_icmp_ge (tgt := 197) hx hb dX3_combine_74 (by decide) (fun c68 => ?_) (fun c68 => ?_)
  · replace hm := (if_pos c68).symm.trans hm
    obtain rfl := Option.some.inj hm
    exact hE1 _ hg.symm H locs hw ls (lv_sub hl [0, 4, 5] rfl)
  · replace hm := (if_neg c68).symm.trans hm
    refine lv_iload hx hb dX3_combine_77 (lv_at hl 6 rfl) ?_
    refine lv_iconst (v := 1) hx hb dX3_combine_79 (by decide) ?_
    refine lv_iand hx hb dX3_combine_80 ?_
    refine lv_if_ne (tgt := 93) hx hb dX3_combine_81 (by decide) (fun c69 => ?_) (fun c69 => ?_)
    · replace hm := (if_pos c69).symm.trans hm
      refine lv_aload_n hx hb dX3_combine_93 rfl (lv_at hl 0 rfl) ?_
      refine g_get (ref := "MigrantHeap$Pile") (C := RX3) (T := TX3) (N := 3) (ci := 3) K in_X3_combine_X3 hw 19 rfl (by decide : 0 < 1) rfl rfl 2 (by decide) (List.mem_of_getElem? (i := 3) rfl) rfl rfl dX3_combine_94 ?_
      refine lv_iload_n hx hb dX3_combine_97 rfl (lv_at hl 2 rfl) ?_
      obtain ⟨h70, hm⟩ := chkS hm
      refine g_lald K hw 21 1 rfl (by decide) rfl rfl h70 dX3_combine_98 ?_
      exact t_X3_combine_J99 K n S x1 x2 x3 x.1 x.2.1 x.2.2 (S.2.1 1 x2.toNatClampNeg) hm hg hE0 hE1 H locs hw ls (lv_sub hl [0, 1, 2, 3, 4, 5, 6] rfl)
    · replace hm := (if_neg (fun h => h c69)).symm.trans hm
      refine lv_aload_n hx hb dX3_combine_84 rfl (lv_at hl 0 rfl) ?_
      refine g_get (ref := "MigrantHeap$Pile") (C := RX3) (T := TX3) (N := 3) (ci := 3) K in_X3_combine_X3 hw 19 rfl (by decide : 0 < 1) rfl rfl 1 (by decide) (List.mem_of_getElem? (i := 2) rfl) rfl rfl dX3_combine_85 ?_
      refine lv_iload_n hx hb dX3_combine_88 rfl (lv_at hl 2 rfl) ?_
      obtain ⟨h71, hm⟩ := chkS hm
      refine g_lald K hw 20 1 rfl (by decide) rfl rfl h71 dX3_combine_89 ?_
      refine lv_goto (tgt := 99) hx hb dX3_combine_90 (by decide) ?_
      exact t_X3_combine_J99 K n S x1 x2 x3 x.1 x.2.1 x.2.2 (S.2.1 0 x2.toNatClampNeg) hm hg hE0 hE1 H locs hw ls (lv_sub hl [0, 1, 2, 3, 4, 5, 6] rfl)
set_option maxRecDepth 100000 in
set_option maxHeartbeats 4000000 in
theorem t_X3_combine_J62 (K : Cx p s m args meth c D A (tysC cy) RX3 cX3_combine 15 (some .boolean) wsX3_combine (fun _ _ => True)) (n : Nat) (S : CSt) (x1 : Int32) (x2 : Int32) (x3 : Int32) {out : Int32 × CSt} (hm : m_X3_combine_J62 n S x1 x2 x3 = some out) : ∀ (H : Heap) (locs : List Loc), Wd D A s.heap (GC cy ad S) H locs → ∀ ls : Array Slot, lv_has ls 15 [(0, .ref (ad 19 0)), (1, .int x1), (2, .int x2), (3, .int x3)] → W p l e rm_X3_combine s m args below meth c H locs 0 0 (MQ below (va_Qi (fun r (u : CSt) => out = (r, u)) (fun u => Pst D (tysC cy) A (GC cy ad u)) A) args s 0 0 A) (F0 m 62 ls []) := by
  intro H locs hw ls hl 
  obtain ⟨hx, hb, hml, hown, hts, hr, hlo, hK, hA, hX⟩ := id K
  unfold m_X3_combine_J62 at hm
  refine lv_lconst (v := 0) hx hb dX3_combine_62 (by decide) ?_
  refine lv_lstore (lv' := [(4, .long 0), (0, .ref (ad 19 0)), (1, .int x1), (2, .int x2), (3, .int x3)]) hx hb dX3_combine_63 hl (by decide) rfl (fun ls hl => ?_)
  refine lv_lconst (v := 0) hx hb dX3_combine_65 (by decide) ?_
  refine lv_lstore (lv' := [(6, .long 0), (4, .long 0), (0, .ref (ad 19 0)), (1, .int x1), (2, .int x2), (3, .int x3)]) hx hb dX3_combine_66 hl (by decide) rfl (fun ls hl => ?_)
  refine lv_iconst (v := 0) hx hb dX3_combine_68 (by decide) ?_
  refine lv_istore (lv' := [(8, .int 0), (6, .long 0), (4, .long 0), (0, .ref (ad 19 0)), (1, .int x1), (2, .int x2), (3, .int x3)]) hx hb dX3_combine_69 hl (by decide) rfl (fun ls hl => ?_)
  obtain ⟨z72, hz73, hm⟩ := bindS hm
  refine t_X3_combine_L71 K n S x1 x2 x3 z72 (fun w74 hww74 => ?_) (fun w75 hww75 => ?_) ((0, 0, 0)) hz73 H locs hw ls (lv_sub hl [3, 4, 5, 6, 2, 1, 0] rfl)
  · intro H locs hw ls hl 
    subst hww74
    replace hm := (sumL _ _ _).symm.trans hm
    refine lv_iconst (v := 0) hx hb dX3_combine_141 (by decide) ?_
    exact g_zret (GG := GC cy ad) K hw rfl (Option.some.inj hm).symm dX3_combine_142
  · intro H locs hw ls hl 
    subst hww75
    replace hm := (sumR _ _ _).symm.trans hm
    refine lv_aload_n hx hb dX3_combine_197 rfl (lv_at hl 0 rfl) ?_
    refine lv_lload hx hb dX3_combine_198 (lv_at hl 1 rfl) ?_
    refine lv_lload hx hb dX3_combine_200 (lv_at hl 2 rfl) ?_
    obtain ⟨z77, hc76, hm⟩ := bindS hm
    refine g_calli (GG := GC cy ad) K hw (va_runV (As := [.long w75.1, .long w75.2]) (rest := []) (g_fix K) (c_X3_lay l D cy ad H.size n S w75.1 w75.2  hc76) (cwV 2 (g_hts K) gX3_combine_X3_lay rfl rfl rfl (by decide +kernel) ⟨Nat.le_of_ble_eq_true rfl, Nat.le_of_ble_eq_true rfl⟩) ⟨g_blind rides_none, g_recv K hw 19 rfl (by decide : 0 < 1) rfl rfl, g_pre (X2 := fun _ _ => True) K hw (fun _ _ _ => trivial)⟩ rfl rfl hl.1 rfl (lv_room (Nat.le_of_ble_eq_true rfl)) dX3_combine_202 ⟨Nat.le_of_ble_eq_true rfl, Nat.le_of_ble_eq_true rfl⟩) (fun r u H locs hp hw => ?_)
    obtain ⟨rfl, rfl⟩ : r = z77.1 ∧ u = z77.2 := by rw [hp]; exact ⟨rfl, rfl⟩
    obtain ⟨h78, hm⟩ := chkS hm
    exact g_zret (GG := GC cy ad) K hw h78 (Option.some.inj hm).symm dX3_combine_205
set_option maxRecDepth 100000 in
set_option maxHeartbeats 4000000 in
theorem t_X3_combine_0 (K : Cx p s m args meth c D A (tysC cy) RX3 cX3_combine 15 (some .boolean) wsX3_combine (fun _ _ => True)) (n : Nat) (S : CSt) (x1 : Int32)  {out : Int32 × CSt} (hm : m_X3_combine n S x1 = some out) : ∀ (H : Heap) (locs : List Loc), Wd D A s.heap (GC cy ad S) H locs → ∀ ls : Array Slot, lv_has ls 15 [(0, .ref (ad 19 0)), (1, .int x1)] → W p l e rm_X3_combine s m args below meth c H locs 0 0 (MQ below (va_Qi (fun r (u : CSt) => out = (r, u)) (fun u => Pst D (tysC cy) A (GC cy ad u)) A) args s 0 0 A) (F0 m 0 ls []) := by
  intro H locs hw ls hl
  obtain ⟨hx, hb, hml, hown, hts, hr, hlo, hK, hA, hX⟩ := id K
  unfold m_X3_combine at hm
  refine lv_aload_n hx hb dX3_combine_0 rfl (lv_at hl 0 rfl) ?_
  refine g_get (ref := "MigrantHeap$Pile") (C := RX3) (T := TX3) (N := 3) (ci := 3) K in_X3_combine_X3 hw 19 rfl (by decide : 0 < 1) rfl rfl 0 (by decide) (List.mem_of_getElem? (i := 1) rfl) rfl rfl dX3_combine_1 ?_
  refine lv_iconst (v := 2) hx hb dX3_combine_4 (by decide) ?_
  refine lv_icmp_ge (tgt := 10) hx hb dX3_combine_5 (by decide) (fun c80 => ?_) (fun c80 => ?_)
  · replace hm := (if_pos c80).symm.trans hm
    refine lv_aload_n hx hb dX3_combine_10 rfl (lv_at hl 0 rfl) ?_
    refine lv_dup hx hb dX3_combine_11 rfl ?_
    refine g_get (ref := "MigrantHeap$Pile") (C := RX3) (T := TX3) (N := 3) (ci := 3) K in_X3_combine_X3 hw 19 rfl (by decide : 0 < 1) rfl rfl 0 (by decide) (List.mem_of_getElem? (i := 1) rfl) rfl rfl dX3_combine_12 ?_
    refine lv_iconst (v := 2) hx hb dX3_combine_15 (by decide) ?_
    refine lv_isub hx hb dX3_combine_16 ?_
    refine g_put (v := .int ((S.1 27 0 0) - 2)) (ty := .int) (ref := "MigrantHeap$Pile") (C := RX3) (T := TX3) (N := 3) (ci := 3) K in_X3_combine_X3 tyX3 tyX3_ok nmX3 hw 19 rfl (by decide : 0 < 1) rfl rfl 0 (by decide) (List.mem_of_getElem? (i := 1) rfl) rfl rfl (by decide +kernel) rfl rfl (Nat.le_of_ble_eq_true rfl) dX3_combine_17 (eC_27 cy ad S 0 ((S.1 27 0 0) - 2)) (fun H locs hw => ?_)
    obtain ⟨S81, hS81, hm⟩ := nm_ex hm
    rw [← hS81] at hw
    refine lv_aload_n hx hb dX3_combine_20 rfl (lv_at hl 0 rfl) ?_
    refine g_get (ref := "MigrantHeap$Pile") (C := RX3) (T := TX3) (N := 3) (ci := 3) K in_X3_combine_X3 hw 19 rfl (by decide : 0 < 1) rfl rfl 0 (by decide) (List.mem_of_getElem? (i := 1) rfl) rfl rfl dX3_combine_21 ?_
    obtain ⟨x82, hx82, hm⟩ := nm_ex hm
    refine W.eq (g2 := F0 m 24 ls (.int x82 :: [])) (by rw [hx82]) ?_
    refine lv_istore_n (lv' := [(2, .int x82), (0, .ref (ad 19 0)), (1, .int x1)]) hx hb dX3_combine_24 rfl hl (by decide) rfl (fun ls hl => ?_)
    refine lv_aload_n hx hb dX3_combine_25 rfl (lv_at hl 1 rfl) ?_
    refine g_get (ref := "MigrantHeap$Pile") (C := RX3) (T := TX3) (N := 3) (ci := 3) K in_X3_combine_X3 hw 19 rfl (by decide : 0 < 1) rfl rfl 0 (by decide) (List.mem_of_getElem? (i := 1) rfl) rfl rfl dX3_combine_26 ?_
    refine lv_iconst (v := 1) hx hb dX3_combine_29 (by decide) ?_
    refine lv_iadd hx hb dX3_combine_30 ?_
    obtain ⟨x83, hx83, hm⟩ := nm_ex hm
    refine W.eq (g2 := F0 m 31 ls (.int x83 :: [])) (by rw [hx83]) ?_
    refine lv_istore_n (lv' := [(3, .int x83), (2, .int x82), (0, .ref (ad 19 0)), (1, .int x1)]) hx hb dX3_combine_31 rfl hl (by decide) rfl (fun ls hl => ?_)
    refine lv_iload_n hx hb dX3_combine_32 rfl (lv_at hl 3 rfl) ?_
    refine lv_bipush (v := 13) hx hb dX3_combine_33 (by decide) ?_
    refine lv_icmp_ne (tgt := 62) hx hb dX3_combine_35 (by decide) (fun c84 => ?_) (fun c84 => ?_)
    · replace hm := (if_pos c84).symm.trans hm
      exact t_X3_combine_J62 K n S81 x1 x82 x83 hm H locs hw ls (lv_sub hl [2, 3, 1, 0] rfl)
    · replace hm := (if_neg (fun h => h c84)).symm.trans hm
      refine lv_aload_n hx hb dX3_combine_38 rfl (lv_at hl 2 rfl) ?_
      refine g_get (ref := "MigrantHeap$Pile") (C := RX3) (T := TX3) (N := 3) (ci := 3) K in_X3_combine_X3 hw 19 rfl (by decide : 0 < 1) rfl rfl 1 (by decide) (List.mem_of_getElem? (i := 2) rfl) rfl rfl dX3_combine_39 ?_
      refine lv_iload_n hx hb dX3_combine_42 rfl (lv_at hl 0 rfl) ?_
      obtain ⟨h85, hm⟩ := chkS hm
      refine g_lald K hw 20 1 rfl (by decide) rfl rfl h85 dX3_combine_43 ?_
      refine lv_lconst (v := 0) hx hb dX3_combine_44 (by decide) ?_
      refine W.lcmp hx hb dX3_combine_45 ?_
      refine lv_if_gt (tgt := 62) hx hb dX3_combine_46 (by decide) (fun c86 => ?_) (fun c86 => ?_)
      · replace hm := (if_pos c86).symm.trans hm
        exact t_X3_combine_J62 K n S81 x1 x82 x83 hm H locs hw ls (lv_sub hl [2, 3, 1, 0] rfl)
      · replace hm := (if_neg c86).symm.trans hm
        refine lv_aload_n hx hb dX3_combine_49 rfl (lv_at hl 2 rfl) ?_
        refine g_get (ref := "MigrantHeap$Pile") (C := RX3) (T := TX3) (N := 3) (ci := 3) K in_X3_combine_X3 hw 19 rfl (by decide : 0 < 1) rfl rfl 2 (by decide) (List.mem_of_getElem? (i := 3) rfl) rfl rfl dX3_combine_50 ?_
        refine lv_iload_n hx hb dX3_combine_53 rfl (lv_at hl 0 rfl) ?_
        obtain ⟨h87, hm⟩ := chkS hm
        refine g_lald K hw 21 1 rfl (by decide) rfl rfl h87 dX3_combine_54 ?_
        refine lv_lconst (v := 0) hx hb dX3_combine_55 (by decide) ?_
        refine W.lcmp hx hb dX3_combine_56 ?_
        refine lv_if_lt (tgt := 62) hx hb dX3_combine_57 (by decide) (fun c88 => ?_) (fun c88 => ?_)
        · replace hm := (if_pos c88).symm.trans hm
          exact t_X3_combine_J62 K n S81 x1 x82 x83 hm H locs hw ls (lv_sub hl [2, 3, 1, 0] rfl)
        · replace hm := (if_neg c88).symm.trans hm
          refine lv_iconst (v := 0) hx hb dX3_combine_60 (by decide) ?_
          exact g_zret (GG := GC cy ad) K hw rfl (Option.some.inj hm).symm dX3_combine_61
  · replace hm := (if_neg c80).symm.trans hm
    refine lv_iconst (v := 0) hx hb dX3_combine_8 (by decide) ?_
    exact g_zret (GG := GC cy ad) K hw rfl (Option.some.inj hm).symm dX3_combine_9
set_option maxRecDepth 100000 in
set_option maxHeartbeats 4000000 in
theorem c_X3_combine (l : Launch) (D : va_G) (cy : Nat → ClassId) (ad : Nat → Nat → Nat) (sz n : Nat) (S : CSt) (x1 : Int32)  {out : Int32 × CSt} (hm : m_X3_combine n S x1 = some out) : Met l yX3_combine wsX3_combine rm_X3_combine (va_Pc [.ref (ad 19 0), .int x1] (Pre D (tysC cy) (GC cy ad S) (fun _ _ => True) sz)) (va_Qi (fun r (u : CSt) => out = (r, u)) (fun u => Pst D (tysC cy) (AA (adrs (GC cy ad S)) sz) (GC cy ad u)) (AA (adrs (GC cy ad S)) sz)) 0 0 (AA (adrs (GC cy ad S)) sz) := by
  refine g_met (by decide) rfl (Nat.le_of_ble_eq_true rfl) ?_
  intro p e s m args below meth c K hw ls hl
  exact t_X3_combine_0 (cy := cy) K n S x1  hm _ _ hw ls hl
end W_X3_combine
