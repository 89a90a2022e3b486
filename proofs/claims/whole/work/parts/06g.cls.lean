section W_X7_step
variable {p : Program} {l : Launch} {e : Env} {s : State} {m : MethodId} {args : Array Value} {below : List Frame} {meth : Method} {c : Code} {D : va_G} {A : Nat → Prop} {cy : Nat → ClassId} {ad : Nat → Nat → Nat} {Q : State → Prop}
abbrev rm_X7_step : Room := { frames := 6, cells := 1, slots := 6, locals := 100 }
theorem in_X7_step_X1 : ∀ w ∈ u_ws RX1 TX1 2, w ∈ wsX7_step := by decide +kernel
theorem in_X7_step_X5 : ∀ w ∈ u_ws RX5 TX5 6, w ∈ wsX7_step := by decide +kernel
theorem in_X7_step_X7 : ∀ w ∈ u_ws RX7 TX7 11, w ∈ wsX7_step := by decide +kernel
set_option maxRecDepth 100000 in
set_option maxHeartbeats 4000000 in
theorem t_X7_step_J91 (K : Cx p s m args meth c D A (tysC cy) RX7 cX7_step 7 (some .int) wsX7_step EV) (hno : ∀ x ∈ c.exceptionTable.toList, False) (hl9 : l.stackTraces = false) (n : Nat) (S : CSt)  {out : (Int32 × CSt) ⊕ (Nat × CSt)} (hm : m_X7_step_J91 n S  = some out) : ∀ (H : Heap) (locs : List Loc), Wd D A s.heap (GC cy ad S) H locs → ∀ ls : Array Slot, lv_has ls 7 [(0, .ref (ad 0 0))] → W p l e rm_X7_step s m args below meth c H locs 0 0 (vx_MQ below (va_Qi (fun r (u : CSt) => out = .inl (r, u)) (fun u => Pst D (tysC cy) A (GC cy ad u)) A) (XCx D (tysC cy) A (GC cy ad) out) args s 1 6 A) (F0 m 91 ls []) := by
  intro H locs hw ls hl 
  obtain ⟨hx, hb, hml, hown, hts, hr, hlo, hK, hA, hX⟩ := id K
  unfold m_X7_step_J91 at hm
  refine lv_aload_n hx hb dX7_step_91 rfl (lv_at hl 0 rfl) ?_
  refine lv_dup hx hb dX7_step_92 rfl ?_
  refine g_get (ref := "MigrantHeap") (C := RX7) (T := TX7) (N := 11) (ci := 7) K in_X7_step_X7 hw 0 rfl (by decide : 0 < 1) rfl rfl 6 (by decide) (List.mem_of_getElem? (i := 5) rfl) rfl rfl dX7_step_93 ?_
  refine lv_iconst (v := 1) hx hb dX7_step_96 (by decide) ?_
  refine lv_iadd hx hb dX7_step_97 ?_
  refine g_put (v := .int ((S.1 1 0 0) + 1)) (ty := .int) (ref := "MigrantHeap") (C := RX7) (T := TX7) (N := 11) (ci := 7) K in_X7_step_X7 tyX7 tyX7_ok nmX7 hw 0 rfl (by decide : 0 < 1) rfl rfl 6 (by decide) (List.mem_of_getElem? (i := 5) rfl) rfl rfl (by decide +kernel) rfl rfl (Nat.le_of_ble_eq_true rfl) dX7_step_98 (eC_1 cy ad S 0 ((S.1 1 0 0) + 1)) (fun H locs hw => ?_)
  obtain ⟨S28, hS28, hm⟩ := nm_ex hm
  rw [← hS28] at hw
  refine lv_aload_n hx hb dX7_step_101 rfl (lv_at hl 0 rfl) ?_
  refine g_get (ref := "MigrantHeap") (C := RX7) (T := TX7) (N := 11) (ci := 7) K in_X7_step_X7 hw 0 rfl (by decide : 0 < 1) rfl rfl 6 (by decide) (List.mem_of_getElem? (i := 5) rfl) rfl rfl dX7_step_102 ?_
  refine vx_ret (W.widen (k := 1) (n := 6) (Nat.le_of_ble_eq_true rfl) (Nat.le_of_ble_eq_true rfl) ?_)
  exact g_iret (GG := GC cy ad) K hw (Option.some.inj hm).symm dX7_step_105
set_option maxRecDepth 100000 in
set_option maxHeartbeats 4000000 in
theorem t_X7_step_0 (K : Cx p s m args meth c D A (tysC cy) RX7 cX7_step 7 (some .int) wsX7_step EV) (hno : ∀ x ∈ c.exceptionTable.toList, False) (hl9 : l.stackTraces = false) (n : Nat) (S : CSt) (x1 : Int32) (x2 : Int32) (x3 : Int32) (x4 : Int32) (x5 : Int32)  {out : (Int32 × CSt) ⊕ (Nat × CSt)} (hm : m_X7_step n S x1 x2 x3 x4 x5 = some out) : ∀ (H : Heap) (locs : List Loc), Wd D A s.heap (GC cy ad S) H locs → ∀ ls : Array Slot, lv_has ls 7 [(0, .ref (ad 0 0)), (1, .int x1), (2, .int x2), (3, .int x3), (4, .int x4), (5, .int x5)] → W p l e rm_X7_step s m args below meth c H locs 0 0 (vx_MQ below (va_Qi (fun r (u : CSt) => out = .inl (r, u)) (fun u => Pst D (tysC cy) A (GC cy ad u)) A) (XCx D (tysC cy) A (GC cy ad) out) args s 1 6 A) (F0 m 0 ls []) := by
  intro H locs hw ls hl
  obtain ⟨hx, hb, hml, hown, hts, hr, hlo, hK, hA, hX⟩ := id K
  unfold m_X7_step at hm
  refine lv_aload_n hx hb dX7_step_0 rfl (lv_at hl 0 rfl) ?_
  refine lv_iload_n hx hb dX7_step_1 rfl (lv_at hl 1 rfl) ?_
  refine lv_iload_n hx hb dX7_step_2 rfl (lv_at hl 2 rfl) ?_
  refine lv_iload_n hx hb dX7_step_3 rfl (lv_at hl 3 rfl) ?_
  refine lv_iload hx hb dX7_step_4 (lv_at hl 4 rfl) ?_
  refine lv_iload hx hb dX7_step_6 (lv_at hl 5 rfl) ?_
  obtain ⟨z30, hc29, hm⟩ := bindS hm
  refine g_calli (GG := GC cy ad) K hw (va_runV (As := [.int x1, .int x2, .int x3, .int x4, .int x5]) (rest := []) (g_fix K) (c_X7_isStep l D cy ad H.size n S x1 x2 x3 x4 x5  hc29) (cwV 5 (g_hts K) gX7_step_X7_isStep rfl rfl rfl (by decide +kernel) ⟨Nat.le_of_ble_eq_true rfl, Nat.le_of_ble_eq_true rfl⟩) ⟨g_blind rides_none, g_recv K hw 0 rfl (by decide : 0 < 1) rfl rfl, g_pre (X2 := fun _ _ => True) K hw (fun _ _ _ => trivial)⟩ rfl rfl hl.1 rfl (lv_room (Nat.le_of_ble_eq_true rfl)) dX7_step_8 ⟨Nat.le_of_ble_eq_true rfl, Nat.le_of_ble_eq_true rfl⟩) (fun r u H locs hp hw => ?_)
  obtain ⟨rfl, hu⟩ := hp
  rw [hu] at hw
  refine lv_if_ne (tgt := 24) hx hb dX7_step_11 (by decide) (fun c31 => ?_) (fun c31 => ?_)
  · replace hm := (if_pos c31).symm.trans hm
    refine lv_aload_n hx hb dX7_step_24 rfl (lv_at hl 0 rfl) ?_
    refine g_get (ref := "MigrantHeap") (C := RX7) (T := TX7) (N := 11) (ci := 7) K in_X7_step_X7 hw 0 rfl (by decide : 0 < 1) rfl rfl 6 (by decide) (List.mem_of_getElem? (i := 5) rfl) rfl rfl dX7_step_25 ?_
    refine lv_bipush (v := 6) hx hb dX7_step_28 (by decide) ?_
    refine lv_icmp_lt (tgt := 43) hx hb dX7_step_30 (by decide) (fun c32 => ?_) (fun c32 => ?_)
    · replace hm := (if_pos c32).symm.trans hm
      refine lv_aload_n hx hb dX7_step_43 rfl (lv_at hl 0 rfl) ?_
      refine g_get (ref := "MigrantHeap") (C := RX7) (T := TX7) (N := 11) (ci := 7) K in_X7_step_X7 hw 0 rfl (by decide : 0 < 1) rfl rfl 5 (by decide) (List.mem_of_getElem? (i := 6) rfl) rfl rfl dX7_step_44 ?_
      refine lv_aload_n hx hb dX7_step_47 rfl (lv_at hl 0 rfl) ?_
      refine g_get (ref := "MigrantHeap") (C := RX7) (T := TX7) (N := 11) (ci := 7) K in_X7_step_X7 hw 0 rfl (by decide : 0 < 1) rfl rfl 6 (by decide) (List.mem_of_getElem? (i := 5) rfl) rfl rfl dX7_step_48 ?_
      obtain ⟨h33, hm⟩ := chkS hm
      refine g_aald K hw 17 5 rfl (by decide) rfl rfl h33 dX7_step_51 ?_
      refine lv_astore (lv' := [(6, .ref (ad 18 ((S.1 1 0 0).toNatClampNeg))), (0, .ref (ad 0 0)), (1, .int x1), (2, .int x2), (3, .int x3), (4, .int x4), (5, .int x5)]) hx hb dX7_step_52 hl (by decide) rfl (fun ls hl => ?_)
      refine lv_aload hx hb dX7_step_54 (lv_at hl 0 rfl) ?_
      refine lv_iload_n hx hb dX7_step_56 rfl (lv_at hl 2 rfl) ?_
      refine lv_iload_n hx hb dX7_step_57 rfl (lv_at hl 3 rfl) ?_
      refine lv_iload_n hx hb dX7_step_58 rfl (lv_at hl 4 rfl) ?_
      refine lv_iload hx hb dX7_step_59 (lv_at hl 5 rfl) ?_
      refine lv_iload hx hb dX7_step_61 (lv_at hl 6 rfl) ?_
      obtain ⟨z35, hc34, hm⟩ := bindS hm
      refine g_callv (GG := GC cy ad) K hw (va_runV (As := [.int x1, .int x2, .int x3, .int x4, .int x5]) (rest := []) (g_fix K) (c_X5_fill l D cy ad H.size n S ((S.1 1 0 0).toNatClampNeg) x1 x2 x3 x4 x5 (inB_lt h33) hc34) (cwV 5 (g_hts K) gX7_step_X5_fill rfl rfl rfl (by decide +kernel) ⟨Nat.le_of_ble_eq_true rfl, Nat.le_of_ble_eq_true rfl⟩) ⟨g_blind rides_none, g_recv K hw 18 rfl (inB_lt h33) rfl rfl, g_pre (X2 := fun _ _ => True) K hw (fun _ _ _ => trivial)⟩ rfl rfl hl.1 rfl (lv_room (Nat.le_of_ble_eq_true rfl)) dX7_step_63 ⟨Nat.le_of_ble_eq_true rfl, Nat.le_of_ble_eq_true rfl⟩) (fun u H locs hp hw => ?_)
      obtain rfl := hp
      refine lv_iload_n hx hb dX7_step_66 rfl (lv_at hl 2 rfl) ?_
      refine lv_iconst (v := 2) hx hb dX7_step_67 (by decide) ?_
      refine lv_icmp_ne (tgt := 91) hx hb dX7_step_68 (by decide) (fun c36 => ?_) (fun c36 => ?_)
      · replace hm := (if_pos c36).symm.trans hm
        exact t_X7_step_J91 K hno hl9 n z35 hm H locs hw ls (lv_sub hl [1] rfl)
      · replace hm := (if_neg (fun h => h c36)).symm.trans hm
        refine lv_aload hx hb dX7_step_71 (lv_at hl 0 rfl) ?_
        refine g_get (ref := "MigrantHeap$Step") (C := RX5) (T := TX5) (N := 6) (ci := 5) K in_X7_step_X5 hw 18 rfl (inB_lt h33) rfl rfl 5 (by decide) (List.mem_of_getElem? (i := 7) rfl) rfl rfl dX7_step_73 ?_
        refine lv_aload_n hx hb dX7_step_76 rfl (lv_at hl 1 rfl) ?_
        refine g_get (ref := "MigrantHeap") (C := RX7) (T := TX7) (N := 11) (ci := 7) K in_X7_step_X7 hw 0 rfl (by decide : 0 < 1) rfl rfl 4 (by decide) (List.mem_of_getElem? (i := 8) rfl) rfl rfl dX7_step_77 ?_
        obtain ⟨z38, hc37, hm⟩ := bindS hm
        refine g_callv (GG := GC cy ad) K hw (va_runV (As := [.ref (ad 15 6)]) (rest := []) (g_fix K) (c_X1_copyFrom l D cy ad H.size n z35 ((S.1 1 0 0).toNatClampNeg) 6 (by have := (inB_lt h33); omega : (S.1 1 0 0).toNatClampNeg < 7) (by decide : 6 < 7) hc37) (cwV 1 (g_hts K) gX7_step_X1_copyFrom rfl rfl rfl (by decide +kernel) ⟨Nat.le_of_ble_eq_true rfl, Nat.le_of_ble_eq_true rfl⟩) ⟨g_blind rides_none, g_recv K hw 15 rfl (by have := (inB_lt h33); omega : (S.1 1 0 0).toNatClampNeg < 7) rfl rfl, g_pre (X2 := fun _ _ => True) K hw (fun _ _ _ => trivial)⟩ rfl rfl hl.1 rfl (lv_room (Nat.le_of_ble_eq_true rfl)) dX7_step_80 ⟨Nat.le_of_ble_eq_true rfl, Nat.le_of_ble_eq_true rfl⟩) (fun u H locs hp hw => ?_)
        obtain rfl := hp
        refine lv_aload_n hx hb dX7_step_83 rfl (lv_at hl 1 rfl) ?_
        refine g_get (ref := "MigrantHeap") (C := RX7) (T := TX7) (N := 11) (ci := 7) K in_X7_step_X7 hw 0 rfl (by decide : 0 < 1) rfl rfl 4 (by decide) (List.mem_of_getElem? (i := 8) rfl) rfl rfl dX7_step_84 ?_
        refine lv_iconst (v := 0) hx hb dX7_step_87 (by decide) ?_
        refine g_put (v := .int 0) (ty := .int) (ref := "MigrantHeap$Formula") (C := RX1) (T := TX1) (N := 2) (ci := 1) K in_X7_step_X1 tyX1 tyX1_ok nmX1 hw 15 rfl (by decide : 6 < 7) rfl rfl 0 (by decide) (List.mem_of_getElem? (i := 9) rfl) rfl rfl (by decide +kernel) rfl rfl (Nat.le_of_ble_eq_true rfl) dX7_step_88 (eC_20 cy ad z38 6 0) (fun H locs hw => ?_)
        obtain ⟨S39, hS39, hm⟩ := nm_ex hm
        rw [← hS39] at hw
        exact t_X7_step_J91 K hno hl9 n S39 hm H locs hw ls (lv_sub hl [1] rfl)
    · replace hm := (if_neg c32).symm.trans hm
      obtain ⟨sa40, hs41⟩ := hX.2.1 (168, _) (List.mem_of_getElem? (i := 7) rfl)
      exact vx_throwS (own := RX7) (cls := "java/lang/IllegalStateException") (names := rteL) (sa := sa40) hx hb hl9 hown (by decide +kernel) (by decide +kernel) (hts _ (List.mem_of_getElem? (i := 3) rfl)) (hts _ (List.mem_of_getElem? (i := 4) rfl)) hs41 (ev_hat hX (by decide) hts (by decide +kernel) (by decide +kernel)) (by decide +kernel) hX.2.2.2.2.1 hX.2.2.2.2.2 hw.2.2 (hl.1.trans hml.symm) dX7_step_33 dX7_step_36 dX7_step_37 dX7_step_39 dX7_step_42 (fun x h => (hno x h).elim) (Nat.le_of_ble_eq_true rfl) (Nat.le_of_ble_eq_true rfl) (Nat.le_of_ble_eq_true rfl) (Nat.le_of_ble_eq_true rfl) hlo (g_xc (GG := GC cy ad) K hw (Option.some.inj hm).symm rfl) hw.2.2.2.2 (Nat.le_of_ble_eq_true rfl) (Nat.le_of_ble_eq_true rfl)
  · replace hm := (if_neg (fun h => h c31)).symm.trans hm
    obtain ⟨sa42, hs43⟩ := hX.2.1 (163, _) (List.mem_of_getElem? (i := 6) rfl)
    exact vx_throwS (own := RX7) (cls := "java/lang/IllegalArgumentException") (names := rteL) (sa := sa42) hx hb hl9 hown (by decide +kernel) (by decide +kernel) (hts _ (List.mem_of_getElem? (i := 1) rfl)) (hts _ (List.mem_of_getElem? (i := 2) rfl)) hs43 (ev_hat hX (by decide) hts (by decide +kernel) (by decide +kernel)) (by decide +kernel) hX.2.2.2.2.1 hX.2.2.2.2.2 hw.2.2 (hl.1.trans hml.symm) dX7_step_14 dX7_step_17 dX7_step_18 dX7_step_20 dX7_step_23 (fun x h => (hno x h).elim) (Nat.le_of_ble_eq_true rfl) (Nat.le_of_ble_eq_true rfl) (Nat.le_of_ble_eq_true rfl) (Nat.le_of_ble_eq_true rfl) hlo (g_xc (GG := GC cy ad) K hw (Option.some.inj hm).symm rfl) hw.2.2.2.2 (Nat.le_of_ble_eq_true rfl) (Nat.le_of_ble_eq_true rfl)
set_option maxRecDepth 100000 in
set_option maxHeartbeats 4000000 in
theorem c_X7_step (l : Launch) (hl9 : l.stackTraces = false) (D : va_G) (cy : Nat → ClassId) (ad : Nat → Nat → Nat) (sz n : Nat) (S : CSt) (x1 : Int32) (x2 : Int32) (x3 : Int32) (x4 : Int32) (x5 : Int32)  {out : (Int32 × CSt) ⊕ (Nat × CSt)} (hm : m_X7_step n S x1 x2 x3 x4 x5 = some out) : vx_Met l yX7_step wsX7_step rm_X7_step (va_Pc [.ref (ad 0 0), .int x1, .int x2, .int x3, .int x4, .int x5] (Pre D (tysC cy) (GC cy ad S) EV sz)) (va_Qi (fun r (u : CSt) => out = .inl (r, u)) (fun u => Pst D (tysC cy) (AA (adrs (GC cy ad S)) sz) (GC cy ad u)) (AA (adrs (GC cy ad S)) sz)) (XCx D (tysC cy) (AA (adrs (GC cy ad S)) sz) (GC cy ad) out) 1 6 (AA (adrs (GC cy ad S)) sz) := by
  refine g_xmet (by decide) rfl (Nat.le_of_ble_eq_true rfl) ?_
  intro p e s m args below meth c K hno hw ls hl
  exact t_X7_step_0 (cy := cy) K hno hl9 n S x1 x2 x3 x4 x5  hm _ _ hw ls hl
end W_X7_step
section W_X7_isHeld
variable {p : Program} {l : Launch} {e : Env} {s : State} {m : MethodId} {args : Array Value} {below : List Frame} {meth : Method} {c : Code} {D : va_G} {A : Nat → Prop} {cy : Nat → ClassId} {ad : Nat → Nat → Nat} {Q : State → Prop}
abbrev rm_X7_isHeld : Room := { frames := 0, cells := 0, slots := 0, locals := 0 }
theorem in_X7_isHeld_X7 : ∀ w ∈ u_ws RX7 TX7 11, w ∈ wsX7_isHeld := by decide +kernel
set_option maxRecDepth 100000 in
set_option maxHeartbeats 4000000 in
theorem t_X7_isHeld_L2 (K : Cx p s m args meth c D A (tysC cy) RX7 cX7_isHeld 3 (some .boolean) wsX7_isHeld (fun _ _ => True)) (n : Nat) (S : CSt) (x1 : Int32)  (z : (Unit ⊕ Unit)) (hE0 : ∀ w : Unit, z = .inl w → ∀ (H : Heap) (locs : List Loc), Wd D A s.heap (GC cy ad S) H locs → ∀ ls : Array Slot, lv_has ls 3 [] → W p l e rm_X7_isHeld s m args below meth c H locs 0 0 Q (F0 m 18 ls [])) (hE1 : ∀ w : Unit, z = .inr w → ∀ (H : Heap) (locs : List Loc), Wd D A s.heap (GC cy ad S) H locs → ∀ ls : Array Slot, lv_has ls 3 [] → W p l e rm_X7_isHeld s m args below meth c H locs 0 0 Q (F0 m 26 ls [])) : ∀ (x : Int32), lpO (b_X7_isHeld_2 n S x1) n x = some z → (fun (x : Int32) => ∀ (H : Heap) (locs : List Loc), Wd D A s.heap (GC cy ad S) H locs → ∀ ls : Array Slot, lv_has ls 3 [(0, .ref (ad 0 0)), (1, .int x1), (2, .int x)] → W p l e rm_X7_isHeld s m args below meth c H locs 0 0 Q (F0 m 2 ls [])) x := by
  intro x hx0
  refine lpO_ind2 (P := fun (x : Int32) => ∀ (H : Heap) (locs : List Loc), Wd D A s.heap (GC cy ad S) H locs → ∀ ls : Array Slot, lv_has ls 3 [(0, .ref (ad 0 0)), (1, .int x1), (2, .int x)] → W p l e rm_X7_isHeld s m args below meth c H locs 0 0 Q (F0 m 2 ls [])) (z := z) ?_ n x hx0
  clear hx0 x
  intro x out hm hg H locs hw ls hl 
  obtain ⟨hx, hb, hml, hown, hts, hr, hlo, hK, hA, hX⟩ := id K
  unfold b_X7_isHeld_2 at hm
  refine lv_iload_n hx hb dX7_isHeld_2 rfl (lv_at hl 2 rfl) ?_
  refine lv_bipush (v := 8) hx hb dX7_isHeld_3 (by decide) ?_
  refine lv_icmp_ge (tgt := 26) hx hb dX7_isHeld_5 (by decide) (fun c7 => ?_) (fun c7 => ?_)
  · replace hm := (if_pos c7).symm.trans hm
    obtain rfl := Option.some.inj hm
    exact hE1 _ hg.symm H locs hw ls (lv_sub hl [] rfl)
  · replace hm := (if_neg c7).symm.trans hm
    refine lv_aload_n hx hb dX7_isHeld_8 rfl (lv_at hl 0 rfl) ?_
    refine g_get (ref := "MigrantHeap") (C := RX7) (T := TX7) (N := 11) (ci := 7) K in_X7_isHeld_X7 hw 0 rfl (by decide : 0 < 1) rfl rfl 3 (by decide) (List.mem_of_getElem? (i := 1) rfl) rfl rfl dX7_isHeld_9 ?_
    refine lv_iload_n hx hb dX7_isHeld_12 rfl (lv_at hl 2 rfl) ?_
    obtain ⟨h8, hm⟩ := chkS hm
    refine g_iald K hw 14 0 rfl (by decide) rfl rfl h8 dX7_isHeld_13 ?_
    refine lv_iload_n hx hb dX7_isHeld_14 rfl (lv_at hl 1 rfl) ?_
    refine lv_icmp_ne (tgt := 20) hx hb dX7_isHeld_15 (by decide) (fun c9 => ?_) (fun c9 => ?_)
    · replace hm := (if_pos c9).symm.trans hm
      obtain ⟨x10, hx10, hm⟩ := nm_ex hm
      refine lv_iinc (v := x10) (lv' := [(2, .int x10), (0, .ref (ad 0 0)), (1, .int x1)]) hx hb dX7_isHeld_20 hl (k := 2) rfl (by rw [hx10]; rfl) (by decide) rfl (fun ls hl => ?_)
      refine lv_goto (tgt := 2) hx hb dX7_isHeld_23 (by decide) ?_
      obtain rfl := Option.some.inj hm
      exact hg H locs hw ls (lv_sub hl [1, 2, 0] rfl)
    · replace hm := (if_neg (fun h => h c9)).symm.trans hm
      obtain rfl := Option.some.inj hm
      exact hE0 _ hg.symm H locs hw ls (lv_sub hl [] rfl)
set_option maxRecDepth 100000 in
set_option maxHeartbeats 4000000 in
theorem t_X7_isHeld_0 (K : Cx p s m args meth c D A (tysC cy) RX7 cX7_isHeld 3 (some .boolean) wsX7_isHeld (fun _ _ => True)) (n : Nat) (S : CSt) (x1 : Int32)  {out : Int32} (hm : m_X7_isHeld n S x1 = some out) : ∀ (H : Heap) (locs : List Loc), Wd D A s.heap (GC cy ad S) H locs → ∀ ls : Array Slot, lv_has ls 3 [(0, .ref (ad 0 0)), (1, .int x1)] → W p l e rm_X7_isHeld s m args below meth c H locs 0 0 (MQ below (va_Qi (fun r (u : CSt) => out = r ∧ u = S) (fun u => Pst D (tysC cy) A (GC cy ad u)) A) args s 0 0 A) (F0 m 0 ls []) := by
  intro H locs hw ls hl
  obtain ⟨hx, hb, hml, hown, hts, hr, hlo, hK, hA, hX⟩ := id K
  unfold m_X7_isHeld at hm
  refine lv_iconst (v := 0) hx hb dX7_isHeld_0 (by decide) ?_
  refine lv_istore_n (lv' := [(2, .int 0), (0, .ref (ad 0 0)), (1, .int x1)]) hx hb dX7_isHeld_1 rfl hl (by decide) rfl (fun ls hl => ?_)
  obtain ⟨z11, hz12, hm⟩ := bindS hm
  refine t_X7_isHeld_L2 K n S x1 z11 (fun w13 hww13 => ?_) (fun w14 hww14 => ?_) (0) hz12 H locs hw ls (lv_sub hl [1, 2, 0] rfl)
  · intro H locs hw ls hl 
    subst hww13
    replace hm := (sumL _ _ _).symm.trans hm
    refine lv_iconst (v := 1) hx hb dX7_isHeld_18 (by decide) ?_
    exact g_zret (GG := GC cy ad) K hw rfl ⟨(Option.some.inj hm).symm, rfl⟩ dX7_isHeld_19
  · intro H locs hw ls hl 
    subst hww14
    replace hm := (sumR _ _ _).symm.trans hm
    refine lv_iconst (v := 0) hx hb dX7_isHeld_26 (by decide) ?_
    exact g_zret (GG := GC cy ad) K hw rfl ⟨(Option.some.inj hm).symm, rfl⟩ dX7_isHeld_27
set_option maxRecDepth 100000 in
set_option maxHeartbeats 4000000 in
theorem c_X7_isHeld (l : Launch) (D : va_G) (cy : Nat → ClassId) (ad : Nat → Nat → Nat) (sz n : Nat) (S : CSt) (x1 : Int32)  {out : Int32} (hm : m_X7_isHeld n S x1 = some out) : Met l yX7_isHeld wsX7_isHeld rm_X7_isHeld (va_Pc [.ref (ad 0 0), .int x1] (Pre D (tysC cy) (GC cy ad S) (fun _ _ => True) sz)) (va_Qi (fun r (u : CSt) => out = r ∧ u = S) (fun u => Pst D (tysC cy) (AA (adrs (GC cy ad S)) sz) (GC cy ad u)) (AA (adrs (GC cy ad S)) sz)) 0 0 (AA (adrs (GC cy ad S)) sz) := by
  refine g_met (by decide) rfl (Nat.le_of_ble_eq_true rfl) ?_
  intro p e s m args below meth c K hw ls hl
  exact t_X7_isHeld_0 (cy := cy) K n S x1  hm _ _ hw ls hl
end W_X7_isHeld
section W_X7_someRootHolds
variable {p : Program} {l : Launch} {e : Env} {s : State} {m : MethodId} {args : Array Value} {below : List Frame} {meth : Method} {c : Code} {D : va_G} {A : Nat → Prop} {cy : Nat → ClassId} {ad : Nat → Nat → Nat} {Q : State → Prop}
abbrev rm_X7_someRootHolds : Room := { frames := 1, cells := 0, slots := 0, locals := 22 }
theorem in_X7_someRootHolds_X0 : ∀ w ∈ u_ws RX0 TX0 6, w ∈ wsX7_someRootHolds := by decide +kernel
theorem in_X7_someRootHolds_X6 : ∀ w ∈ u_ws RX6 TX6 3, w ∈ wsX7_someRootHolds := by decide +kernel
theorem in_X7_someRootHolds_X7 : ∀ w ∈ u_ws RX7 TX7 11, w ∈ wsX7_someRootHolds := by decide +kernel
set_option maxRecDepth 100000 in
set_option maxHeartbeats 4000000 in
theorem t_X7_someRootHolds_L2 (K : Cx p s m args meth c D A (tysC cy) RX7 cX7_someRootHolds 5 (some .boolean) wsX7_someRootHolds (fun _ _ => True)) (n : Nat) (S : CSt) (x1 : Int32) (x2 : Int32)  (z : (Unit ⊕ Unit)) (hE0 : ∀ w : Unit, z = .inl w → ∀ (H : Heap) (locs : List Loc), Wd D A s.heap (GC cy ad S) H locs → ∀ ls : Array Slot, lv_has ls 5 [] → W p l e rm_X7_someRootHolds s m args below meth c H locs 0 0 Q (F0 m 42 ls [])) (hE1 : ∀ w : Unit, z = .inr w → ∀ (H : Heap) (locs : List Loc), Wd D A s.heap (GC cy ad S) H locs → ∀ ls : Array Slot, lv_has ls 5 [] → W p l e rm_X7_someRootHolds s m args below meth c H locs 0 0 Q (F0 m 50 ls [])) : ∀ (x : Int32), lpO (b_X7_someRootHolds_2 n S x1 x2) n x = some z → (fun (x : Int32) => ∀ (H : Heap) (locs : List Loc), Wd D A s.heap (GC cy ad S) H locs → ∀ ls : Array Slot, lv_has ls 5 [(0, .ref (ad 0 0)), (1, .int x1), (2, .int x2), (3, .int x)] → W p l e rm_X7_someRootHolds s m args below meth c H locs 0 0 Q (F0 m 2 ls [])) x := by
  intro x hx0
  refine lpO_ind2 (P := fun (x : Int32) => ∀ (H : Heap) (locs : List Loc), Wd D A s.heap (GC cy ad S) H locs → ∀ ls : Array Slot, lv_has ls 5 [(0, .ref (ad 0 0)), (1, .int x1), (2, .int x2), (3, .int x)] → W p l e rm_X7_someRootHolds s m args below meth c H locs 0 0 Q (F0 m 2 ls [])) (z := z) ?_ n x hx0
  clear hx0 x
  intro x out hm hg H locs hw ls hl 
  obtain ⟨hx, hb, hml, hown, hts, hr, hlo, hK, hA, hX⟩ := id K
  unfold b_X7_someRootHolds_2 at hm
  refine lv_iload_n hx hb dX7_someRootHolds_2 rfl (lv_at hl 3 rfl) ?_
  refine lv_bipush (v := 24) hx hb dX7_someRootHolds_3 (by decide) ?_
  refine lv_icmp_ge (tgt := 50) hx hb dX7_someRootHolds_5 (by decide) (fun c24 => ?_) (fun c24 => ?_)
  · replace hm := (if_pos c24).symm.trans hm
    obtain rfl := Option.some.inj hm
    exact hE1 _ hg.symm H locs hw ls (lv_sub hl [] rfl)
  · replace hm := (if_neg c24).symm.trans hm
    refine lv_aload_n hx hb dX7_someRootHolds_8 rfl (lv_at hl 0 rfl) ?_
    refine g_get (ref := "MigrantHeap") (C := RX7) (T := TX7) (N := 11) (ci := 7) K in_X7_someRootHolds_X7 hw 0 rfl (by decide : 0 < 1) rfl rfl 2 (by decide) (List.mem_of_getElem? (i := 1) rfl) rfl rfl dX7_someRootHolds_9 ?_
    refine g_get (ref := "MigrantHeap$Store") (C := RX6) (T := TX6) (N := 3) (ci := 6) K in_X7_someRootHolds_X6 hw 9 rfl (by decide : 0 < 1) rfl rfl 0 (by decide) (List.mem_of_getElem? (i := 2) rfl) rfl rfl dX7_someRootHolds_12 ?_
    refine lv_iload_n hx hb dX7_someRootHolds_15 rfl (lv_at hl 3 rfl) ?_
    obtain ⟨h25, hm⟩ := chkS hm
    refine g_aald K hw 10 3 rfl (by decide) rfl rfl h25 dX7_someRootHolds_16 ?_
    refine lv_astore (lv' := [(4, .ref (ad 11 x.toNatClampNeg)), (0, .ref (ad 0 0)), (1, .int x1), (2, .int x2), (3, .int x)]) hx hb dX7_someRootHolds_17 hl (by decide) rfl (fun ls hl => ?_)
    refine lv_aload hx hb dX7_someRootHolds_19 (lv_at hl 0 rfl) ?_
    refine lv_iload_n hx hb dX7_someRootHolds_21 rfl (lv_at hl 2 rfl) ?_
    obtain ⟨z27, hc26, hm⟩ := bindS hm
    refine g_calli (GG := GC cy ad) K hw (va_runV (As := [.int x1]) (rest := []) (g_fix K) (c_X0_isOf l D cy ad H.size n S x.toNatClampNeg x1 (inB_lt h25) hc26) (cwV 1 (g_hts K) gX7_someRootHolds_X0_isOf rfl rfl rfl (by decide +kernel) ⟨Nat.le_of_ble_eq_true rfl, Nat.le_of_ble_eq_true rfl⟩) ⟨g_blind rides_none, g_recv K hw 11 rfl (inB_lt h25) rfl rfl, g_pre (X2 := fun _ _ => True) K hw (fun _ _ _ => trivial)⟩ rfl rfl hl.1 rfl (lv_room (Nat.le_of_ble_eq_true rfl)) dX7_someRootHolds_22 ⟨Nat.le_of_ble_eq_true rfl, Nat.le_of_ble_eq_true rfl⟩) (fun r u H locs hp hw => ?_)
    obtain ⟨rfl, hu⟩ := hp
    rw [hu] at hw
    refine lv_if_eq (tgt := 44) hx hb dX7_someRootHolds_25 (by decide) (fun c28 => ?_) (fun c28 => ?_)
    · replace hm := (if_pos c28).symm.trans hm
      obtain ⟨x29, hx29, hm⟩ := nm_ex hm
      refine lv_iinc (v := x29) (lv' := [(3, .int x29), (4, .ref (ad 11 x.toNatClampNeg)), (0, .ref (ad 0 0)), (1, .int x1), (2, .int x2)]) hx hb dX7_someRootHolds_44 hl (k := 4) rfl (by rw [hx29]; rfl) (by decide) rfl (fun ls hl => ?_)
      refine lv_goto (tgt := 2) hx hb dX7_someRootHolds_47 (by decide) ?_
      obtain rfl := Option.some.inj hm
      exact hg H locs hw ls (lv_sub hl [2, 3, 4, 0] rfl)
    · replace hm := (if_neg c28).symm.trans hm
      refine lv_aload_n hx hb dX7_someRootHolds_28 rfl (lv_at hl 1 rfl) ?_
      refine lv_aload hx hb dX7_someRootHolds_29 (lv_at hl 0 rfl) ?_
      refine g_get (ref := "MigrantHeap$Entry") (C := RX0) (T := TX0) (N := 6) (ci := 0) K in_X7_someRootHolds_X0 hw 11 rfl (inB_lt h25) rfl rfl 4 (by decide) (List.mem_of_getElem? (i := 3) rfl) rfl rfl dX7_someRootHolds_31 ?_
      refine lv_iload_n hx hb dX7_someRootHolds_34 rfl (lv_at hl 3 rfl) ?_
      obtain ⟨h30, hm⟩ := chkS hm
      refine g_iald K hw 12 0 rfl (inB_lt h25) rfl rfl h30 dX7_someRootHolds_35 ?_
      obtain ⟨z32, hc31, hm⟩ := bindS hm
      refine g_calli (GG := GC cy ad) K hw (va_runV (As := [.int (S.1 17 x.toNatClampNeg x2.toNatClampNeg)]) (rest := []) (g_fix K) (c_X7_isHeld l D cy ad H.size n S (S.1 17 x.toNatClampNeg x2.toNatClampNeg)  hc31) (cwV 1 (g_hts K) gX7_someRootHolds_X7_isHeld rfl rfl rfl (by decide +kernel) ⟨Nat.le_of_ble_eq_true rfl, Nat.le_of_ble_eq_true rfl⟩) ⟨g_blind rides_none, g_recv K hw 0 rfl (by decide : 0 < 1) rfl rfl, g_pre (X2 := fun _ _ => True) K hw (fun _ _ _ => trivial)⟩ rfl rfl hl.1 rfl (lv_room (Nat.le_of_ble_eq_true rfl)) dX7_someRootHolds_36 ⟨Nat.le_of_ble_eq_true rfl, Nat.le_of_ble_eq_true rfl⟩) (fun r u H locs hp hw => ?_)
      obtain ⟨rfl, hu⟩ := hp
      rw [hu] at hw
      refine lv_if_eq (tgt := 44) hx hb dX7_someRootHolds_39 (by decide) (fun c33 => ?_) (fun c33 => ?_)
      · replace hm := (if_pos c33).symm.trans hm
        obtain ⟨x34, hx34, hm⟩ := nm_ex hm
        refine lv_iinc (v := x34) (lv' := [(3, .int x34), (4, .ref (ad 11 x.toNatClampNeg)), (0, .ref (ad 0 0)), (1, .int x1), (2, .int x2)]) hx hb dX7_someRootHolds_44 hl (k := 4) rfl (by rw [hx34]; rfl) (by decide) rfl (fun ls hl => ?_)
        refine lv_goto (tgt := 2) hx hb dX7_someRootHolds_47 (by decide) ?_
        obtain rfl := Option.some.inj hm
        exact hg H locs hw ls (lv_sub hl [2, 3, 4, 0] rfl)
      · replace hm := (if_neg c33).symm.trans hm
        obtain rfl := Option.some.inj hm
        exact hE0 _ hg.symm H locs hw ls (lv_sub hl [] rfl)
set_option maxRecDepth 100000 in
set_option maxHeartbeats 4000000 in
theorem t_X7_someRootHolds_0 (K : Cx p s m args meth c D A (tysC cy) RX7 cX7_someRootHolds 5 (some .boolean) wsX7_someRootHolds (fun _ _ => True)) (n : Nat) (S : CSt) (x1 : Int32) (x2 : Int32)  {out : Int32} (hm : m_X7_someRootHolds n S x1 x2 = some out) : ∀ (H : Heap) (locs : List Loc), Wd D A s.heap (GC cy ad S) H locs → ∀ ls : Array Slot, lv_has ls 5 [(0, .ref (ad 0 0)), (1, .int x1), (2, .int x2)] → W p l e rm_X7_someRootHolds s m args below meth c H locs 0 0 (MQ below (va_Qi (fun r (u : CSt) => out = r ∧ u = S) (fun u => Pst D (tysC cy) A (GC cy ad u)) A) args s 0 0 A) (F0 m 0 ls []) := by
  intro H locs hw ls hl
  obtain ⟨hx, hb, hml, hown, hts, hr, hlo, hK, hA, hX⟩ := id K
  unfold m_X7_someRootHolds at hm
  refine lv_iconst (v := 0) hx hb dX7_someRootHolds_0 (by decide) ?_
  refine lv_istore_n (lv' := [(3, .int 0), (0, .ref (ad 0 0)), (1, .int x1), (2, .int x2)]) hx hb dX7_someRootHolds_1 rfl hl (by decide) rfl (fun ls hl => ?_)
  obtain ⟨z35, hz36, hm⟩ := bindS hm
  refine t_X7_someRootHolds_L2 K n S x1 x2 z35 (fun w37 hww37 => ?_) (fun w38 hww38 => ?_) (0) hz36 H locs hw ls (lv_sub hl [1, 2, 3, 0] rfl)
  · intro H locs hw ls hl 
    subst hww37
    replace hm := (sumL _ _ _).symm.trans hm
    refine lv_iconst (v := 1) hx hb dX7_someRootHolds_42 (by decide) ?_
    exact g_zret (GG := GC cy ad) K hw rfl ⟨(Option.some.inj hm).symm, rfl⟩ dX7_someRootHolds_43
  · intro H locs hw ls hl 
    subst hww38
    replace hm := (sumR _ _ _).symm.trans hm
    refine lv_iconst (v := 0) hx hb dX7_someRootHolds_50 (by decide) ?_
    exact g_zret (GG := GC cy ad) K hw rfl ⟨(Option.some.inj hm).symm, rfl⟩ dX7_someRootHolds_51
set_option maxRecDepth 100000 in
set_option maxHeartbeats 4000000 in
theorem c_X7_someRootHolds (l : Launch) (D : va_G) (cy : Nat → ClassId) (ad : Nat → Nat → Nat) (sz n : Nat) (S : CSt) (x1 : Int32) (x2 : Int32)  {out : Int32} (hm : m_X7_someRootHolds n S x1 x2 = some out) : Met l yX7_someRootHolds wsX7_someRootHolds rm_X7_someRootHolds (va_Pc [.ref (ad 0 0), .int x1, .int x2] (Pre D (tysC cy) (GC cy ad S) (fun _ _ => True) sz)) (va_Qi (fun r (u : CSt) => out = r ∧ u = S) (fun u => Pst D (tysC cy) (AA (adrs (GC cy ad S)) sz) (GC cy ad u)) (AA (adrs (GC cy ad S)) sz)) 0 0 (AA (adrs (GC cy ad S)) sz) := by
  refine g_met (by decide) rfl (Nat.le_of_ble_eq_true rfl) ?_
  intro p e s m args below meth c K hw ls hl
  exact t_X7_someRootHolds_0 (cy := cy) K n S x1 x2  hm _ _ hw ls hl
end W_X7_someRootHolds
section W_X4_appendAll
variable {p : Program} {l : Launch} {e : Env} {s : State} {m : MethodId} {args : Array Value} {below : List Frame} {meth : Method} {c : Code} {D : va_G} {A : Nat → Prop} {cy : Nat → ClassId} {ad : Nat → Nat → Nat} {Q : State → Prop}
abbrev rm_X4_appendAll : Room := { frames := 1, cells := 0, slots := 0, locals := 24 }
theorem in_X4_appendAll_X4 : ∀ w ∈ u_ws RX4 TX4 6, w ∈ wsX4_appendAll := by decide +kernel
set_option maxRecDepth 100000 in
set_option maxHeartbeats 4000000 in
theorem t_X4_appendAll_L2 (K : Cx p s m args meth c D A (tysC cy) RX4 cX4_appendAll 3 none wsX4_appendAll (fun _ _ => True)) (n : Nat) (x0 : Nat) (x1 : Nat) (hb_x0 : x0 < 9) (hb_x1 : x1 < 9) (z : CSt) (hE0 : ∀ w : CSt, z = w → ∀ (H : Heap) (locs : List Loc), Wd D A s.heap (GC cy ad w) H locs → ∀ ls : Array Slot, lv_has ls 3 [] → W p l e rm_X4_appendAll s m args below meth c H locs 0 0 Q (F0 m 44 ls [])) : ∀ (x : (CSt × Int32)), lpO (b_X4_appendAll_2 n x0 x1) n x = some z → (fun (x : (CSt × Int32)) => ∀ (H : Heap) (locs : List Loc), Wd D A s.heap (GC cy ad x.1) H locs → ∀ ls : Array Slot, lv_has ls 3 [(0, .ref (ad 3 x0)), (1, .ref (ad 3 x1)), (2, .int x.2)] → W p l e rm_X4_appendAll s m args below meth c H locs 0 0 Q (F0 m 2 ls [])) x := by
  intro x hx0
  refine lpO_ind2 (P := fun (x : (CSt × Int32)) => ∀ (H : Heap) (locs : List Loc), Wd D A s.heap (GC cy ad x.1) H locs → ∀ ls : Array Slot, lv_has ls 3 [(0, .ref (ad 3 x0)), (1, .ref (ad 3 x1)), (2, .int x.2)] → W p l e rm_X4_appendAll s m args below meth c H locs 0 0 Q (F0 m 2 ls [])) (z := z) ?_ n x hx0
  clear hx0 x
  intro x out hm hg H locs hw ls hl 
  obtain ⟨hx, hb, hml, hown, hts, hr, hlo, hK, hA, hX⟩ := id K
  unfold b_X4_appendAll_2 at hm
  refine lv_iload_n hx hb dX4_appendAll_2 rfl (lv_at hl 2 rfl) ?_
  refine lv_aload_n hx hb dX4_appendAll_3 rfl (lv_at hl 1 rfl) ?_
  refine g_get (ref := "MigrantHeap$Shape") (C := RX4) (T := TX4) (N := 6) (ci := 4) K in_X4_appendAll_X4 hw 3 rfl hb_x1 rfl rfl 0 (by decide) (List.mem_of_getElem? (i := 1) rfl) rfl rfl dX4_appendAll_4 ?_
  refine lv_icmp_ge (tgt := 44) hx hb dX4_appendAll_7 (by decide) (fun c22 => ?_) (fun c22 => ?_)
  · replace hm := (if_pos c22).symm.trans hm
    obtain rfl := Option.some.inj hm
    exact hE0 _ hg.symm H locs hw ls (lv_sub hl [] rfl)
  · replace hm := (if_neg c22).symm.trans hm
    refine lv_aload_n hx hb dX4_appendAll_10 rfl (lv_at hl 0 rfl) ?_
    refine lv_aload_n hx hb dX4_appendAll_11 rfl (lv_at hl 1 rfl) ?_
    refine g_get (ref := "MigrantHeap$Shape") (C := RX4) (T := TX4) (N := 6) (ci := 4) K in_X4_appendAll_X4 hw 3 rfl hb_x1 rfl rfl 1 (by decide) (List.mem_of_getElem? (i := 2) rfl) rfl rfl dX4_appendAll_12 ?_
    refine lv_iload_n hx hb dX4_appendAll_15 rfl (lv_at hl 2 rfl) ?_
    obtain ⟨h23, hm⟩ := chkS hm
    refine g_iald K hw 4 0 rfl hb_x1 rfl rfl h23 dX4_appendAll_16 ?_
    refine lv_aload_n hx hb dX4_appendAll_17 rfl (lv_at hl 1 rfl) ?_
    refine g_get (ref := "MigrantHeap$Shape") (C := RX4) (T := TX4) (N := 6) (ci := 4) K in_X4_appendAll_X4 hw 3 rfl hb_x1 rfl rfl 2 (by decide) (List.mem_of_getElem? (i := 3) rfl) rfl rfl dX4_appendAll_18 ?_
    refine lv_iload_n hx hb dX4_appendAll_21 rfl (lv_at hl 2 rfl) ?_
    obtain ⟨h24, hm⟩ := chkS hm
    refine g_iald K hw 5 0 rfl hb_x1 rfl rfl h24 dX4_appendAll_22 ?_
    refine lv_aload_n hx hb dX4_appendAll_23 rfl (lv_at hl 1 rfl) ?_
    refine g_get (ref := "MigrantHeap$Shape") (C := RX4) (T := TX4) (N := 6) (ci := 4) K in_X4_appendAll_X4 hw 3 rfl hb_x1 rfl rfl 3 (by decide) (List.mem_of_getElem? (i := 4) rfl) rfl rfl dX4_appendAll_24 ?_
    refine lv_iload_n hx hb dX4_appendAll_27 rfl (lv_at hl 2 rfl) ?_
    obtain ⟨h25, hm⟩ := chkS hm
    refine g_iald K hw 6 0 rfl hb_x1 rfl rfl h25 dX4_appendAll_28 ?_
    refine lv_aload_n hx hb dX4_appendAll_29 rfl (lv_at hl 1 rfl) ?_
    refine g_get (ref := "MigrantHeap$Shape") (C := RX4) (T := TX4) (N := 6) (ci := 4) K in_X4_appendAll_X4 hw 3 rfl hb_x1 rfl rfl 4 (by decide) (List.mem_of_getElem? (i := 5) rfl) rfl rfl dX4_appendAll_30 ?_
    refine lv_iload_n hx hb dX4_appendAll_33 rfl (lv_at hl 2 rfl) ?_
    obtain ⟨h26, hm⟩ := chkS hm
    refine g_iald K hw 7 0 rfl hb_x1 rfl rfl h26 dX4_appendAll_34 ?_
    obtain ⟨z28, hc27, hm⟩ := bindS hm
    refine g_callv (GG := GC cy ad) K hw (va_runV (As := [.int (x.1.1 6 x1 x.2.toNatClampNeg), .int (x.1.1 7 x1 x.2.toNatClampNeg), .int (x.1.1 8 x1 x.2.toNatClampNeg), .int (x.1.1 9 x1 x.2.toNatClampNeg)]) (rest := []) (g_fix K) (c_X4_append l D cy ad H.size n x.1 x0 (x.1.1 6 x1 x.2.toNatClampNeg) (x.1.1 7 x1 x.2.toNatClampNeg) (x.1.1 8 x1 x.2.toNatClampNeg) (x.1.1 9 x1 x.2.toNatClampNeg) hb_x0 hc27) (cwV 4 (g_hts K) gX4_appendAll_X4_append rfl rfl rfl (by decide +kernel) ⟨Nat.le_of_ble_eq_true rfl, Nat.le_of_ble_eq_true rfl⟩) ⟨g_blind rides_none, g_recv K hw 3 rfl hb_x0 rfl rfl, g_pre (X2 := fun _ _ => True) K hw (fun _ _ _ => trivial)⟩ rfl rfl hl.1 rfl (lv_room (Nat.le_of_ble_eq_true rfl)) dX4_appendAll_35 ⟨Nat.le_of_ble_eq_true rfl, Nat.le_of_ble_eq_true rfl⟩) (fun u H locs hp hw => ?_)
    obtain rfl := hp
    obtain ⟨x29, hx29, hm⟩ := nm_ex hm
    refine lv_iinc (v := x29) (lv' := [(2, .int x29), (0, .ref (ad 3 x0)), (1, .ref (ad 3 x1))]) hx hb dX4_appendAll_38 hl (k := 2) rfl (by rw [hx29]; rfl) (by decide) rfl (fun ls hl => ?_)
    refine lv_goto (tgt := 2) hx hb dX4_appendAll_41 (by decide) ?_
    obtain rfl := Option.some.inj hm
    exact hg H locs hw ls (lv_sub hl [1, 2, 0] rfl)
set_option maxRecDepth 100000 in
set_option maxHeartbeats 4000000 in
theorem t_X4_appendAll_0 (K : Cx p s m args meth c D A (tysC cy) RX4 cX4_appendAll 3 none wsX4_appendAll (fun _ _ => True)) (n : Nat) (S : CSt) (x0 : Nat) (x1 : Nat) (hb_x0 : x0 < 9) (hb_x1 : x1 < 9) {out : CSt} (hm : m_X4_appendAll n S x0 x1 = some out) : ∀ (H : Heap) (locs : List Loc), Wd D A s.heap (GC cy ad S) H locs → ∀ ls : Array Slot, lv_has ls 3 [(0, .ref (ad 3 x0)), (1, .ref (ad 3 x1))] → W p l e rm_X4_appendAll s m args below meth c H locs 0 0 (MQ below (va_Qv (fun (u : CSt) => out = u) (fun u => Pst D (tysC cy) A (GC cy ad u)) A) args s 0 0 A) (F0 m 0 ls []) := by
  intro H locs hw ls hl
  obtain ⟨hx, hb, hml, hown, hts, hr, hlo, hK, hA, hX⟩ := id K
  unfold m_X4_appendAll at hm
  refine lv_iconst (v := 0) hx hb dX4_appendAll_0 (by decide) ?_
  refine lv_istore_n (lv' := [(2, .int 0), (0, .ref (ad 3 x0)), (1, .ref (ad 3 x1))]) hx hb dX4_appendAll_1 rfl hl (by decide) rfl (fun ls hl => ?_)
  obtain ⟨z30, hz31, hm⟩ := bindS hm
  refine t_X4_appendAll_L2 K n x0 x1 hb_x0 hb_x1 z30 (fun w32 hww32 => ?_) ((S, 0)) hz31 H locs hw ls (lv_sub hl [1, 2, 0] rfl)
  · intro H locs hw ls hl 
    try rw [hww32] at hm
    exact g_vret (GG := GC cy ad) K hw (Option.some.inj hm).symm dX4_appendAll_44
set_option maxRecDepth 100000 in
set_option maxHeartbeats 4000000 in
theorem c_X4_appendAll (l : Launch) (D : va_G) (cy : Nat → ClassId) (ad : Nat → Nat → Nat) (sz n : Nat) (S : CSt) (x0 : Nat) (x1 : Nat) (hb_x0 : x0 < 9) (hb_x1 : x1 < 9) {out : CSt} (hm : m_X4_appendAll n S x0 x1 = some out) : Met l yX4_appendAll wsX4_appendAll rm_X4_appendAll (va_Pc [.ref (ad 3 x0), .ref (ad 3 x1)] (Pre D (tysC cy) (GC cy ad S) (fun _ _ => True) sz)) (va_Qv (fun (u : CSt) => out = u) (fun u => Pst D (tysC cy) (AA (adrs (GC cy ad S)) sz) (GC cy ad u)) (AA (adrs (GC cy ad S)) sz)) 0 0 (AA (adrs (GC cy ad S)) sz) := by
  refine g_met (by decide) rfl (Nat.le_of_ble_eq_true rfl) ?_
  intro p e s m args below meth c K hw ls hl
  exact t_X4_appendAll_0 (cy := cy) K n S x0 x1 hb_x0 hb_x1 hm _ _ hw ls hl
end W_X4_appendAll
section W_X4_copyFrom
variable {p : Program} {l : Launch} {e : Env} {s : State} {m : MethodId} {args : Array Value} {below : List Frame} {meth : Method} {c : Code} {D : va_G} {A : Nat → Prop} {cy : Nat → ClassId} {ad : Nat → Nat → Nat} {Q : State → Prop}
abbrev rm_X4_copyFrom : Room := { frames := 2, cells := 0, slots := 0, locals := 46 }
theorem in_X4_copyFrom_X4 : ∀ w ∈ u_ws RX4 TX4 6, w ∈ wsX4_copyFrom := by decide +kernel
set_option maxRecDepth 100000 in
set_option maxHeartbeats 4000000 in
theorem t_X4_copyFrom_0 (K : Cx p s m args meth c D A (tysC cy) RX4 cX4_copyFrom 2 none wsX4_copyFrom (fun _ _ => True)) (n : Nat) (S : CSt) (x0 : Nat) (x1 : Nat) (hb_x0 : x0 < 9) (hb_x1 : x1 < 9) {out : CSt} (hm : m_X4_copyFrom n S x0 x1 = some out) : ∀ (H : Heap) (locs : List Loc), Wd D A s.heap (GC cy ad S) H locs → ∀ ls : Array Slot, lv_has ls 2 [(0, .ref (ad 3 x0)), (1, .ref (ad 3 x1))] → W p l e rm_X4_copyFrom s m args below meth c H locs 0 0 (MQ below (va_Qv (fun (u : CSt) => out = u) (fun u => Pst D (tysC cy) A (GC cy ad u)) A) args s 0 0 A) (F0 m 0 ls []) := by
  intro H locs hw ls hl
  obtain ⟨hx, hb, hml, hown, hts, hr, hlo, hK, hA, hX⟩ := id K
  unfold m_X4_copyFrom at hm
  refine lv_aload_n hx hb dX4_copyFrom_0 rfl (lv_at hl 0 rfl) ?_
  refine lv_iconst (v := 0) hx hb dX4_copyFrom_1 (by decide) ?_
  refine g_put (v := .int 0) (ty := .int) (ref := "MigrantHeap$Shape") (C := RX4) (T := TX4) (N := 6) (ci := 4) K in_X4_copyFrom_X4 tyX4 tyX4_ok nmX4 hw 3 rfl hb_x0 rfl rfl 0 (by decide) (List.mem_of_getElem? (i := 1) rfl) rfl rfl (by decide +kernel) rfl rfl (Nat.le_of_ble_eq_true rfl) dX4_copyFrom_2 (eC_5 cy ad S x0 0) (fun H locs hw => ?_)
  obtain ⟨S7, hS7, hm⟩ := nm_ex hm
  rw [← hS7] at hw
  refine lv_aload_n hx hb dX4_copyFrom_5 rfl (lv_at hl 0 rfl) ?_
  refine lv_aload_n hx hb dX4_copyFrom_6 rfl (lv_at hl 1 rfl) ?_
  obtain ⟨z9, hc8, hm⟩ := bindS hm
  refine g_callv (GG := GC cy ad) K hw (va_runV (As := [.ref (ad 3 x1)]) (rest := []) (g_fix K) (c_X4_appendAll l D cy ad H.size n S7 x0 x1 hb_x0 hb_x1 hc8) (cwV 1 (g_hts K) gX4_copyFrom_X4_appendAll rfl rfl rfl (by decide +kernel) ⟨Nat.le_of_ble_eq_true rfl, Nat.le_of_ble_eq_true rfl⟩) ⟨g_blind rides_none, g_recv K hw 3 rfl hb_x0 rfl rfl, g_pre (X2 := fun _ _ => True) K hw (fun _ _ _ => trivial)⟩ rfl rfl hl.1 rfl (lv_room (Nat.le_of_ble_eq_true rfl)) dX4_copyFrom_7 ⟨Nat.le_of_ble_eq_true rfl, Nat.le_of_ble_eq_true rfl⟩) (fun u H locs hp hw => ?_)
  obtain rfl := hp
  exact g_vret (GG := GC cy ad) K hw (Option.some.inj hm).symm dX4_copyFrom_10
set_option maxRecDepth 100000 in
set_option maxHeartbeats 4000000 in
theorem c_X4_copyFrom (l : Launch) (D : va_G) (cy : Nat → ClassId) (ad : Nat → Nat → Nat) (sz n : Nat) (S : CSt) (x0 : Nat) (x1 : Nat) (hb_x0 : x0 < 9) (hb_x1 : x1 < 9) {out : CSt} (hm : m_X4_copyFrom n S x0 x1 = some out) : Met l yX4_copyFrom wsX4_copyFrom rm_X4_copyFrom (va_Pc [.ref (ad 3 x0), .ref (ad 3 x1)] (Pre D (tysC cy) (GC cy ad S) (fun _ _ => True) sz)) (va_Qv (fun (u : CSt) => out = u) (fun u => Pst D (tysC cy) (AA (adrs (GC cy ad S)) sz) (GC cy ad u)) (AA (adrs (GC cy ad S)) sz)) 0 0 (AA (adrs (GC cy ad S)) sz) := by
  refine g_met (by decide) rfl (Nat.le_of_ble_eq_true rfl) ?_
  intro p e s m args below meth c K hw ls hl
  exact t_X4_copyFrom_0 (cy := cy) K n S x0 x1 hb_x0 hb_x1 hm _ _ hw ls hl
end W_X4_copyFrom
section W_X4_startFrom
variable {p : Program} {l : Launch} {e : Env} {s : State} {m : MethodId} {args : Array Value} {below : List Frame} {meth : Method} {c : Code} {D : va_G} {A : Nat → Prop} {cy : Nat → ClassId} {ad : Nat → Nat → Nat} {Q : State → Prop}
abbrev rm_X4_startFrom : Room := { frames := 3, cells := 0, slots := 0, locals := 67 }
theorem in_X4_startFrom_X4 : ∀ w ∈ u_ws RX4 TX4 6, w ∈ wsX4_startFrom := by decide +kernel
set_option maxRecDepth 100000 in
set_option maxHeartbeats 4000000 in
theorem t_X4_startFrom_L7 (K : Cx p s m args meth c D A (tysC cy) RX4 cX4_startFrom 3 none wsX4_startFrom (fun _ _ => True)) (n : Nat) (x0 : Nat) (hb_x0 : x0 < 9) (z : CSt) (hE0 : ∀ w : CSt, z = w → ∀ (H : Heap) (locs : List Loc), Wd D A s.heap (GC cy ad w) H locs → ∀ ls : Array Slot, lv_has ls 3 [] → W p l e rm_X4_startFrom s m args below meth c H locs 0 0 Q (F0 m 28 ls [])) : ∀ (x : (CSt × Int32)), lpO (b_X4_startFrom_7 n x0) n x = some z → (fun (x : (CSt × Int32)) => ∀ (H : Heap) (locs : List Loc), Wd D A s.heap (GC cy ad x.1) H locs → ∀ ls : Array Slot, lv_has ls 3 [(0, .ref (ad 3 x0)), (2, .int x.2)] → W p l e rm_X4_startFrom s m args below meth c H locs 0 0 Q (F0 m 7 ls [])) x := by
  intro x hx0
  refine lpO_ind2 (P := fun (x : (CSt × Int32)) => ∀ (H : Heap) (locs : List Loc), Wd D A s.heap (GC cy ad x.1) H locs → ∀ ls : Array Slot, lv_has ls 3 [(0, .ref (ad 3 x0)), (2, .int x.2)] → W p l e rm_X4_startFrom s m args below meth c H locs 0 0 Q (F0 m 7 ls [])) (z := z) ?_ n x hx0
  clear hx0 x
  intro x out hm hg H locs hw ls hl 
  obtain ⟨hx, hb, hml, hown, hts, hr, hlo, hK, hA, hX⟩ := id K
  unfold b_X4_startFrom_7 at hm
  refine lv_iload_n hx hb dX4_startFrom_7 rfl (lv_at hl 1 rfl) ?_
  refine lv_aload_n hx hb dX4_startFrom_8 rfl (lv_at hl 0 rfl) ?_
  refine g_get (ref := "MigrantHeap$Shape") (C := RX4) (T := TX4) (N := 6) (ci := 4) K in_X4_startFrom_X4 hw 3 rfl hb_x0 rfl rfl 0 (by decide) (List.mem_of_getElem? (i := 1) rfl) rfl rfl dX4_startFrom_9 ?_
  refine lv_icmp_ge (tgt := 28) hx hb dX4_startFrom_12 (by decide) (fun c16 => ?_) (fun c16 => ?_)
  · replace hm := (if_pos c16).symm.trans hm
    obtain rfl := Option.some.inj hm
    exact hE0 _ hg.symm H locs hw ls (lv_sub hl [] rfl)
  · replace hm := (if_neg c16).symm.trans hm
    refine lv_aload_n hx hb dX4_startFrom_15 rfl (lv_at hl 0 rfl) ?_
    refine g_get (ref := "MigrantHeap$Shape") (C := RX4) (T := TX4) (N := 6) (ci := 4) K in_X4_startFrom_X4 hw 3 rfl hb_x0 rfl rfl 5 (by decide) (List.mem_of_getElem? (i := 2) rfl) rfl rfl dX4_startFrom_16 ?_
    refine lv_iload_n hx hb dX4_startFrom_19 rfl (lv_at hl 1 rfl) ?_
    refine lv_iload_n hx hb dX4_startFrom_20 rfl (lv_at hl 1 rfl) ?_
    obtain ⟨h17, hm⟩ := chkS hm
    refine g_iast K hw 8 0 rfl hb_x0 rfl rfl h17 dX4_startFrom_21 (eC_10 cy ad x.1 x0 x.2.toNatClampNeg x.2) (fun H locs hw => ?_)
    obtain ⟨S18, hS18, hm⟩ := nm_ex hm
    rw [← hS18] at hw
    obtain ⟨x19, hx19, hm⟩ := nm_ex hm
    refine lv_iinc (v := x19) (lv' := [(2, .int x19), (0, .ref (ad 3 x0))]) hx hb dX4_startFrom_22 hl (k := 1) rfl (by rw [hx19]; rfl) (by decide) rfl (fun ls hl => ?_)
    refine lv_goto (tgt := 7) hx hb dX4_startFrom_25 (by decide) ?_
    obtain rfl := Option.some.inj hm
    exact hg H locs hw ls (lv_sub hl [1, 0] rfl)
set_option maxRecDepth 100000 in
set_option maxHeartbeats 4000000 in
theorem t_X4_startFrom_0 (K : Cx p s m args meth c D A (tysC cy) RX4 cX4_startFrom 3 none wsX4_startFrom (fun _ _ => True)) (n : Nat) (S : CSt) (x0 : Nat) (x1 : Nat) (hb_x0 : x0 < 9) (hb_x1 : x1 < 9) {out : CSt} (hm : m_X4_startFrom n S x0 x1 = some out) : ∀ (H : Heap) (locs : List Loc), Wd D A s.heap (GC cy ad S) H locs → ∀ ls : Array Slot, lv_has ls 3 [(0, .ref (ad 3 x0)), (1, .ref (ad 3 x1))] → W p l e rm_X4_startFrom s m args below meth c H locs 0 0 (MQ below (va_Qv (fun (u : CSt) => out = u) (fun u => Pst D (tysC cy) A (GC cy ad u)) A) args s 0 0 A) (F0 m 0 ls []) := by
  intro H locs hw ls hl
  obtain ⟨hx, hb, hml, hown, hts, hr, hlo, hK, hA, hX⟩ := id K
  unfold m_X4_startFrom at hm
  refine lv_aload_n hx hb dX4_startFrom_0 rfl (lv_at hl 0 rfl) ?_
  refine lv_aload_n hx hb dX4_startFrom_1 rfl (lv_at hl 1 rfl) ?_
  obtain ⟨z21, hc20, hm⟩ := bindS hm
  refine g_callv (GG := GC cy ad) K hw (va_runV (As := [.ref (ad 3 x1)]) (rest := []) (g_fix K) (c_X4_copyFrom l D cy ad H.size n S x0 x1 hb_x0 hb_x1 hc20) (cwV 1 (g_hts K) gX4_startFrom_X4_copyFrom rfl rfl rfl (by decide +kernel) ⟨Nat.le_of_ble_eq_true rfl, Nat.le_of_ble_eq_true rfl⟩) ⟨g_blind rides_none, g_recv K hw 3 rfl hb_x0 rfl rfl, g_pre (X2 := fun _ _ => True) K hw (fun _ _ _ => trivial)⟩ rfl rfl hl.1 rfl (lv_room (Nat.le_of_ble_eq_true rfl)) dX4_startFrom_2 ⟨Nat.le_of_ble_eq_true rfl, Nat.le_of_ble_eq_true rfl⟩) (fun u H locs hp hw => ?_)
  obtain rfl := hp
  refine lv_iconst (v := 0) hx hb dX4_startFrom_5 (by decide) ?_
  refine lv_istore_n (lv' := [(2, .int 0), (0, .ref (ad 3 x0)), (1, .ref (ad 3 x1))]) hx hb dX4_startFrom_6 rfl hl (by decide) rfl (fun ls hl => ?_)
  obtain ⟨z22, hz23, hm⟩ := bindS hm
  refine t_X4_startFrom_L7 K n x0 hb_x0 z22 (fun w24 hww24 => ?_) ((z21, 0)) hz23 H locs hw ls (lv_sub hl [1, 0] rfl)
  · intro H locs hw ls hl 
    try rw [hww24] at hm
    exact g_vret (GG := GC cy ad) K hw (Option.some.inj hm).symm dX4_startFrom_28
set_option maxRecDepth 100000 in
set_option maxHeartbeats 4000000 in
theorem c_X4_startFrom (l : Launch) (D : va_G) (cy : Nat → ClassId) (ad : Nat → Nat → Nat) (sz n : Nat) (S : CSt) (x0 : Nat) (x1 : Nat) (hb_x0 : x0 < 9) (hb_x1 : x1 < 9) {out : CSt} (hm : m_X4_startFrom n S x0 x1 = some out) : Met l yX4_startFrom wsX4_startFrom rm_X4_startFrom (va_Pc [.ref (ad 3 x0), .ref (ad 3 x1)] (Pre D (tysC cy) (GC cy ad S) (fun _ _ => True) sz)) (va_Qv (fun (u : CSt) => out = u) (fun u => Pst D (tysC cy) (AA (adrs (GC cy ad S)) sz) (GC cy ad u)) (AA (adrs (GC cy ad S)) sz)) 0 0 (AA (adrs (GC cy ad S)) sz) := by
  refine g_met (by decide) rfl (Nat.le_of_ble_eq_true rfl) ?_
  intro p e s m args below meth c K hw ls hl
  exact t_X4_startFrom_0 (cy := cy) K n S x0 x1 hb_x0 hb_x1 hm _ _ hw ls hl
end W_X4_startFrom
section W_X7_canJoin
variable {p : Program} {l : Launch} {e : Env} {s : State} {m : MethodId} {args : Array Value} {below : List Frame} {meth : Method} {c : Code} {D : va_G} {A : Nat → Prop} {cy : Nat → ClassId} {ad : Nat → Nat → Nat} {Q : State → Prop}
abbrev rm_X7_canJoin : Room := { frames := 1, cells := 0, slots := 0, locals := 22 }
theorem in_X7_canJoin_X4 : ∀ w ∈ u_ws RX4 TX4 6, w ∈ wsX7_canJoin := by decide +kernel
theorem in_X7_canJoin_X7 : ∀ w ∈ u_ws RX7 TX7 11, w ∈ wsX7_canJoin := by decide +kernel
set_option maxRecDepth 100000 in
set_option maxHeartbeats 4000000 in
theorem t_X7_canJoin_L30 (K : Cx p s m args meth c D A (tysC cy) RX7 cX7_canJoin 5 (some .boolean) wsX7_canJoin (fun _ _ => True)) (n : Nat) (S : CSt) (x1 : Int32) (x2 : Nat) (hb_x2 : x2 < 9) (z : (Unit ⊕ Unit)) (hE0 : ∀ w : Unit, z = .inl w → ∀ (H : Heap) (locs : List Loc), Wd D A s.heap (GC cy ad S) H locs → ∀ ls : Array Slot, lv_has ls 5 [] → W p l e rm_X7_canJoin s m args below meth c H locs 0 0 Q (F0 m 65 ls [])) (hE1 : ∀ w : Unit, z = .inr w → ∀ (H : Heap) (locs : List Loc), Wd D A s.heap (GC cy ad S) H locs → ∀ ls : Array Slot, lv_has ls 5 [] → W p l e rm_X7_canJoin s m args below meth c H locs 0 0 Q (F0 m 73 ls [])) : ∀ (x : Int32), lpO (b_X7_canJoin_30 n S x1 x2) n x = some z → (fun (x : Int32) => ∀ (H : Heap) (locs : List Loc), Wd D A s.heap (GC cy ad S) H locs → ∀ ls : Array Slot, lv_has ls 5 [(0, .ref (ad 0 0)), (1, .int x1), (2, .ref (ad 3 x2)), (3, .int x)] → W p l e rm_X7_canJoin s m args below meth c H locs 0 0 Q (F0 m 30 ls [])) x := by
  intro x hx0
  refine lpO_ind2 (P := fun (x : Int32) => ∀ (H : Heap) (locs : List Loc), Wd D A s.heap (GC cy ad S) H locs → ∀ ls : Array Slot, lv_has ls 5 [(0, .ref (ad 0 0)), (1, .int x1), (2, .ref (ad 3 x2)), (3, .int x)] → W p l e rm_X7_canJoin s m args below meth c H locs 0 0 Q (F0 m 30 ls [])) (z := z) ?_ n x hx0
  clear hx0 x
  intro x out hm hg H locs hw ls hl 
  obtain ⟨hx, hb, hml, hown, hts, hr, hlo, hK, hA, hX⟩ := id K
  unfold b_X7_canJoin_30 at hm
  refine lv_iload_n hx hb dX7_canJoin_30 rfl (lv_at hl 3 rfl) ?_
  refine lv_aload_n hx hb dX7_canJoin_31 rfl (lv_at hl 2 rfl) ?_
  refine g_get (ref := "MigrantHeap$Shape") (C := RX4) (T := TX4) (N := 6) (ci := 4) K in_X7_canJoin_X4 hw 3 rfl hb_x2 rfl rfl 0 (by decide) (List.mem_of_getElem? (i := 2) rfl) rfl rfl dX7_canJoin_32 ?_
  refine lv_icmp_ge (tgt := 73) hx hb dX7_canJoin_35 (by decide) (fun c21 => ?_) (fun c21 => ?_)
  · replace hm := (if_pos c21).symm.trans hm
    obtain rfl := Option.some.inj hm
    exact hE1 _ hg.symm H locs hw ls (lv_sub hl [] rfl)
  · replace hm := (if_neg c21).symm.trans hm
    refine lv_aload_n hx hb dX7_canJoin_38 rfl (lv_at hl 0 rfl) ?_
    refine g_get (ref := "MigrantHeap") (C := RX7) (T := TX7) (N := 11) (ci := 7) K in_X7_canJoin_X7 hw 0 rfl (by decide : 0 < 1) rfl rfl 8 (by decide) (List.mem_of_getElem? (i := 1) rfl) rfl rfl dX7_canJoin_39 ?_
    refine lv_aload_n hx hb dX7_canJoin_42 rfl (lv_at hl 2 rfl) ?_
    refine g_get (ref := "MigrantHeap$Shape") (C := RX4) (T := TX4) (N := 6) (ci := 4) K in_X7_canJoin_X4 hw 3 rfl hb_x2 rfl rfl 1 (by decide) (List.mem_of_getElem? (i := 3) rfl) rfl rfl dX7_canJoin_43 ?_
    refine lv_iload_n hx hb dX7_canJoin_46 rfl (lv_at hl 3 rfl) ?_
    obtain ⟨h22, hm⟩ := chkS hm
    refine g_iald K hw 4 0 rfl hb_x2 rfl rfl h22 dX7_canJoin_47 ?_
    obtain ⟨z24, hc23, hm⟩ := bindS hm
    refine g_calli (GG := GC cy ad) K hw (va_runV (As := [.int (S.1 6 x2 x.toNatClampNeg)]) (rest := []) (g_fix K) (c_X4_placeOf l D cy ad H.size n S 8 (S.1 6 x2 x.toNatClampNeg) (by decide : 8 < 9) hc23) (cwV 1 (g_hts K) gX7_canJoin_X4_placeOf rfl rfl rfl (by decide +kernel) ⟨Nat.le_of_ble_eq_true rfl, Nat.le_of_ble_eq_true rfl⟩) ⟨g_blind rides_none, g_recv K hw 3 rfl (by decide : 8 < 9) rfl rfl, g_pre (X2 := fun _ _ => True) K hw (fun _ _ _ => trivial)⟩ rfl rfl hl.1 rfl (lv_room (Nat.le_of_ble_eq_true rfl)) dX7_canJoin_48 ⟨Nat.le_of_ble_eq_true rfl, Nat.le_of_ble_eq_true rfl⟩) (fun r u H locs hp hw => ?_)
    obtain ⟨rfl, hu⟩ := hp
    rw [hu] at hw
    refine lv_istore (lv' := [(4, .int z24), (0, .ref (ad 0 0)), (1, .int x1), (2, .ref (ad 3 x2)), (3, .int x)]) hx hb dX7_canJoin_51 hl (by decide) rfl (fun ls hl => ?_)
    refine lv_iload hx hb dX7_canJoin_53 (lv_at hl 0 rfl) ?_
    refine lv_iconst (v := (-1)) hx hb dX7_canJoin_55 (by decide) ?_
    refine lv_icmp_eq (tgt := 67) hx hb dX7_canJoin_56 (by decide) (fun c25 => ?_) (fun c25 => ?_)
    · replace hm := (if_pos c25).symm.trans hm
      obtain ⟨x26, hx26, hm⟩ := nm_ex hm
      refine lv_iinc (v := x26) (lv' := [(3, .int x26), (4, .int z24), (0, .ref (ad 0 0)), (1, .int x1), (2, .ref (ad 3 x2))]) hx hb dX7_canJoin_67 hl (k := 4) rfl (by rw [hx26]; rfl) (by decide) rfl (fun ls hl => ?_)
      refine lv_goto (tgt := 30) hx hb dX7_canJoin_70 (by decide) ?_
      obtain rfl := Option.some.inj hm
      exact hg H locs hw ls (lv_sub hl [2, 3, 4, 0] rfl)
    · replace hm := (if_neg c25).symm.trans hm
      refine lv_iload hx hb dX7_canJoin_59 (lv_at hl 0 rfl) ?_
      refine lv_iload_n hx hb dX7_canJoin_61 rfl (lv_at hl 2 rfl) ?_
      refine lv_icmp_eq (tgt := 67) hx hb dX7_canJoin_62 (by decide) (fun c27 => ?_) (fun c27 => ?_)
      · replace hm := (if_pos c27).symm.trans hm
        obtain ⟨x28, hx28, hm⟩ := nm_ex hm
        refine lv_iinc (v := x28) (lv' := [(3, .int x28), (4, .int z24), (0, .ref (ad 0 0)), (1, .int x1), (2, .ref (ad 3 x2))]) hx hb dX7_canJoin_67 hl (k := 4) rfl (by rw [hx28]; rfl) (by decide) rfl (fun ls hl => ?_)
        refine lv_goto (tgt := 30) hx hb dX7_canJoin_70 (by decide) ?_
        obtain rfl := Option.some.inj hm
        exact hg H locs hw ls (lv_sub hl [2, 3, 4, 0] rfl)
      · replace hm := (if_neg c27).symm.trans hm
        obtain rfl := Option.some.inj hm
        exact hE0 _ hg.symm H locs hw ls (lv_sub hl [] rfl)
set_option maxRecDepth 100000 in
set_option maxHeartbeats 4000000 in
theorem t_X7_canJoin_0 (K : Cx p s m args meth c D A (tysC cy) RX7 cX7_canJoin 5 (some .boolean) wsX7_canJoin (fun _ _ => True)) (n : Nat) (S : CSt) (x1 : Int32) (x2 : Nat) (hb_x2 : x2 < 9) {out : Int32} (hm : m_X7_canJoin n S x1 x2 = some out) : ∀ (H : Heap) (locs : List Loc), Wd D A s.heap (GC cy ad S) H locs → ∀ ls : Array Slot, lv_has ls 5 [(0, .ref (ad 0 0)), (1, .int x1), (2, .ref (ad 3 x2))] → W p l e rm_X7_canJoin s m args below meth c H locs 0 0 (MQ below (va_Qi (fun r (u : CSt) => out = r ∧ u = S) (fun u => Pst D (tysC cy) A (GC cy ad u)) A) args s 0 0 A) (F0 m 0 ls []) := by
  intro H locs hw ls hl
  obtain ⟨hx, hb, hml, hown, hts, hr, hlo, hK, hA, hX⟩ := id K
  unfold m_X7_canJoin at hm
  refine lv_aload_n hx hb dX7_canJoin_0 rfl (lv_at hl 2 rfl) ?_
  obtain ⟨z30, hc29, hm⟩ := bindS hm
  refine g_calli (GG := GC cy ad) K hw (va_runV (As := []) (rest := []) (g_fix K) (c_X4_hasReferences l D cy ad H.size n S x2 hb_x2 hc29) (cwV 0 (g_hts K) gX7_canJoin_X4_hasReferences rfl rfl rfl (by decide +kernel) ⟨Nat.le_of_ble_eq_true rfl, Nat.le_of_ble_eq_true rfl⟩) ⟨g_blind rides_none, g_recv K hw 3 rfl hb_x2 rfl rfl, g_pre (X2 := fun _ _ => True) K hw (fun _ _ _ => trivial)⟩ rfl rfl hl.1 rfl (lv_room (Nat.le_of_ble_eq_true rfl)) dX7_canJoin_1 ⟨Nat.le_of_ble_eq_true rfl, Nat.le_of_ble_eq_true rfl⟩) (fun r u H locs hp hw => ?_)
  obtain ⟨rfl, hu⟩ := hp
  rw [hu] at hw
  refine lv_if_ne (tgt := 26) hx hb dX7_canJoin_4 (by decide) (fun c31 => ?_) (fun c31 => ?_)
  · replace hm := (if_pos c31).symm.trans hm
    refine lv_iconst (v := 0) hx hb dX7_canJoin_26 (by decide) ?_
    exact g_zret (GG := GC cy ad) K hw rfl ⟨(Option.some.inj hm).symm, rfl⟩ dX7_canJoin_27
  · replace hm := (if_neg (fun h => h c31)).symm.trans hm
    refine lv_aload_n hx hb dX7_canJoin_7 rfl (lv_at hl 0 rfl) ?_
    refine g_get (ref := "MigrantHeap") (C := RX7) (T := TX7) (N := 11) (ci := 7) K in_X7_canJoin_X7 hw 0 rfl (by decide : 0 < 1) rfl rfl 8 (by decide) (List.mem_of_getElem? (i := 1) rfl) rfl rfl dX7_canJoin_8 ?_
    refine g_get (ref := "MigrantHeap$Shape") (C := RX4) (T := TX4) (N := 6) (ci := 4) K in_X7_canJoin_X4 hw 3 rfl (by decide : 8 < 9) rfl rfl 0 (by decide) (List.mem_of_getElem? (i := 2) rfl) rfl rfl dX7_canJoin_11 ?_
    refine lv_iconst (v := 1) hx hb dX7_canJoin_14 (by decide) ?_
    refine lv_isub hx hb dX7_canJoin_15 ?_
    refine lv_aload_n hx hb dX7_canJoin_16 rfl (lv_at hl 2 rfl) ?_
    refine g_get (ref := "MigrantHeap$Shape") (C := RX4) (T := TX4) (N := 6) (ci := 4) K in_X7_canJoin_X4 hw 3 rfl hb_x2 rfl rfl 0 (by decide) (List.mem_of_getElem? (i := 2) rfl) rfl rfl dX7_canJoin_17 ?_
    refine lv_iadd hx hb dX7_canJoin_20 ?_
    refine lv_bipush (v := 6) hx hb dX7_canJoin_21 (by decide) ?_
    refine lv_icmp_le (tgt := 28) hx hb dX7_canJoin_23 (by decide) (fun c32 => ?_) (fun c32 => ?_)
    · replace hm := (if_pos c32).symm.trans hm
      refine lv_iconst (v := 0) hx hb dX7_canJoin_28 (by decide) ?_
      refine lv_istore_n (lv' := [(3, .int 0), (0, .ref (ad 0 0)), (1, .int x1), (2, .ref (ad 3 x2))]) hx hb dX7_canJoin_29 rfl hl (by decide) rfl (fun ls hl => ?_)
      obtain ⟨z33, hz34, hm⟩ := bindS hm
      refine t_X7_canJoin_L30 K n S x1 x2 hb_x2 z33 (fun w35 hww35 => ?_) (fun w36 hww36 => ?_) (0) hz34 H locs hw ls (lv_sub hl [1, 2, 3, 0] rfl)
      · intro H locs hw ls hl 
        subst hww35
        replace hm := (sumL _ _ _).symm.trans hm
        refine lv_iconst (v := 0) hx hb dX7_canJoin_65 (by decide) ?_
        exact g_zret (GG := GC cy ad) K hw rfl ⟨(Option.some.inj hm).symm, rfl⟩ dX7_canJoin_66
      · intro H locs hw ls hl 
        subst hww36
        replace hm := (sumR _ _ _).symm.trans hm
        refine lv_iconst (v := 1) hx hb dX7_canJoin_73 (by decide) ?_
        exact g_zret (GG := GC cy ad) K hw rfl ⟨(Option.some.inj hm).symm, rfl⟩ dX7_canJoin_74
    · replace hm := (if_neg c32).symm.trans hm
      refine lv_iconst (v := 0) hx hb dX7_canJoin_26 (by decide) ?_
      exact g_zret (GG := GC cy ad) K hw rfl ⟨(Option.some.inj hm).symm, rfl⟩ dX7_canJoin_27
set_option maxRecDepth 100000 in
set_option maxHeartbeats 4000000 in
theorem c_X7_canJoin (l : Launch) (D : va_G) (cy : Nat → ClassId) (ad : Nat → Nat → Nat) (sz n : Nat) (S : CSt) (x1 : Int32) (x2 : Nat) (hb_x2 : x2 < 9) {out : Int32} (hm : m_X7_canJoin n S x1 x2 = some out) : Met l yX7_canJoin wsX7_canJoin rm_X7_canJoin (va_Pc [.ref (ad 0 0), .int x1, .ref (ad 3 x2)] (Pre D (tysC cy) (GC cy ad S) (fun _ _ => True) sz)) (va_Qi (fun r (u : CSt) => out = r ∧ u = S) (fun u => Pst D (tysC cy) (AA (adrs (GC cy ad S)) sz) (GC cy ad u)) (AA (adrs (GC cy ad S)) sz)) 0 0 (AA (adrs (GC cy ad S)) sz) := by
  refine g_met (by decide) rfl (Nat.le_of_ble_eq_true rfl) ?_
  intro p e s m args below meth c K hw ls hl
  exact t_X7_canJoin_0 (cy := cy) K n S x1 x2 hb_x2 hm _ _ hw ls hl
end W_X7_canJoin
section W_X7_canSplit
variable {p : Program} {l : Launch} {e : Env} {s : State} {m : MethodId} {args : Array Value} {below : List Frame} {meth : Method} {c : Code} {D : va_G} {A : Nat → Prop} {cy : Nat → ClassId} {ad : Nat → Nat → Nat} {Q : State → Prop}
abbrev rm_X7_canSplit : Room := { frames := 2, cells := 0, slots := 0, locals := 44 }
theorem in_X7_canSplit_X4 : ∀ w ∈ u_ws RX4 TX4 6, w ∈ wsX7_canSplit := by decide +kernel
theorem in_X7_canSplit_X5 : ∀ w ∈ u_ws RX5 TX5 6, w ∈ wsX7_canSplit := by decide +kernel
theorem in_X7_canSplit_X7 : ∀ w ∈ u_ws RX7 TX7 11, w ∈ wsX7_canSplit := by decide +kernel
set_option maxRecDepth 100000 in
set_option maxHeartbeats 4000000 in
theorem t_X7_canSplit_J123 (K : Cx p s m args meth c D A (tysC cy) RX7 cX7_canSplit 5 (some .boolean) wsX7_canSplit (fun _ _ => True)) (n : Nat) (S : CSt) (x2 : Nat) (y0 : Int32) {out : Int32} (hm : m_X7_canSplit_J123 n S x2 y0 = some out) : ∀ (H : Heap) (locs : List Loc), Wd D A s.heap (GC cy ad S) H locs → ∀ ls : Array Slot, lv_has ls 5 [(0, .ref (ad 0 0)), (2, .ref (ad 3 x2))] → (x2 < 9) → W p l e rm_X7_canSplit s m args below meth c H locs 0 0 (MQ below (va_Qi (fun r (u : CSt) => out = r ∧ u = S) (fun u => Pst D (tysC cy) A (GC cy ad u)) A) args s 0 0 A) (F0 m 123 ls [.int y0]) := by
  intro H locs hw ls hl hb_x2
  obtain ⟨hx, hb, hml, hown, hts, hr, hlo, hK, hA, hX⟩ := id K
  unfold m_X7_canSplit_J123 at hm
  refine lv_istore_n (lv' := [(3, .int y0), (0, .ref (ad 0 0)), (2, .ref (ad 3 x2))]) hx hb dX7_canSplit_123 rfl hl (by decide) rfl (fun ls hl => ?_)
  refine lv_iload_n hx hb dX7_canSplit_124 rfl (lv_at hl 0 rfl) ?_
  refine lv_if_ne (tgt := 149) hx hb dX7_canSplit_125 (by decide) (fun c55 => ?_) (fun c55 => ?_)
  · replace hm := (if_pos c55).symm.trans hm
    refine lv_iconst (v := 0) hx hb dX7_canSplit_149 (by decide) ?_
    exact g_zret (GG := GC cy ad) K hw rfl ⟨(Option.some.inj hm).symm, rfl⟩ dX7_canSplit_150
  · replace hm := (if_neg (fun h => h c55)).symm.trans hm
    refine lv_aload_n hx hb dX7_canSplit_128 rfl (lv_at hl 1 rfl) ?_
    refine g_get (ref := "MigrantHeap") (C := RX7) (T := TX7) (N := 11) (ci := 7) K in_X7_canSplit_X7 hw 0 rfl (by decide : 0 < 1) rfl rfl 8 (by decide) (List.mem_of_getElem? (i := 3) rfl) rfl rfl dX7_canSplit_129 ?_
    refine g_get (ref := "MigrantHeap$Shape") (C := RX4) (T := TX4) (N := 6) (ci := 4) K in_X7_canSplit_X4 hw 3 rfl (by decide : 8 < 9) rfl rfl 0 (by decide) (List.mem_of_getElem? (i := 2) rfl) rfl rfl dX7_canSplit_132 ?_
    refine lv_aload_n hx hb dX7_canSplit_135 rfl (lv_at hl 2 rfl) ?_
    refine g_get (ref := "MigrantHeap$Shape") (C := RX4) (T := TX4) (N := 6) (ci := 4) K in_X7_canSplit_X4 hw 3 rfl hb_x2 rfl rfl 0 (by decide) (List.mem_of_getElem? (i := 2) rfl) rfl rfl dX7_canSplit_136 ?_
    refine lv_isub hx hb dX7_canSplit_139 ?_
    refine lv_bipush (v := 6) hx hb dX7_canSplit_140 (by decide) ?_
    refine lv_icmp_ge (tgt := 149) hx hb dX7_canSplit_142 (by decide) (fun c56 => ?_) (fun c56 => ?_)
    · replace hm := (if_pos c56).symm.trans hm
      refine lv_iconst (v := 0) hx hb dX7_canSplit_149 (by decide) ?_
      exact g_zret (GG := GC cy ad) K hw rfl ⟨(Option.some.inj hm).symm, rfl⟩ dX7_canSplit_150
    · replace hm := (if_neg c56).symm.trans hm
      refine lv_iconst (v := 1) hx hb dX7_canSplit_145 (by decide) ?_
      refine lv_goto (tgt := 150) hx hb dX7_canSplit_146 (by decide) ?_
      exact g_zret (GG := GC cy ad) K hw rfl ⟨(Option.some.inj hm).symm, rfl⟩ dX7_canSplit_150
set_option maxRecDepth 100000 in
set_option maxHeartbeats 4000000 in
theorem t_X7_canSplit_J122 (K : Cx p s m args meth c D A (tysC cy) RX7 cX7_canSplit 5 (some .boolean) wsX7_canSplit (fun _ _ => True)) (n : Nat) (S : CSt) (x2 : Nat) {out : Int32} (hm : m_X7_canSplit_J122 n S x2 = some out) : ∀ (H : Heap) (locs : List Loc), Wd D A s.heap (GC cy ad S) H locs → ∀ ls : Array Slot, lv_has ls 5 [(0, .ref (ad 0 0)), (2, .ref (ad 3 x2))] → (x2 < 9) → W p l e rm_X7_canSplit s m args below meth c H locs 0 0 (MQ below (va_Qi (fun r (u : CSt) => out = r ∧ u = S) (fun u => Pst D (tysC cy) A (GC cy ad u)) A) args s 0 0 A) (F0 m 122 ls []) := by
  intro H locs hw ls hl hb_x2
  obtain ⟨hx, hb, hml, hown, hts, hr, hlo, hK, hA, hX⟩ := id K
  unfold m_X7_canSplit_J122 at hm
  refine lv_iconst (v := 0) hx hb dX7_canSplit_122 (by decide) ?_
  exact t_X7_canSplit_J123 K n S x2 0 hm H locs hw ls (lv_sub hl [0, 1] rfl) hb_x2
set_option maxRecDepth 100000 in
set_option maxHeartbeats 4000000 in
theorem t_X7_canSplit_L22 (K : Cx p s m args meth c D A (tysC cy) RX7 cX7_canSplit 5 (some .boolean) wsX7_canSplit (fun _ _ => True)) (n : Nat) (S : CSt) (x1 : Nat) (x2 : Nat) (hb_x1 : x1 < 6) (hb_x2 : x2 < 9) (z : (Unit ⊕ Unit)) (hE0 : ∀ w : Unit, z = .inl w → ∀ (H : Heap) (locs : List Loc), Wd D A s.heap (GC cy ad S) H locs → ∀ ls : Array Slot, lv_has ls 5 [] → W p l e rm_X7_canSplit s m args below meth c H locs 0 0 Q (F0 m 81 ls [])) (hE1 : ∀ w : Unit, z = .inr w → ∀ (H : Heap) (locs : List Loc), Wd D A s.heap (GC cy ad S) H locs → ∀ ls : Array Slot, lv_has ls 5 [(0, .ref (ad 0 0)), (1, .ref (ad 18 x1)), (2, .ref (ad 3 x2))] → W p l e rm_X7_canSplit s m args below meth c H locs 0 0 Q (F0 m 89 ls [])) : ∀ (x : Int32), lpO (b_X7_canSplit_22 n S x1 x2) n x = some z → (fun (x : Int32) => ∀ (H : Heap) (locs : List Loc), Wd D A s.heap (GC cy ad S) H locs → ∀ ls : Array Slot, lv_has ls 5 [(0, .ref (ad 0 0)), (1, .ref (ad 18 x1)), (2, .ref (ad 3 x2)), (3, .int x)] → W p l e rm_X7_canSplit s m args below meth c H locs 0 0 Q (F0 m 22 ls [])) x := by
  intro x hx0
  refine lpO_ind2 (P := fun (x : Int32) => ∀ (H : Heap) (locs : List Loc), Wd D A s.heap (GC cy ad S) H locs → ∀ ls : Array Slot, lv_has ls 5 [(0, .ref (ad 0 0)), (1, .ref (ad 18 x1)), (2, .ref (ad 3 x2)), (3, .int x)] → W p l e rm_X7_canSplit s m args below meth c H locs 0 0 Q (F0 m 22 ls [])) (z := z) ?_ n x hx0
  clear hx0 x
  intro x out hm hg H locs hw ls hl 
  obtain ⟨hx, hb, hml, hown, hts, hr, hlo, hK, hA, hX⟩ := id K
  unfold b_X7_canSplit_22 at hm
  refine lv_iload_n hx hb dX7_canSplit_22 rfl (lv_at hl 3 rfl) ?_
  refine lv_aload_n hx hb dX7_canSplit_23 rfl (lv_at hl 2 rfl) ?_
  refine g_get (ref := "MigrantHeap$Shape") (C := RX4) (T := TX4) (N := 6) (ci := 4) K in_X7_canSplit_X4 hw 3 rfl hb_x2 rfl rfl 0 (by decide) (List.mem_of_getElem? (i := 2) rfl) rfl rfl dX7_canSplit_24 ?_
  refine lv_icmp_ge (tgt := 89) hx hb dX7_canSplit_27 (by decide) (fun c57 => ?_) (fun c57 => ?_)
  · replace hm := (if_pos c57).symm.trans hm
    obtain rfl := Option.some.inj hm
    exact hE1 _ hg.symm H locs hw ls (lv_sub hl [0, 1, 2] rfl)
  · replace hm := (if_neg c57).symm.trans hm
    refine lv_aload_n hx hb dX7_canSplit_30 rfl (lv_at hl 0 rfl) ?_
    refine g_get (ref := "MigrantHeap") (C := RX7) (T := TX7) (N := 11) (ci := 7) K in_X7_canSplit_X7 hw 0 rfl (by decide : 0 < 1) rfl rfl 8 (by decide) (List.mem_of_getElem? (i := 3) rfl) rfl rfl dX7_canSplit_31 ?_
    refine lv_aload_n hx hb dX7_canSplit_34 rfl (lv_at hl 2 rfl) ?_
    refine g_get (ref := "MigrantHeap$Shape") (C := RX4) (T := TX4) (N := 6) (ci := 4) K in_X7_canSplit_X4 hw 3 rfl hb_x2 rfl rfl 1 (by decide) (List.mem_of_getElem? (i := 4) rfl) rfl rfl dX7_canSplit_35 ?_
    refine lv_iload_n hx hb dX7_canSplit_38 rfl (lv_at hl 3 rfl) ?_
    obtain ⟨h58, hm⟩ := chkS hm
    refine g_iald K hw 4 0 rfl hb_x2 rfl rfl h58 dX7_canSplit_39 ?_
    obtain ⟨z60, hc59, hm⟩ := bindS hm
    refine g_calli (GG := GC cy ad) K hw (va_runV (As := [.int (S.1 6 x2 x.toNatClampNeg)]) (rest := []) (g_fix K) (c_X4_placeOf l D cy ad H.size n S 8 (S.1 6 x2 x.toNatClampNeg) (by decide : 8 < 9) hc59) (cwV 1 (g_hts K) gX7_canSplit_X4_placeOf rfl rfl rfl (by decide +kernel) ⟨Nat.le_of_ble_eq_true rfl, Nat.le_of_ble_eq_true rfl⟩) ⟨g_blind rides_none, g_recv K hw 3 rfl (by decide : 8 < 9) rfl rfl, g_pre (X2 := fun _ _ => True) K hw (fun _ _ _ => trivial)⟩ rfl rfl hl.1 rfl (lv_room (Nat.le_of_ble_eq_true rfl)) dX7_canSplit_40 ⟨Nat.le_of_ble_eq_true rfl, Nat.le_of_ble_eq_true rfl⟩) (fun r u H locs hp hw => ?_)
    obtain ⟨rfl, hu⟩ := hp
    rw [hu] at hw
    refine lv_istore (lv' := [(4, .int z60), (0, .ref (ad 0 0)), (1, .ref (ad 18 x1)), (2, .ref (ad 3 x2)), (3, .int x)]) hx hb dX7_canSplit_43 hl (by decide) rfl (fun ls hl => ?_)
    refine lv_aload_n hx hb dX7_canSplit_45 rfl (lv_at hl 1 rfl) ?_
    refine g_get (ref := "MigrantHeap") (C := RX7) (T := TX7) (N := 11) (ci := 7) K in_X7_canSplit_X7 hw 0 rfl (by decide : 0 < 1) rfl rfl 8 (by decide) (List.mem_of_getElem? (i := 3) rfl) rfl rfl dX7_canSplit_46 ?_
    refine lv_iload hx hb dX7_canSplit_49 (lv_at hl 0 rfl) ?_
    obtain ⟨z62, hc61, hm⟩ := bindS hm
    refine g_calli (GG := GC cy ad) K hw (va_runV (As := [.int z60]) (rest := []) (g_fix K) (c_X4_isNumber l D cy ad H.size n S 8 z60 (by decide : 8 < 9) hc61) (cwV 1 (g_hts K) gX7_canSplit_X4_isNumber rfl rfl rfl (by decide +kernel) ⟨Nat.le_of_ble_eq_true rfl, Nat.le_of_ble_eq_true rfl⟩) ⟨g_blind rides_none, g_recv K hw 3 rfl (by decide : 8 < 9) rfl rfl, g_pre (X2 := fun _ _ => True) K hw (fun _ _ _ => trivial)⟩ rfl rfl hl.1 rfl (lv_room (Nat.le_of_ble_eq_true rfl)) dX7_canSplit_51 ⟨Nat.le_of_ble_eq_true rfl, Nat.le_of_ble_eq_true rfl⟩) (fun r u H locs hp hw => ?_)
    obtain ⟨rfl, hu⟩ := hp
    rw [hu] at hw
    refine lv_if_eq (tgt := 81) hx hb dX7_canSplit_54 (by decide) (fun c63 => ?_) (fun c63 => ?_)
    · replace hm := (if_pos c63).symm.trans hm
      obtain rfl := Option.some.inj hm
      exact hE0 _ hg.symm H locs hw ls (lv_sub hl [] rfl)
    · replace hm := (if_neg c63).symm.trans hm
      refine lv_aload_n hx hb dX7_canSplit_57 rfl (lv_at hl 1 rfl) ?_
      refine g_get (ref := "MigrantHeap") (C := RX7) (T := TX7) (N := 11) (ci := 7) K in_X7_canSplit_X7 hw 0 rfl (by decide : 0 < 1) rfl rfl 8 (by decide) (List.mem_of_getElem? (i := 3) rfl) rfl rfl dX7_canSplit_58 ?_
      refine lv_iload hx hb dX7_canSplit_61 (lv_at hl 0 rfl) ?_
      refine lv_aload_n hx hb dX7_canSplit_63 rfl (lv_at hl 3 rfl) ?_
      refine g_get (ref := "MigrantHeap$Shape") (C := RX4) (T := TX4) (N := 6) (ci := 4) K in_X7_canSplit_X4 hw 3 rfl hb_x2 rfl rfl 3 (by decide) (List.mem_of_getElem? (i := 5) rfl) rfl rfl dX7_canSplit_64 ?_
      refine lv_iload_n hx hb dX7_canSplit_67 rfl (lv_at hl 4 rfl) ?_
      obtain ⟨h64, hm⟩ := chkS hm
      refine g_iald K hw 6 0 rfl hb_x2 rfl rfl h64 dX7_canSplit_68 ?_
      refine lv_aload_n hx hb dX7_canSplit_69 rfl (lv_at hl 3 rfl) ?_
      refine g_get (ref := "MigrantHeap$Shape") (C := RX4) (T := TX4) (N := 6) (ci := 4) K in_X7_canSplit_X4 hw 3 rfl hb_x2 rfl rfl 4 (by decide) (List.mem_of_getElem? (i := 6) rfl) rfl rfl dX7_canSplit_70 ?_
      refine lv_iload_n hx hb dX7_canSplit_73 rfl (lv_at hl 4 rfl) ?_
      obtain ⟨h65, hm⟩ := chkS hm
      refine g_iald K hw 7 0 rfl hb_x2 rfl rfl h65 dX7_canSplit_74 ?_
      obtain ⟨z67, hc66, hm⟩ := bindS hm
      refine g_calli (GG := GC cy ad) K hw (va_runV (As := [.int z60, .int (S.1 8 x2 x.toNatClampNeg), .int (S.1 9 x2 x.toNatClampNeg)]) (rest := []) (g_fix K) (c_X4_rangeIsWithin l D cy ad H.size n S 8 z60 (S.1 8 x2 x.toNatClampNeg) (S.1 9 x2 x.toNatClampNeg) (by decide : 8 < 9) hc66) (cwV 3 (g_hts K) gX7_canSplit_X4_rangeIsWithin rfl rfl rfl (by decide +kernel) ⟨Nat.le_of_ble_eq_true rfl, Nat.le_of_ble_eq_true rfl⟩) ⟨g_blind rides_none, g_recv K hw 3 rfl (by decide : 8 < 9) rfl rfl, g_pre (X2 := fun _ _ => True) K hw (fun _ _ _ => trivial)⟩ rfl rfl hl.1 rfl (lv_room (Nat.le_of_ble_eq_true rfl)) dX7_canSplit_75 ⟨Nat.le_of_ble_eq_true rfl, Nat.le_of_ble_eq_true rfl⟩) (fun r u H locs hp hw => ?_)
      obtain ⟨rfl, hu⟩ := hp
      rw [hu] at hw
      refine lv_if_ne (tgt := 83) hx hb dX7_canSplit_78 (by decide) (fun c68 => ?_) (fun c68 => ?_)
      · replace hm := (if_pos c68).symm.trans hm
        obtain ⟨x69, hx69, hm⟩ := nm_ex hm
        refine lv_iinc (v := x69) (lv' := [(3, .int x69), (4, .int z60), (0, .ref (ad 0 0)), (1, .ref (ad 18 x1)), (2, .ref (ad 3 x2))]) hx hb dX7_canSplit_83 hl (k := 4) rfl (by rw [hx69]; rfl) (by decide) rfl (fun ls hl => ?_)
        refine lv_goto (tgt := 22) hx hb dX7_canSplit_86 (by decide) ?_
        obtain rfl := Option.some.inj hm
        exact hg H locs hw ls (lv_sub hl [2, 3, 4, 0] rfl)
      · replace hm := (if_neg (fun h => h c68)).symm.trans hm
        obtain rfl := Option.some.inj hm
        exact hE0 _ hg.symm H locs hw ls (lv_sub hl [] rfl)
set_option maxRecDepth 100000 in
set_option maxHeartbeats 4000000 in
theorem t_X7_canSplit_0 (K : Cx p s m args meth c D A (tysC cy) RX7 cX7_canSplit 5 (some .boolean) wsX7_canSplit (fun _ _ => True)) (n : Nat) (S : CSt) (x1 : Nat) (x2 : Nat) (hb_x1 : x1 < 6) (hb_x2 : x2 < 9) {out : Int32} (hm : m_X7_canSplit n S x1 x2 = some out) : ∀ (H : Heap) (locs : List Loc), Wd D A s.heap (GC cy ad S) H locs → ∀ ls : Array Slot, lv_has ls 5 [(0, .ref (ad 0 0)), (1, .ref (ad 18 x1)), (2, .ref (ad 3 x2))] → W p l e rm_X7_canSplit s m args below meth c H locs 0 0 (MQ below (va_Qi (fun r (u : CSt) => out = r ∧ u = S) (fun u => Pst D (tysC cy) A (GC cy ad u)) A) args s 0 0 A) (F0 m 0 ls []) := by
  intro H locs hw ls hl
  obtain ⟨hx, hb, hml, hown, hts, hr, hlo, hK, hA, hX⟩ := id K
  unfold m_X7_canSplit at hm
  refine lv_aload_n hx hb dX7_canSplit_0 rfl (lv_at hl 2 rfl) ?_
  obtain ⟨z71, hc70, hm⟩ := bindS hm
  refine g_calli (GG := GC cy ad) K hw (va_runV (As := []) (rest := []) (g_fix K) (c_X4_hasReferences l D cy ad H.size n S x2 hb_x2 hc70) (cwV 0 (g_hts K) gX7_canSplit_X4_hasReferences rfl rfl rfl (by decide +kernel) ⟨Nat.le_of_ble_eq_true rfl, Nat.le_of_ble_eq_true rfl⟩) ⟨g_blind rides_none, g_recv K hw 3 rfl hb_x2 rfl rfl, g_pre (X2 := fun _ _ => True) K hw (fun _ _ _ => trivial)⟩ rfl rfl hl.1 rfl (lv_room (Nat.le_of_ble_eq_true rfl)) dX7_canSplit_1 ⟨Nat.le_of_ble_eq_true rfl, Nat.le_of_ble_eq_true rfl⟩) (fun r u H locs hp hw => ?_)
  obtain ⟨rfl, hu⟩ := hp
  rw [hu] at hw
  refine lv_if_ne (tgt := 18) hx hb dX7_canSplit_4 (by decide) (fun c72 => ?_) (fun c72 => ?_)
  · replace hm := (if_pos c72).symm.trans hm
    refine lv_iconst (v := 0) hx hb dX7_canSplit_18 (by decide) ?_
    exact g_zret (GG := GC cy ad) K hw rfl ⟨(Option.some.inj hm).symm, rfl⟩ dX7_canSplit_19
  · replace hm := (if_neg (fun h => h c72)).symm.trans hm
    refine lv_aload_n hx hb dX7_canSplit_7 rfl (lv_at hl 2 rfl) ?_
    obtain ⟨z74, hc73, hm⟩ := bindS hm
    refine g_calli (GG := GC cy ad) K hw (va_runV (As := []) (rest := []) (g_fix K) (c_X4_nameSet l D cy ad H.size n S x2 hb_x2 hc73) (cwV 0 (g_hts K) gX7_canSplit_X4_nameSet rfl rfl rfl (by decide +kernel) ⟨Nat.le_of_ble_eq_true rfl, Nat.le_of_ble_eq_true rfl⟩) ⟨g_blind rides_none, g_recv K hw 3 rfl hb_x2 rfl rfl, g_pre (X2 := fun _ _ => True) K hw (fun _ _ _ => trivial)⟩ rfl rfl hl.1 rfl (lv_room (Nat.le_of_ble_eq_true rfl)) dX7_canSplit_8 ⟨Nat.le_of_ble_eq_true rfl, Nat.le_of_ble_eq_true rfl⟩) (fun r u H locs hp hw => ?_)
    obtain ⟨rfl, hu⟩ := hp
    rw [hu] at hw
    refine lv_aload_n hx hb dX7_canSplit_11 rfl (lv_at hl 1 rfl) ?_
    refine g_get (ref := "MigrantHeap$Step") (C := RX5) (T := TX5) (N := 6) (ci := 5) K in_X7_canSplit_X5 hw 18 rfl hb_x1 rfl rfl 3 (by decide) (List.mem_of_getElem? (i := 1) rfl) rfl rfl dX7_canSplit_12 ?_
    refine lv_icmp_eq (tgt := 20) hx hb dX7_canSplit_15 (by decide) (fun c75 => ?_) (fun c75 => ?_)
    · replace hm := (if_pos c75).symm.trans hm
      refine lv_iconst (v := 0) hx hb dX7_canSplit_20 (by decide) ?_
      refine lv_istore_n (lv' := [(3, .int 0), (0, .ref (ad 0 0)), (1, .ref (ad 18 x1)), (2, .ref (ad 3 x2))]) hx hb dX7_canSplit_21 rfl hl (by decide) rfl (fun ls hl => ?_)
      obtain ⟨z76, hz77, hm⟩ := bindS hm
      refine t_X7_canSplit_L22 K n S x1 x2 hb_x1 hb_x2 z76 (fun w78 hww78 => ?_) (fun w79 hww79 => ?_) (0) hz77 H locs hw ls (lv_sub hl [1, 2, 3, 0] rfl)
      · intro H locs hw ls hl 
        subst hww78
        replace hm := (sumL _ _ _).symm.trans hm
        refine lv_iconst (v := 0) hx hb dX7_canSplit_81 (by decide) ?_
        exact g_zret (GG := GC cy ad) K hw rfl ⟨(Option.some.inj hm).symm, rfl⟩ dX7_canSplit_82
      · intro H locs hw ls hl 
        subst hww79
        replace hm := (sumR _ _ _).symm.trans hm
        refine lv_aload_n hx hb dX7_canSplit_89 rfl (lv_at hl 0 rfl) ?_
        refine g_get (ref := "MigrantHeap") (C := RX7) (T := TX7) (N := 11) (ci := 7) K in_X7_canSplit_X7 hw 0 rfl (by decide : 0 < 1) rfl rfl 8 (by decide) (List.mem_of_getElem? (i := 3) rfl) rfl rfl dX7_canSplit_90 ?_
        refine lv_aload_n hx hb dX7_canSplit_93 rfl (lv_at hl 1 rfl) ?_
        refine g_get (ref := "MigrantHeap$Step") (C := RX5) (T := TX5) (N := 6) (ci := 5) K in_X7_canSplit_X5 hw 18 rfl hb_x1 rfl rfl 1 (by decide) (List.mem_of_getElem? (i := 7) rfl) rfl rfl dX7_canSplit_94 ?_
        obtain ⟨z81, hc80, hm⟩ := bindS hm
        refine g_calli (GG := GC cy ad) K hw (va_runV (As := [.int (S.1 23 x1 0)]) (rest := []) (g_fix K) (c_X4_placeOf l D cy ad H.size n S 8 (S.1 23 x1 0) (by decide : 8 < 9) hc80) (cwV 1 (g_hts K) gX7_canSplit_X4_placeOf rfl rfl rfl (by decide +kernel) ⟨Nat.le_of_ble_eq_true rfl, Nat.le_of_ble_eq_true rfl⟩) ⟨g_blind rides_none, g_recv K hw 3 rfl (by decide : 8 < 9) rfl rfl, g_pre (X2 := fun _ _ => True) K hw (fun _ _ _ => trivial)⟩ rfl rfl hl.1 rfl (lv_room (Nat.le_of_ble_eq_true rfl)) dX7_canSplit_97 ⟨Nat.le_of_ble_eq_true rfl, Nat.le_of_ble_eq_true rfl⟩) (fun r u H locs hp hw => ?_)
        obtain ⟨rfl, hu⟩ := hp
        rw [hu] at hw
        refine lv_iconst (v := (-1)) hx hb dX7_canSplit_100 (by decide) ?_
        refine lv_icmp_eq (tgt := 122) hx hb dX7_canSplit_101 (by decide) (fun c82 => ?_) (fun c82 => ?_)
        · replace hm := (if_pos c82).symm.trans hm
          exact t_X7_canSplit_J122 K n S x2 hm H locs hw ls (lv_sub hl [0, 2] rfl) hb_x2
        · replace hm := (if_neg c82).symm.trans hm
          refine lv_aload_n hx hb dX7_canSplit_104 rfl (lv_at hl 1 rfl) ?_
          refine g_get (ref := "MigrantHeap$Step") (C := RX5) (T := TX5) (N := 6) (ci := 5) K in_X7_canSplit_X5 hw 18 rfl hb_x1 rfl rfl 1 (by decide) (List.mem_of_getElem? (i := 7) rfl) rfl rfl dX7_canSplit_105 ?_
          refine lv_aload_n hx hb dX7_canSplit_108 rfl (lv_at hl 1 rfl) ?_
          refine g_get (ref := "MigrantHeap$Step") (C := RX5) (T := TX5) (N := 6) (ci := 5) K in_X7_canSplit_X5 hw 18 rfl hb_x1 rfl rfl 3 (by decide) (List.mem_of_getElem? (i := 1) rfl) rfl rfl dX7_canSplit_109 ?_
          obtain ⟨z84, hc83, hm⟩ := bindS hm
          refine g_calli (GG := GC cy ad) K hw (va_runS (As := [.int (S.1 23 x1 0), .int (S.1 25 x1 0)]) (rest := []) (g_fix K) (c_X7_isIn l D cy ad H.size n S (S.1 23 x1 0) (S.1 25 x1 0)  hc83) (va_cwS 2 (g_hts K) gX7_canSplit_X7_isIn rfl rfl rfl (by decide +kernel) ⟨Nat.le_of_ble_eq_true rfl, Nat.le_of_ble_eq_true rfl⟩) ⟨g_blind rides_none, g_pre (X2 := fun _ _ => True) K hw (fun _ _ _ => trivial)⟩ rfl rfl hl.1 rfl (lv_room (Nat.le_of_ble_eq_true rfl)) dX7_canSplit_112 ⟨Nat.le_of_ble_eq_true rfl, Nat.le_of_ble_eq_true rfl⟩) (fun r u H locs hp hw => ?_)
          obtain ⟨rfl, hu⟩ := hp
          rw [hu] at hw
          refine lv_if_ne (tgt := 122) hx hb dX7_canSplit_115 (by decide) (fun c85 => ?_) (fun c85 => ?_)
          · replace hm := (if_pos c85).symm.trans hm
            exact t_X7_canSplit_J122 K n S x2 hm H locs hw ls (lv_sub hl [0, 2] rfl) hb_x2
          · replace hm := (if_neg (fun h => h c85)).symm.trans hm
            refine lv_iconst (v := 1) hx hb dX7_canSplit_118 (by decide) ?_
            refine lv_goto (tgt := 123) hx hb dX7_canSplit_119 (by decide) ?_
            exact t_X7_canSplit_J123 K n S x2 1 hm H locs hw ls (lv_sub hl [0, 2] rfl) hb_x2
    · replace hm := (if_neg c75).symm.trans hm
      refine lv_iconst (v := 0) hx hb dX7_canSplit_18 (by decide) ?_
      exact g_zret (GG := GC cy ad) K hw rfl ⟨(Option.some.inj hm).symm, rfl⟩ dX7_canSplit_19
set_option maxRecDepth 100000 in
set_option maxHeartbeats 4000000 in
theorem c_X7_canSplit (l : Launch) (D : va_G) (cy : Nat → ClassId) (ad : Nat → Nat → Nat) (sz n : Nat) (S : CSt) (x1 : Nat) (x2 : Nat) (hb_x1 : x1 < 6) (hb_x2 : x2 < 9) {out : Int32} (hm : m_X7_canSplit n S x1 x2 = some out) : Met l yX7_canSplit wsX7_canSplit rm_X7_canSplit (va_Pc [.ref (ad 0 0), .ref (ad 18 x1), .ref (ad 3 x2)] (Pre D (tysC cy) (GC cy ad S) (fun _ _ => True) sz)) (va_Qi (fun r (u : CSt) => out = r ∧ u = S) (fun u => Pst D (tysC cy) (AA (adrs (GC cy ad S)) sz) (GC cy ad u)) (AA (adrs (GC cy ad S)) sz)) 0 0 (AA (adrs (GC cy ad S)) sz) := by
  refine g_met (by decide) rfl (Nat.le_of_ble_eq_true rfl) ?_
  intro p e s m args below meth c K hw ls hl
  exact t_X7_canSplit_0 (cy := cy) K n S x1 x2 hb_x1 hb_x2 hm _ _ hw ls hl
end W_X7_canSplit
section W_X3_layField_nul
variable {p : Program} {l : Launch} {e : Env} {s : State} {m : MethodId} {args : Array Value} {below : List Frame} {meth : Method} {c : Code} {D : va_G} {A : Nat → Prop} {cy : Nat → ClassId} {ad : Nat → Nat → Nat} {Q : State → Prop}
abbrev rm_X3_layField_nul : Room := { frames := 2, cells := 0, slots := 0, locals := 42 }
theorem in_X3_layField_X4 : ∀ w ∈ u_ws RX4 TX4 6, w ∈ wsX3_layField := by decide +kernel
set_option maxRecDepth 100000 in
set_option maxHeartbeats 4000000 in
theorem t_X3_layField_nul_0 (K : Cx p s m args meth c D A (tysC cy) RX3 cX3_layField 4 (some .boolean) wsX3_layField (fun _ _ => True)) (n : Nat) (S : CSt) (x1 : Nat) (x2 : Int32) (hb_x1 : x1 < 9) {out : Int32 × CSt} (hm : m_X3_layField_nul n S x1 x2 = some out) : ∀ (H : Heap) (locs : List Loc), Wd D A s.heap (GC cy ad S) H locs → ∀ ls : Array Slot, lv_has ls 4 [(0, .ref (ad 19 0)), (1, .ref (ad 3 x1)), (2, .int x2), (3, .null)] → W p l e rm_X3_layField_nul s m args below meth c H locs 0 0 (MQ below (va_Qi (fun r (u : CSt) => out = (r, u)) (fun u => Pst D (tysC cy) A (GC cy ad u)) A) args s 0 0 A) (F0 m 0 ls []) := by
  intro H locs hw ls hl
  obtain ⟨hx, hb, hml, hown, hts, hr, hlo, hK, hA, hX⟩ := id K
  unfold m_X3_layField_nul at hm
  refine lv_aload_n hx hb dX3_layField_0 rfl (lv_at hl 1 rfl) ?_
  refine lv_iload_n hx hb dX3_layField_1 rfl (lv_at hl 2 rfl) ?_
  obtain ⟨z14, hc13, hm⟩ := bindS hm
  refine g_calli (GG := GC cy ad) K hw (va_runV (As := [.int x2]) (rest := []) (g_fix K) (c_X4_isNumber l D cy ad H.size n S x1 x2 hb_x1 hc13) (cwV 1 (g_hts K) gX3_layField_X4_isNumber rfl rfl rfl (by decide +kernel) ⟨Nat.le_of_ble_eq_true rfl, Nat.le_of_ble_eq_true rfl⟩) ⟨g_blind rides_none, g_recv K hw 3 rfl hb_x1 rfl rfl, g_pre (X2 := fun _ _ => True) K hw (fun _ _ _ => trivial)⟩ rfl rfl hl.1 rfl (lv_room (Nat.le_of_ble_eq_true rfl)) dX3_layField_2 ⟨Nat.le_of_ble_eq_true rfl, Nat.le_of_ble_eq_true rfl⟩) (fun r u H locs hp hw => ?_)
  obtain ⟨rfl, hu⟩ := hp
  rw [hu] at hw
  refine lv_if_ne (tgt := 10) hx hb dX3_layField_5 (by decide) (fun c15 => ?_) (fun c15 => ?_)
  · replace hm := (if_pos c15).symm.trans hm
    refine lv_aload_nN hx hb dX3_layField_10 rfl (lv_at hl 3 rfl) ?_
    refine lv_ifnonnullN hx hb dX3_layField_11 ?_
    refine lv_aload_n hx hb dX3_layField_14 rfl (lv_at hl 0 rfl) ?_
    refine lv_aload_n hx hb dX3_layField_15 rfl (lv_at hl 1 rfl) ?_
    refine g_get (ref := "MigrantHeap$Shape") (C := RX4) (T := TX4) (N := 6) (ci := 4) K in_X3_layField_X4 hw 3 rfl hb_x1 rfl rfl 3 (by decide) (List.mem_of_getElem? (i := 1) rfl) rfl rfl dX3_layField_16 ?_
    refine lv_iload_n hx hb dX3_layField_19 rfl (lv_at hl 2 rfl) ?_
    obtain ⟨h16, hm⟩ := chkS hm
    refine g_iald K hw 6 0 rfl hb_x1 rfl rfl h16 dX3_layField_20 ?_
    refine lv_i2l hx hb dX3_layField_21 rfl ?_
    refine lv_aload_n hx hb dX3_layField_22 rfl (lv_at hl 1 rfl) ?_
    refine g_get (ref := "MigrantHeap$Shape") (C := RX4) (T := TX4) (N := 6) (ci := 4) K in_X3_layField_X4 hw 3 rfl hb_x1 rfl rfl 4 (by decide) (List.mem_of_getElem? (i := 2) rfl) rfl rfl dX3_layField_23 ?_
    refine lv_iload_n hx hb dX3_layField_26 rfl (lv_at hl 2 rfl) ?_
    obtain ⟨h17, hm⟩ := chkS hm
    refine g_iald K hw 7 0 rfl hb_x1 rfl rfl h17 dX3_layField_27 ?_
    refine lv_i2l hx hb dX3_layField_28 rfl ?_
    obtain ⟨z19, hc18, hm⟩ := bindS hm
    refine g_calli (GG := GC cy ad) K hw (va_runV (As := [.long ((S.1 8 x1 x2.toNatClampNeg).toInt64), .long ((S.1 9 x1 x2.toNatClampNeg).toInt64)]) (rest := []) (g_fix K) (c_X3_lay l D cy ad H.size n S ((S.1 8 x1 x2.toNatClampNeg).toInt64) ((S.1 9 x1 x2.toNatClampNeg).toInt64)  hc18) (cwV 2 (g_hts K) gX3_layField_X3_lay rfl rfl rfl (by decide +kernel) ⟨Nat.le_of_ble_eq_true rfl, Nat.le_of_ble_eq_true rfl⟩) ⟨g_blind rides_none, g_recv K hw 19 rfl (by decide : 0 < 1) rfl rfl, g_pre (X2 := fun _ _ => True) K hw (fun _ _ _ => trivial)⟩ rfl rfl hl.1 rfl (lv_room (Nat.le_of_ble_eq_true rfl)) dX3_layField_29 ⟨Nat.le_of_ble_eq_true rfl, Nat.le_of_ble_eq_true rfl⟩) (fun r u H locs hp hw => ?_)
    obtain ⟨rfl, rfl⟩ : r = z19.1 ∧ u = z19.2 := by rw [hp]; exact ⟨rfl, rfl⟩
    obtain ⟨h20, hm⟩ := chkS hm
    exact g_zret (GG := GC cy ad) K hw h20 (Option.some.inj hm).symm dX3_layField_32
  · replace hm := (if_neg (fun h => h c15)).symm.trans hm
    refine lv_iconst (v := 0) hx hb dX3_layField_8 (by decide) ?_
    exact g_zret (GG := GC cy ad) K hw rfl (Option.some.inj hm).symm dX3_layField_9
set_option maxRecDepth 100000 in
set_option maxHeartbeats 4000000 in
theorem c_X3_layField_nul (l : Launch) (D : va_G) (cy : Nat → ClassId) (ad : Nat → Nat → Nat) (sz n : Nat) (S : CSt) (x1 : Nat) (x2 : Int32) (hb_x1 : x1 < 9) {out : Int32 × CSt} (hm : m_X3_layField_nul n S x1 x2 = some out) : Met l yX3_layField wsX3_layField rm_X3_layField_nul (va_Pc [.ref (ad 19 0), .ref (ad 3 x1), .int x2, .null] (Pre D (tysC cy) (GC cy ad S) (fun _ _ => True) sz)) (va_Qi (fun r (u : CSt) => out = (r, u)) (fun u => Pst D (tysC cy) (AA (adrs (GC cy ad S)) sz) (GC cy ad u)) (AA (adrs (GC cy ad S)) sz)) 0 0 (AA (adrs (GC cy ad S)) sz) := by
  refine g_met (by decide) rfl (Nat.le_of_ble_eq_true rfl) ?_
  intro p e s m args below meth c K hw ls hl
  exact t_X3_layField_nul_0 (cy := cy) K n S x1 x2 hb_x1 hm _ _ hw ls hl
end W_X3_layField_nul
