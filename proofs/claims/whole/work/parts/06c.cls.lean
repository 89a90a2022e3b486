section W_X4_removeAll
variable {p : Program} {l : Launch} {e : Env} {s : State} {m : MethodId} {args : Array Value} {below : List Frame} {meth : Method} {c : Code} {D : va_G} {A : Nat → Prop} {cy : Nat → ClassId} {ad : Nat → Nat → Nat} {Q : State → Prop}
abbrev rm_X4_removeAll : Room := { frames := 2, cells := 0, slots := 0, locals := 45 }
theorem in_X4_removeAll_X4 : ∀ w ∈ u_ws RX4 TX4 6, w ∈ wsX4_removeAll := by decide +kernel
set_option maxRecDepth 100000 in
set_option maxHeartbeats 4000000 in
theorem t_X4_removeAll_0 (K : Cx p s m args meth c D A (tysC cy) RX4 cX4_removeAll 2 none wsX4_removeAll EV) (n : Nat) (S : CSt) (x0 : Nat) (x1 : Int32) (hb_x0 : x0 < 9) {out : CSt} (hm : m_X4_removeAll n S x0 x1 = some out) : ∀ (H : Heap) (locs : List Loc), Wd D A s.heap (GC cy ad S) H locs → ∀ ls : Array Slot, lv_has ls 2 [(0, .ref (ad 3 x0)), (1, .int x1)] → W p l e rm_X4_removeAll s m args below meth c H locs 0 0 (MQ below (va_Qv (fun (u : CSt) => out = u) (fun u => Pst D (tysC cy) A (GC cy ad u)) A) args s 0 0 A) (F0 m 0 ls []) := by
  intro H locs hw ls hl
  obtain ⟨hx, hb, hml, hown, hts, hr, hlo, hK, hA, hX⟩ := id K
  unfold m_X4_removeAll at hm
  refine lv_aload_n hx hb dX4_removeAll_0 rfl (lv_at hl 0 rfl) ?_
  refine lv_aload_n hx hb dX4_removeAll_1 rfl (lv_at hl 0 rfl) ?_
  refine g_get (ref := "MigrantHeap$Shape") (C := RX4) (T := TX4) (N := 6) (ci := 4) K in_X4_removeAll_X4 hw 3 rfl hb_x0 rfl rfl 2 (by decide) (List.mem_of_getElem? (i := 1) rfl) rfl rfl dX4_removeAll_2 ?_
  refine lv_iload_n hx hb dX4_removeAll_5 rfl (lv_at hl 1 rfl) ?_
  obtain ⟨z24, hc23, hm⟩ := bindS hm
  refine g_calli (GG := GC cy ad) K hw (va_runV (As := [.ref (ad 5 x0), .int x1]) (rest := []) (g_fix K) (c_X4_squeeze_a7 l D cy ad H.size n S x0 x0 x1 hb_x0 hb_x0 hc23) (cwV 2 (g_hts K) gX4_removeAll_X4_squeeze rfl rfl rfl (by decide +kernel) ⟨Nat.le_of_ble_eq_true rfl, Nat.le_of_ble_eq_true rfl⟩) ⟨g_blind rides_EV, g_recv K hw 3 rfl hb_x0 rfl rfl, g_pre K hw (g_ride rides_EV K hw)⟩ rfl rfl hl.1 rfl (lv_room (Nat.le_of_ble_eq_true rfl)) dX4_removeAll_6 ⟨Nat.le_of_ble_eq_true rfl, Nat.le_of_ble_eq_true rfl⟩) (fun r u H locs hp hw => ?_)
  obtain ⟨rfl, rfl⟩ : r = z24.1 ∧ u = z24.2 := by rw [hp]; exact ⟨rfl, rfl⟩
  refine lv_pop hx hb dX4_removeAll_9 rfl ?_
  refine lv_aload_n hx hb dX4_removeAll_10 rfl (lv_at hl 0 rfl) ?_
  refine lv_aload_n hx hb dX4_removeAll_11 rfl (lv_at hl 0 rfl) ?_
  refine g_get (ref := "MigrantHeap$Shape") (C := RX4) (T := TX4) (N := 6) (ci := 4) K in_X4_removeAll_X4 hw 3 rfl hb_x0 rfl rfl 3 (by decide) (List.mem_of_getElem? (i := 2) rfl) rfl rfl dX4_removeAll_12 ?_
  refine lv_iload_n hx hb dX4_removeAll_15 rfl (lv_at hl 1 rfl) ?_
  obtain ⟨z26, hc25, hm⟩ := bindS hm
  refine g_calli (GG := GC cy ad) K hw (va_runV (As := [.ref (ad 6 x0), .int x1]) (rest := []) (g_fix K) (c_X4_squeeze_a8 l D cy ad H.size n z24.2 x0 x0 x1 hb_x0 hb_x0 hc25) (cwV 2 (g_hts K) gX4_removeAll_X4_squeeze rfl rfl rfl (by decide +kernel) ⟨Nat.le_of_ble_eq_true rfl, Nat.le_of_ble_eq_true rfl⟩) ⟨g_blind rides_EV, g_recv K hw 3 rfl hb_x0 rfl rfl, g_pre K hw (g_ride rides_EV K hw)⟩ rfl rfl hl.1 rfl (lv_room (Nat.le_of_ble_eq_true rfl)) dX4_removeAll_16 ⟨Nat.le_of_ble_eq_true rfl, Nat.le_of_ble_eq_true rfl⟩) (fun r u H locs hp hw => ?_)
  obtain ⟨rfl, rfl⟩ : r = z26.1 ∧ u = z26.2 := by rw [hp]; exact ⟨rfl, rfl⟩
  refine lv_pop hx hb dX4_removeAll_19 rfl ?_
  refine lv_aload_n hx hb dX4_removeAll_20 rfl (lv_at hl 0 rfl) ?_
  refine lv_aload_n hx hb dX4_removeAll_21 rfl (lv_at hl 0 rfl) ?_
  refine g_get (ref := "MigrantHeap$Shape") (C := RX4) (T := TX4) (N := 6) (ci := 4) K in_X4_removeAll_X4 hw 3 rfl hb_x0 rfl rfl 4 (by decide) (List.mem_of_getElem? (i := 3) rfl) rfl rfl dX4_removeAll_22 ?_
  refine lv_iload_n hx hb dX4_removeAll_25 rfl (lv_at hl 1 rfl) ?_
  obtain ⟨z28, hc27, hm⟩ := bindS hm
  refine g_calli (GG := GC cy ad) K hw (va_runV (As := [.ref (ad 7 x0), .int x1]) (rest := []) (g_fix K) (c_X4_squeeze_a9 l D cy ad H.size n z26.2 x0 x0 x1 hb_x0 hb_x0 hc27) (cwV 2 (g_hts K) gX4_removeAll_X4_squeeze rfl rfl rfl (by decide +kernel) ⟨Nat.le_of_ble_eq_true rfl, Nat.le_of_ble_eq_true rfl⟩) ⟨g_blind rides_EV, g_recv K hw 3 rfl hb_x0 rfl rfl, g_pre K hw (g_ride rides_EV K hw)⟩ rfl rfl hl.1 rfl (lv_room (Nat.le_of_ble_eq_true rfl)) dX4_removeAll_26 ⟨Nat.le_of_ble_eq_true rfl, Nat.le_of_ble_eq_true rfl⟩) (fun r u H locs hp hw => ?_)
  obtain ⟨rfl, rfl⟩ : r = z28.1 ∧ u = z28.2 := by rw [hp]; exact ⟨rfl, rfl⟩
  refine lv_pop hx hb dX4_removeAll_29 rfl ?_
  refine lv_aload_n hx hb dX4_removeAll_30 rfl (lv_at hl 0 rfl) ?_
  refine lv_aload_n hx hb dX4_removeAll_31 rfl (lv_at hl 0 rfl) ?_
  refine g_get (ref := "MigrantHeap$Shape") (C := RX4) (T := TX4) (N := 6) (ci := 4) K in_X4_removeAll_X4 hw 3 rfl hb_x0 rfl rfl 5 (by decide) (List.mem_of_getElem? (i := 4) rfl) rfl rfl dX4_removeAll_32 ?_
  refine lv_iload_n hx hb dX4_removeAll_35 rfl (lv_at hl 1 rfl) ?_
  obtain ⟨z30, hc29, hm⟩ := bindS hm
  refine g_calli (GG := GC cy ad) K hw (va_runV (As := [.ref (ad 8 x0), .int x1]) (rest := []) (g_fix K) (c_X4_squeeze_a10 l D cy ad H.size n z28.2 x0 x0 x1 hb_x0 hb_x0 hc29) (cwV 2 (g_hts K) gX4_removeAll_X4_squeeze rfl rfl rfl (by decide +kernel) ⟨Nat.le_of_ble_eq_true rfl, Nat.le_of_ble_eq_true rfl⟩) ⟨g_blind rides_EV, g_recv K hw 3 rfl hb_x0 rfl rfl, g_pre K hw (g_ride rides_EV K hw)⟩ rfl rfl hl.1 rfl (lv_room (Nat.le_of_ble_eq_true rfl)) dX4_removeAll_36 ⟨Nat.le_of_ble_eq_true rfl, Nat.le_of_ble_eq_true rfl⟩) (fun r u H locs hp hw => ?_)
  obtain ⟨rfl, rfl⟩ : r = z30.1 ∧ u = z30.2 := by rw [hp]; exact ⟨rfl, rfl⟩
  refine lv_pop hx hb dX4_removeAll_39 rfl ?_
  refine lv_aload_n hx hb dX4_removeAll_40 rfl (lv_at hl 0 rfl) ?_
  refine lv_aload_n hx hb dX4_removeAll_41 rfl (lv_at hl 0 rfl) ?_
  refine lv_aload_n hx hb dX4_removeAll_42 rfl (lv_at hl 0 rfl) ?_
  refine g_get (ref := "MigrantHeap$Shape") (C := RX4) (T := TX4) (N := 6) (ci := 4) K in_X4_removeAll_X4 hw 3 rfl hb_x0 rfl rfl 1 (by decide) (List.mem_of_getElem? (i := 5) rfl) rfl rfl dX4_removeAll_43 ?_
  refine lv_iload_n hx hb dX4_removeAll_46 rfl (lv_at hl 1 rfl) ?_
  obtain ⟨z32, hc31, hm⟩ := bindS hm
  refine g_calli (GG := GC cy ad) K hw (va_runV (As := [.ref (ad 4 x0), .int x1]) (rest := [.ref (ad 3 x0)]) (g_fix K) (c_X4_squeeze_a6 l D cy ad H.size n z30.2 x0 x0 x1 hb_x0 hb_x0 hc31) (cwV 2 (g_hts K) gX4_removeAll_X4_squeeze rfl rfl rfl (by decide +kernel) ⟨Nat.le_of_ble_eq_true rfl, Nat.le_of_ble_eq_true rfl⟩) ⟨g_blind rides_EV, g_recv K hw 3 rfl hb_x0 rfl rfl, g_pre K hw (g_ride rides_EV K hw)⟩ rfl rfl hl.1 rfl (lv_room (Nat.le_of_ble_eq_true rfl)) dX4_removeAll_47 ⟨Nat.le_of_ble_eq_true rfl, Nat.le_of_ble_eq_true rfl⟩) (fun r u H locs hp hw => ?_)
  obtain ⟨rfl, rfl⟩ : r = z32.1 ∧ u = z32.2 := by rw [hp]; exact ⟨rfl, rfl⟩
  refine g_put (v := .int z32.1) (ty := .int) (ref := "MigrantHeap$Shape") (C := RX4) (T := TX4) (N := 6) (ci := 4) K in_X4_removeAll_X4 tyX4 tyX4_ok nmX4 hw 3 rfl hb_x0 rfl rfl 0 (by decide) (List.mem_of_getElem? (i := 6) rfl) rfl rfl (by decide +kernel) rfl rfl (Nat.le_of_ble_eq_true rfl) dX4_removeAll_50 (eC_5 cy ad z32.2 x0 z32.1) (fun H locs hw => ?_)
  obtain ⟨S33, hS33, hm⟩ := nm_ex hm
  rw [← hS33] at hw
  exact g_vret (GG := GC cy ad) K hw (Option.some.inj hm).symm dX4_removeAll_53
set_option maxRecDepth 100000 in
set_option maxHeartbeats 4000000 in
theorem c_X4_removeAll (l : Launch) (D : va_G) (cy : Nat → ClassId) (ad : Nat → Nat → Nat) (sz n : Nat) (S : CSt) (x0 : Nat) (x1 : Int32) (hb_x0 : x0 < 9) {out : CSt} (hm : m_X4_removeAll n S x0 x1 = some out) : Met l yX4_removeAll wsX4_removeAll rm_X4_removeAll (va_Pc [.ref (ad 3 x0), .int x1] (Pre D (tysC cy) (GC cy ad S) EV sz)) (va_Qv (fun (u : CSt) => out = u) (fun u => Pst D (tysC cy) (AA (adrs (GC cy ad S)) sz) (GC cy ad u)) (AA (adrs (GC cy ad S)) sz)) 0 0 (AA (adrs (GC cy ad S)) sz) := by
  refine g_met (by decide) rfl (Nat.le_of_ble_eq_true rfl) ?_
  intro p e s m args below meth c K hw ls hl
  exact t_X4_removeAll_0 (cy := cy) K n S x0 x1 hb_x0 hm _ _ hw ls hl
end W_X4_removeAll
section W_X5_fill
variable {p : Program} {l : Launch} {e : Env} {s : State} {m : MethodId} {args : Array Value} {below : List Frame} {meth : Method} {c : Code} {D : va_G} {A : Nat → Prop} {cy : Nat → ClassId} {ad : Nat → Nat → Nat} {Q : State → Prop}
abbrev rm_X5_fill : Room := { frames := 0, cells := 0, slots := 0, locals := 0 }
theorem in_X5_fill_X5 : ∀ w ∈ u_ws RX5 TX5 6, w ∈ wsX5_fill := by decide +kernel
set_option maxRecDepth 100000 in
set_option maxHeartbeats 4000000 in
theorem t_X5_fill_0 (K : Cx p s m args meth c D A (tysC cy) RX5 cX5_fill 6 none wsX5_fill (fun _ _ => True)) (n : Nat) (S : CSt) (x0 : Nat) (x1 : Int32) (x2 : Int32) (x3 : Int32) (x4 : Int32) (x5 : Int32) (hb_x0 : x0 < 6) {out : CSt} (hm : m_X5_fill n S x0 x1 x2 x3 x4 x5 = some out) : ∀ (H : Heap) (locs : List Loc), Wd D A s.heap (GC cy ad S) H locs → ∀ ls : Array Slot, lv_has ls 6 [(0, .ref (ad 18 x0)), (1, .int x1), (2, .int x2), (3, .int x3), (4, .int x4), (5, .int x5)] → W p l e rm_X5_fill s m args below meth c H locs 0 0 (MQ below (va_Qv (fun (u : CSt) => out = u) (fun u => Pst D (tysC cy) A (GC cy ad u)) A) args s 0 0 A) (F0 m 0 ls []) := by
  intro H locs hw ls hl
  obtain ⟨hx, hb, hml, hown, hts, hr, hlo, hK, hA, hX⟩ := id K
  unfold m_X5_fill at hm
  refine lv_aload_n hx hb dX5_fill_0 rfl (lv_at hl 0 rfl) ?_
  refine lv_iload_n hx hb dX5_fill_1 rfl (lv_at hl 1 rfl) ?_
  refine g_put (v := .int x1) (ty := .int) (ref := "MigrantHeap$Step") (C := RX5) (T := TX5) (N := 6) (ci := 5) K in_X5_fill_X5 tyX5 tyX5_ok nmX5 hw 18 rfl hb_x0 rfl rfl 0 (by decide) (List.mem_of_getElem? (i := 1) rfl) rfl rfl (by decide +kernel) rfl rfl (Nat.le_of_ble_eq_true rfl) dX5_fill_2 (eC_22 cy ad S x0 x1) (fun H locs hw => ?_)
  obtain ⟨S11, hS11, hm⟩ := nm_ex hm
  rw [← hS11] at hw
  refine lv_aload_n hx hb dX5_fill_5 rfl (lv_at hl 0 rfl) ?_
  refine lv_iload_n hx hb dX5_fill_6 rfl (lv_at hl 2 rfl) ?_
  refine g_put (v := .int x2) (ty := .int) (ref := "MigrantHeap$Step") (C := RX5) (T := TX5) (N := 6) (ci := 5) K in_X5_fill_X5 tyX5 tyX5_ok nmX5 hw 18 rfl hb_x0 rfl rfl 1 (by decide) (List.mem_of_getElem? (i := 2) rfl) rfl rfl (by decide +kernel) rfl rfl (Nat.le_of_ble_eq_true rfl) dX5_fill_7 (eC_23 cy ad S11 x0 x2) (fun H locs hw => ?_)
  obtain ⟨S12, hS12, hm⟩ := nm_ex hm
  rw [← hS12] at hw
  refine lv_aload_n hx hb dX5_fill_10 rfl (lv_at hl 0 rfl) ?_
  refine lv_iload_n hx hb dX5_fill_11 rfl (lv_at hl 3 rfl) ?_
  refine g_put (v := .int x3) (ty := .int) (ref := "MigrantHeap$Step") (C := RX5) (T := TX5) (N := 6) (ci := 5) K in_X5_fill_X5 tyX5 tyX5_ok nmX5 hw 18 rfl hb_x0 rfl rfl 2 (by decide) (List.mem_of_getElem? (i := 3) rfl) rfl rfl (by decide +kernel) rfl rfl (Nat.le_of_ble_eq_true rfl) dX5_fill_12 (eC_24 cy ad S12 x0 x3) (fun H locs hw => ?_)
  obtain ⟨S13, hS13, hm⟩ := nm_ex hm
  rw [← hS13] at hw
  refine lv_aload_n hx hb dX5_fill_15 rfl (lv_at hl 0 rfl) ?_
  refine lv_iload hx hb dX5_fill_16 (lv_at hl 4 rfl) ?_
  refine g_put (v := .int x4) (ty := .int) (ref := "MigrantHeap$Step") (C := RX5) (T := TX5) (N := 6) (ci := 5) K in_X5_fill_X5 tyX5 tyX5_ok nmX5 hw 18 rfl hb_x0 rfl rfl 3 (by decide) (List.mem_of_getElem? (i := 4) rfl) rfl rfl (by decide +kernel) rfl rfl (Nat.le_of_ble_eq_true rfl) dX5_fill_18 (eC_25 cy ad S13 x0 x4) (fun H locs hw => ?_)
  obtain ⟨S14, hS14, hm⟩ := nm_ex hm
  rw [← hS14] at hw
  refine lv_aload_n hx hb dX5_fill_21 rfl (lv_at hl 0 rfl) ?_
  refine lv_iload hx hb dX5_fill_22 (lv_at hl 5 rfl) ?_
  refine g_put (v := .int x5) (ty := .int) (ref := "MigrantHeap$Step") (C := RX5) (T := TX5) (N := 6) (ci := 5) K in_X5_fill_X5 tyX5 tyX5_ok nmX5 hw 18 rfl hb_x0 rfl rfl 4 (by decide) (List.mem_of_getElem? (i := 5) rfl) rfl rfl (by decide +kernel) rfl rfl (Nat.le_of_ble_eq_true rfl) dX5_fill_24 (eC_26 cy ad S14 x0 x5) (fun H locs hw => ?_)
  obtain ⟨S15, hS15, hm⟩ := nm_ex hm
  rw [← hS15] at hw
  exact g_vret (GG := GC cy ad) K hw (Option.some.inj hm).symm dX5_fill_27
set_option maxRecDepth 100000 in
set_option maxHeartbeats 4000000 in
theorem c_X5_fill (l : Launch) (D : va_G) (cy : Nat → ClassId) (ad : Nat → Nat → Nat) (sz n : Nat) (S : CSt) (x0 : Nat) (x1 : Int32) (x2 : Int32) (x3 : Int32) (x4 : Int32) (x5 : Int32) (hb_x0 : x0 < 6) {out : CSt} (hm : m_X5_fill n S x0 x1 x2 x3 x4 x5 = some out) : Met l yX5_fill wsX5_fill rm_X5_fill (va_Pc [.ref (ad 18 x0), .int x1, .int x2, .int x3, .int x4, .int x5] (Pre D (tysC cy) (GC cy ad S) (fun _ _ => True) sz)) (va_Qv (fun (u : CSt) => out = u) (fun u => Pst D (tysC cy) (AA (adrs (GC cy ad S)) sz) (GC cy ad u)) (AA (adrs (GC cy ad S)) sz)) 0 0 (AA (adrs (GC cy ad S)) sz) := by
  refine g_met (by decide) rfl (Nat.le_of_ble_eq_true rfl) ?_
  intro p e s m args below meth c K hw ls hl
  exact t_X5_fill_0 (cy := cy) K n S x0 x1 x2 x3 x4 x5 hb_x0 hm _ _ hw ls hl
end W_X5_fill
section W_X6_firstWithId
variable {p : Program} {l : Launch} {e : Env} {s : State} {m : MethodId} {args : Array Value} {below : List Frame} {meth : Method} {c : Code} {D : va_G} {A : Nat → Prop} {cy : Nat → ClassId} {ad : Nat → Nat → Nat} {Q : State → Prop}
abbrev rm_X6_firstWithId : Room := { frames := 0, cells := 0, slots := 0, locals := 0 }
theorem in_X6_firstWithId_X0 : ∀ w ∈ u_ws RX0 TX0 6, w ∈ wsX6_firstWithId := by decide +kernel
theorem in_X6_firstWithId_X6 : ∀ w ∈ u_ws RX6 TX6 3, w ∈ wsX6_firstWithId := by decide +kernel
set_option maxRecDepth 100000 in
set_option maxHeartbeats 4000000 in
theorem t_X6_firstWithId_L2 (K : Cx p s m args meth c D A (tysC cy) RX6 cX6_firstWithId 3 (some (.object "MigrantHeap$Entry")) wsX6_firstWithId (fun _ _ => True)) (n : Nat) (S : CSt) (x1 : Int32)  (z : (Int32 ⊕ Unit)) (hE0 : ∀ w : Int32, z = .inl w → ∀ (H : Heap) (locs : List Loc), Wd D A s.heap (GC cy ad S) H locs → ∀ ls : Array Slot, lv_has ls 3 [(0, .ref (ad 9 0)), (2, .int w)] → W p l e rm_X6_firstWithId s m args below meth c H locs 0 0 Q (F0 m 21 ls [])) (hE1 : ∀ w : Unit, z = .inr w → ∀ (H : Heap) (locs : List Loc), Wd D A s.heap (GC cy ad S) H locs → ∀ ls : Array Slot, lv_has ls 3 [] → W p l e rm_X6_firstWithId s m args below meth c H locs 0 0 Q (F0 m 34 ls [])) : ∀ (x : Int32), lpO (b_X6_firstWithId_2 n S x1) n x = some z → (fun (x : Int32) => ∀ (H : Heap) (locs : List Loc), Wd D A s.heap (GC cy ad S) H locs → ∀ ls : Array Slot, lv_has ls 3 [(0, .ref (ad 9 0)), (1, .int x1), (2, .int x)] → W p l e rm_X6_firstWithId s m args below meth c H locs 0 0 Q (F0 m 2 ls [])) x := by
  intro x hx0
  refine lpO_ind2 (P := fun (x : Int32) => ∀ (H : Heap) (locs : List Loc), Wd D A s.heap (GC cy ad S) H locs → ∀ ls : Array Slot, lv_has ls 3 [(0, .ref (ad 9 0)), (1, .int x1), (2, .int x)] → W p l e rm_X6_firstWithId s m args below meth c H locs 0 0 Q (F0 m 2 ls [])) (z := z) ?_ n x hx0
  clear hx0 x
  intro x out hm hg H locs hw ls hl 
  obtain ⟨hx, hb, hml, hown, hts, hr, hlo, hK, hA, hX⟩ := id K
  unfold b_X6_firstWithId_2 at hm
  refine lv_iload_n hx hb dX6_firstWithId_2 rfl (lv_at hl 2 rfl) ?_
  refine lv_bipush (v := 24) hx hb dX6_firstWithId_3 (by decide) ?_
  refine lv_icmp_ge (tgt := 34) hx hb dX6_firstWithId_5 (by decide) (fun c10 => ?_) (fun c10 => ?_)
  · replace hm := (if_pos c10).symm.trans hm
    obtain rfl := Option.some.inj hm
    exact hE1 _ hg.symm H locs hw ls (lv_sub hl [] rfl)
  · replace hm := (if_neg c10).symm.trans hm
    refine lv_aload_n hx hb dX6_firstWithId_8 rfl (lv_at hl 0 rfl) ?_
    refine g_get (ref := "MigrantHeap$Store") (C := RX6) (T := TX6) (N := 3) (ci := 6) K in_X6_firstWithId_X6 hw 9 rfl (by decide : 0 < 1) rfl rfl 0 (by decide) (List.mem_of_getElem? (i := 1) rfl) rfl rfl dX6_firstWithId_9 ?_
    refine lv_iload_n hx hb dX6_firstWithId_12 rfl (lv_at hl 2 rfl) ?_
    obtain ⟨h11, hm⟩ := chkS hm
    refine g_aald K hw 10 3 rfl (by decide) rfl rfl h11 dX6_firstWithId_13 ?_
    refine g_get (ref := "MigrantHeap$Entry") (C := RX0) (T := TX0) (N := 6) (ci := 0) K in_X6_firstWithId_X0 hw 11 rfl (inB_lt h11) rfl rfl 0 (by decide) (List.mem_of_getElem? (i := 2) rfl) rfl rfl dX6_firstWithId_14 ?_
    refine lv_iload_n hx hb dX6_firstWithId_17 rfl (lv_at hl 1 rfl) ?_
    refine lv_icmp_ne (tgt := 28) hx hb dX6_firstWithId_18 (by decide) (fun c12 => ?_) (fun c12 => ?_)
    · replace hm := (if_pos c12).symm.trans hm
      obtain ⟨x13, hx13, hm⟩ := nm_ex hm
      refine lv_iinc (v := x13) (lv' := [(2, .int x13), (0, .ref (ad 9 0)), (1, .int x1)]) hx hb dX6_firstWithId_28 hl (k := 2) rfl (by rw [hx13]; rfl) (by decide) rfl (fun ls hl => ?_)
      refine lv_goto (tgt := 2) hx hb dX6_firstWithId_31 (by decide) ?_
      obtain rfl := Option.some.inj hm
      exact hg H locs hw ls (lv_sub hl [1, 2, 0] rfl)
    · replace hm := (if_neg (fun h => h c12)).symm.trans hm
      obtain rfl := Option.some.inj hm
      exact hE0 _ hg.symm H locs hw ls (lv_sub hl [0, 2] rfl)
set_option maxRecDepth 100000 in
set_option maxHeartbeats 4000000 in
theorem t_X6_firstWithId_0 (K : Cx p s m args meth c D A (tysC cy) RX6 cX6_firstWithId 3 (some (.object "MigrantHeap$Entry")) wsX6_firstWithId (fun _ _ => True)) (n : Nat) (S : CSt) (x1 : Int32)  {out : Option Nat} (hm : m_X6_firstWithId n S x1 = some out) : ∀ (H : Heap) (locs : List Loc), Wd D A s.heap (GC cy ad S) H locs → ∀ ls : Array Slot, lv_has ls 3 [(0, .ref (ad 9 0)), (1, .int x1)] → W p l e rm_X6_firstWithId s m args below meth c H locs 0 0 (MQ below (va_Qq (fun r (u : CSt) => r = out.map (ad 11) ∧ u = S) (fun u => Pst D (tysC cy) A (GC cy ad u)) A) args s 0 0 A) (F0 m 0 ls []) := by
  intro H locs hw ls hl
  obtain ⟨hx, hb, hml, hown, hts, hr, hlo, hK, hA, hX⟩ := id K
  unfold m_X6_firstWithId at hm
  refine lv_iconst (v := 0) hx hb dX6_firstWithId_0 (by decide) ?_
  refine lv_istore_n (lv' := [(2, .int 0), (0, .ref (ad 9 0)), (1, .int x1)]) hx hb dX6_firstWithId_1 rfl hl (by decide) rfl (fun ls hl => ?_)
  obtain ⟨z14, hz15, hm⟩ := bindS hm
  refine t_X6_firstWithId_L2 K n S x1 z14 (fun w16 hww16 => ?_) (fun w17 hww17 => ?_) (0) hz15 H locs hw ls (lv_sub hl [1, 2, 0] rfl)
  · intro H locs hw ls hl 
    subst hww16
    replace hm := (sumL _ _ _).symm.trans hm
    refine lv_aload_n hx hb dX6_firstWithId_21 rfl (lv_at hl 0 rfl) ?_
    refine g_get (ref := "MigrantHeap$Store") (C := RX6) (T := TX6) (N := 3) (ci := 6) K in_X6_firstWithId_X6 hw 9 rfl (by decide : 0 < 1) rfl rfl 0 (by decide) (List.mem_of_getElem? (i := 1) rfl) rfl rfl dX6_firstWithId_22 ?_
    refine lv_iload_n hx hb dX6_firstWithId_25 rfl (lv_at hl 1 rfl) ?_
    obtain ⟨h18, hm⟩ := chkS hm
    refine g_aald K hw 10 3 rfl (by decide) rfl rfl h18 dX6_firstWithId_26 ?_
    exact g_aret (GG := GC cy ad) (r := some (ad 11 w16.toNatClampNeg)) K hw (by cases hm; exact ⟨rfl, rfl⟩) dX6_firstWithId_27
  · intro H locs hw ls hl 
    subst hww17
    replace hm := (sumR _ _ _).symm.trans hm
    refine lv_null hx hb dX6_firstWithId_34 ?_
    exact g_aret (GG := GC cy ad) (r := none) K hw (by cases hm; exact ⟨rfl, rfl⟩) dX6_firstWithId_35
set_option maxRecDepth 100000 in
set_option maxHeartbeats 4000000 in
theorem c_X6_firstWithId (l : Launch) (D : va_G) (cy : Nat → ClassId) (ad : Nat → Nat → Nat) (sz n : Nat) (S : CSt) (x1 : Int32)  {out : Option Nat} (hm : m_X6_firstWithId n S x1 = some out) : Met l yX6_firstWithId wsX6_firstWithId rm_X6_firstWithId (va_Pc [.ref (ad 9 0), .int x1] (Pre D (tysC cy) (GC cy ad S) (fun _ _ => True) sz)) (va_Qq (fun r (u : CSt) => r = out.map (ad 11) ∧ u = S) (fun u => Pst D (tysC cy) (AA (adrs (GC cy ad S)) sz) (GC cy ad u)) (AA (adrs (GC cy ad S)) sz)) 0 0 (AA (adrs (GC cy ad S)) sz) := by
  refine g_met (by decide) rfl (Nat.le_of_ble_eq_true rfl) ?_
  intro p e s m args below meth c K hw ls hl
  exact t_X6_firstWithId_0 (cy := cy) K n S x1  hm _ _ hw ls hl
end W_X6_firstWithId
section W_X6_find
variable {p : Program} {l : Launch} {e : Env} {s : State} {m : MethodId} {args : Array Value} {below : List Frame} {meth : Method} {c : Code} {D : va_G} {A : Nat → Prop} {cy : Nat → ClassId} {ad : Nat → Nat → Nat} {Q : State → Prop}
abbrev rm_X6_find : Room := { frames := 1, cells := 0, slots := 0, locals := 22 }
set_option maxRecDepth 100000 in
set_option maxHeartbeats 4000000 in
theorem t_X6_find_0 (K : Cx p s m args meth c D A (tysC cy) RX6 cX6_find 2 (some (.object "MigrantHeap$Entry")) wsX6_find (fun _ _ => True)) (n : Nat) (S : CSt) (x1 : Int32)  {out : Option Nat} (hm : m_X6_find n S x1 = some out) : ∀ (H : Heap) (locs : List Loc), Wd D A s.heap (GC cy ad S) H locs → ∀ ls : Array Slot, lv_has ls 2 [(0, .ref (ad 9 0)), (1, .int x1)] → W p l e rm_X6_find s m args below meth c H locs 0 0 (MQ below (va_Qq (fun r (u : CSt) => r = out.map (ad 11) ∧ u = S) (fun u => Pst D (tysC cy) A (GC cy ad u)) A) args s 0 0 A) (F0 m 0 ls []) := by
  intro H locs hw ls hl
  obtain ⟨hx, hb, hml, hown, hts, hr, hlo, hK, hA, hX⟩ := id K
  unfold m_X6_find at hm
  refine lv_iload_n hx hb dX6_find_0 rfl (lv_at hl 1 rfl) ?_
  refine lv_if_ne (tgt := 6) hx hb dX6_find_1 (by decide) (fun c7 => ?_) (fun c7 => ?_)
  · replace hm := (if_pos c7).symm.trans hm
    refine lv_aload_n hx hb dX6_find_6 rfl (lv_at hl 0 rfl) ?_
    refine lv_iload_n hx hb dX6_find_7 rfl (lv_at hl 1 rfl) ?_
    obtain ⟨z9, hc8, hm⟩ := bindS hm
    refine g_callq (GG := GC cy ad) K hw (va_runV (As := [.int x1]) (rest := []) (g_fix K) (c_X6_firstWithId l D cy ad H.size n S x1  hc8) (cwV 1 (g_hts K) gX6_find_X6_firstWithId rfl rfl rfl (by decide +kernel) ⟨Nat.le_of_ble_eq_true rfl, Nat.le_of_ble_eq_true rfl⟩) ⟨g_blind rides_none, g_recv K hw 9 rfl (by decide : 0 < 1) rfl rfl, g_pre (X2 := fun _ _ => True) K hw (fun _ _ _ => trivial)⟩ rfl rfl hl.1 rfl (lv_room (Nat.le_of_ble_eq_true rfl)) dX6_find_8 ⟨Nat.le_of_ble_eq_true rfl, Nat.le_of_ble_eq_true rfl⟩) (fun r u H locs hp hw => ?_)
    obtain ⟨rfl, hu⟩ := hp
    rw [hu] at hw
    rcases hq12 : z9 with _ | i10
    · rw [hq12] at hm
      replace hm := (optN _ _).symm.trans hm
      refine W.eq (g2 := F0 m 11 ls (.null :: [])) (by first | rfl | (rw [hq12]; rfl)) ?_
      exact g_aret (GG := GC cy ad) (r := none) K hw (by cases hm; exact ⟨rfl, rfl⟩) dX6_find_11
    · rw [hq12] at hm
      replace hm := (optS _ _ _).symm.trans hm
      obtain ⟨h11, hm⟩ := chkS hm
      replace h11 := of_decide_eq_true h11
      refine W.eq (g2 := F0 m 11 ls (.ref (ad 11 i10) :: [])) (by first | rfl | (rw [hq12]; rfl)) ?_
      exact g_aret (GG := GC cy ad) (r := some (ad 11 i10)) K hw (by cases hm; exact ⟨rfl, rfl⟩) dX6_find_11
  · replace hm := (if_neg (fun h => h c7)).symm.trans hm
    refine lv_null hx hb dX6_find_4 ?_
    exact g_aret (GG := GC cy ad) (r := none) K hw (by cases hm; exact ⟨rfl, rfl⟩) dX6_find_5
set_option maxRecDepth 100000 in
set_option maxHeartbeats 4000000 in
theorem c_X6_find (l : Launch) (D : va_G) (cy : Nat → ClassId) (ad : Nat → Nat → Nat) (sz n : Nat) (S : CSt) (x1 : Int32)  {out : Option Nat} (hm : m_X6_find n S x1 = some out) : Met l yX6_find wsX6_find rm_X6_find (va_Pc [.ref (ad 9 0), .int x1] (Pre D (tysC cy) (GC cy ad S) (fun _ _ => True) sz)) (va_Qq (fun r (u : CSt) => r = out.map (ad 11) ∧ u = S) (fun u => Pst D (tysC cy) (AA (adrs (GC cy ad S)) sz) (GC cy ad u)) (AA (adrs (GC cy ad S)) sz)) 0 0 (AA (adrs (GC cy ad S)) sz) := by
  refine g_met (by decide) rfl (Nat.le_of_ble_eq_true rfl) ?_
  intro p e s m args below meth c K hw ls hl
  exact t_X6_find_0 (cy := cy) K n S x1  hm _ _ hw ls hl
end W_X6_find
section W_X6_add
variable {p : Program} {l : Launch} {e : Env} {s : State} {m : MethodId} {args : Array Value} {below : List Frame} {meth : Method} {c : Code} {D : va_G} {A : Nat → Prop} {cy : Nat → ClassId} {ad : Nat → Nat → Nat} {Q : State → Prop}
abbrev rm_X6_add : Room := { frames := 1, cells := 0, slots := 0, locals := 22 }
theorem in_X6_add_X0 : ∀ w ∈ u_ws RX0 TX0 6, w ∈ wsX6_add := by decide +kernel
theorem in_X6_add_X6 : ∀ w ∈ u_ws RX6 TX6 3, w ∈ wsX6_add := by decide +kernel
set_option maxRecDepth 100000 in
set_option maxHeartbeats 4000000 in
theorem t_X6_add_0 (K : Cx p s m args meth c D A (tysC cy) RX6 cX6_add 4 (some (.object "MigrantHeap$Entry")) wsX6_add (fun _ _ => True)) (n : Nat) (S : CSt) (x1 : Int32) (x2 : Int32)  {out : Option Nat × CSt} (hm : m_X6_add n S x1 x2 = some out) : ∀ (H : Heap) (locs : List Loc), Wd D A s.heap (GC cy ad S) H locs → ∀ ls : Array Slot, lv_has ls 4 [(0, .ref (ad 9 0)), (1, .int x1), (2, .int x2)] → W p l e rm_X6_add s m args below meth c H locs 0 0 (MQ below (va_Qq (fun r (u : CSt) => r = out.1.map (ad 11) ∧ u = out.2) (fun u => Pst D (tysC cy) A (GC cy ad u)) A) args s 0 0 A) (F0 m 0 ls []) := by
  intro H locs hw ls hl
  obtain ⟨hx, hb, hml, hown, hts, hr, hlo, hK, hA, hX⟩ := id K
  unfold m_X6_add at hm
  refine lv_aload_n hx hb dX6_add_0 rfl (lv_at hl 0 rfl) ?_
  refine lv_iconst (v := 0) hx hb dX6_add_1 (by decide) ?_
  obtain ⟨z18, hc17, hm⟩ := bindS hm
  refine g_callq (GG := GC cy ad) K hw (va_runV (As := [.int 0]) (rest := []) (g_fix K) (c_X6_firstWithId l D cy ad H.size n S 0  hc17) (cwV 1 (g_hts K) gX6_add_X6_firstWithId rfl rfl rfl (by decide +kernel) ⟨Nat.le_of_ble_eq_true rfl, Nat.le_of_ble_eq_true rfl⟩) ⟨g_blind rides_none, g_recv K hw 9 rfl (by decide : 0 < 1) rfl rfl, g_pre (X2 := fun _ _ => True) K hw (fun _ _ _ => trivial)⟩ rfl rfl hl.1 rfl (lv_room (Nat.le_of_ble_eq_true rfl)) dX6_add_2 ⟨Nat.le_of_ble_eq_true rfl, Nat.le_of_ble_eq_true rfl⟩) (fun r u H locs hp hw => ?_)
  obtain ⟨rfl, hu⟩ := hp
  rw [hu] at hw
  rcases hq21 : z18 with _ | i19
  · rw [hq21] at hm
    replace hm := (optN _ _).symm.trans hm
    refine W.eq (g2 := F0 m 5 ls (.null :: [])) (by first | rfl | (rw [hq21]; rfl)) ?_
    refine lv_astore_nN (lv' := [(3, .null), (0, .ref (ad 9 0)), (1, .int x1), (2, .int x2)]) hx hb dX6_add_5 rfl hl (by decide) rfl (fun ls hl => ?_)
    refine lv_aload_nN hx hb dX6_add_6 rfl (lv_at hl 0 rfl) ?_
    refine lv_ifnullN (tgt := 48) hx hb dX6_add_7 (by decide) ?_
    refine lv_aload_nN hx hb dX6_add_48 rfl (lv_at hl 0 rfl) ?_
    exact g_aret (GG := GC cy ad) (r := none) K hw (by cases hm; exact ⟨rfl, rfl⟩) dX6_add_49
  · rw [hq21] at hm
    replace hm := (optS _ _ _).symm.trans hm
    obtain ⟨h20, hm⟩ := chkS hm
    replace h20 := of_decide_eq_true h20
    refine W.eq (g2 := F0 m 5 ls (.ref (ad 11 i19) :: [])) (by first | rfl | (rw [hq21]; rfl)) ?_
    refine lv_astore_n (lv' := [(3, .ref (ad 11 i19)), (0, .ref (ad 9 0)), (1, .int x1), (2, .int x2)]) hx hb dX6_add_5 rfl hl (by decide) rfl (fun ls hl => ?_)
    refine lv_aload_n hx hb dX6_add_6 rfl (lv_at hl 0 rfl) ?_
    refine lv_ifnull hx hb dX6_add_7 ?_
    refine lv_aload_n hx hb dX6_add_10 rfl (lv_at hl 1 rfl) ?_
    refine lv_dup hx hb dX6_add_11 rfl ?_
    refine g_get (ref := "MigrantHeap$Store") (C := RX6) (T := TX6) (N := 3) (ci := 6) K in_X6_add_X6 hw 9 rfl (by decide : 0 < 1) rfl rfl 2 (by decide) (List.mem_of_getElem? (i := 1) rfl) rfl rfl dX6_add_12 ?_
    refine lv_iconst (v := 1) hx hb dX6_add_15 (by decide) ?_
    refine lv_iadd hx hb dX6_add_16 ?_
    refine g_put (v := .int ((S.1 12 0 0) + 1)) (ty := .int) (ref := "MigrantHeap$Store") (C := RX6) (T := TX6) (N := 3) (ci := 6) K in_X6_add_X6 tyX6 tyX6_ok nmX6 hw 9 rfl (by decide : 0 < 1) rfl rfl 2 (by decide) (List.mem_of_getElem? (i := 1) rfl) rfl rfl (by decide +kernel) rfl rfl (Nat.le_of_ble_eq_true rfl) dX6_add_17 (eC_12 cy ad S 0 ((S.1 12 0 0) + 1)) (fun H locs hw => ?_)
    obtain ⟨S22, hS22, hm⟩ := nm_ex hm
    rw [← hS22] at hw
    refine lv_aload_n hx hb dX6_add_20 rfl (lv_at hl 1 rfl) ?_
    refine lv_dup hx hb dX6_add_21 rfl ?_
    refine g_get (ref := "MigrantHeap$Store") (C := RX6) (T := TX6) (N := 3) (ci := 6) K in_X6_add_X6 hw 9 rfl (by decide : 0 < 1) rfl rfl 1 (by decide) (List.mem_of_getElem? (i := 2) rfl) rfl rfl dX6_add_22 ?_
    refine lv_iconst (v := 1) hx hb dX6_add_25 (by decide) ?_
    refine lv_iadd hx hb dX6_add_26 ?_
    refine g_put (v := .int ((S22.1 11 0 0) + 1)) (ty := .int) (ref := "MigrantHeap$Store") (C := RX6) (T := TX6) (N := 3) (ci := 6) K in_X6_add_X6 tyX6 tyX6_ok nmX6 hw 9 rfl (by decide : 0 < 1) rfl rfl 1 (by decide) (List.mem_of_getElem? (i := 2) rfl) rfl rfl (by decide +kernel) rfl rfl (Nat.le_of_ble_eq_true rfl) dX6_add_27 (eC_11 cy ad S22 0 ((S22.1 11 0 0) + 1)) (fun H locs hw => ?_)
    obtain ⟨S23, hS23, hm⟩ := nm_ex hm
    rw [← hS23] at hw
    refine lv_aload_n hx hb dX6_add_30 rfl (lv_at hl 0 rfl) ?_
    refine lv_aload_n hx hb dX6_add_31 rfl (lv_at hl 1 rfl) ?_
    refine g_get (ref := "MigrantHeap$Store") (C := RX6) (T := TX6) (N := 3) (ci := 6) K in_X6_add_X6 hw 9 rfl (by decide : 0 < 1) rfl rfl 2 (by decide) (List.mem_of_getElem? (i := 1) rfl) rfl rfl dX6_add_32 ?_
    refine g_put (v := .int (S23.1 12 0 0)) (ty := .int) (ref := "MigrantHeap$Entry") (C := RX0) (T := TX0) (N := 6) (ci := 0) K in_X6_add_X0 tyX0 tyX0_ok nmX0 hw 11 rfl h20 rfl rfl 0 (by decide) (List.mem_of_getElem? (i := 3) rfl) rfl rfl (by decide +kernel) rfl rfl (Nat.le_of_ble_eq_true rfl) dX6_add_35 (eC_13 cy ad S23 i19 (S23.1 12 0 0)) (fun H locs hw => ?_)
    obtain ⟨S24, hS24, hm⟩ := nm_ex hm
    rw [← hS24] at hw
    refine lv_aload_n hx hb dX6_add_38 rfl (lv_at hl 0 rfl) ?_
    refine lv_iload_n hx hb dX6_add_39 rfl (lv_at hl 2 rfl) ?_
    refine g_put (v := .int x1) (ty := .int) (ref := "MigrantHeap$Entry") (C := RX0) (T := TX0) (N := 6) (ci := 0) K in_X6_add_X0 tyX0 tyX0_ok nmX0 hw 11 rfl h20 rfl rfl 1 (by decide) (List.mem_of_getElem? (i := 4) rfl) rfl rfl (by decide +kernel) rfl rfl (Nat.le_of_ble_eq_true rfl) dX6_add_40 (eC_14 cy ad S24 i19 x1) (fun H locs hw => ?_)
    obtain ⟨S25, hS25, hm⟩ := nm_ex hm
    rw [← hS25] at hw
    refine lv_aload_n hx hb dX6_add_43 rfl (lv_at hl 0 rfl) ?_
    refine lv_iload_n hx hb dX6_add_44 rfl (lv_at hl 3 rfl) ?_
    refine g_put (v := .int x2) (ty := .int) (ref := "MigrantHeap$Entry") (C := RX0) (T := TX0) (N := 6) (ci := 0) K in_X6_add_X0 tyX0 tyX0_ok nmX0 hw 11 rfl h20 rfl rfl 2 (by decide) (List.mem_of_getElem? (i := 5) rfl) rfl rfl (by decide +kernel) rfl rfl (Nat.le_of_ble_eq_true rfl) dX6_add_45 (eC_15 cy ad S25 i19 x2) (fun H locs hw => ?_)
    obtain ⟨S26, hS26, hm⟩ := nm_ex hm
    rw [← hS26] at hw
    refine lv_aload_n hx hb dX6_add_48 rfl (lv_at hl 0 rfl) ?_
    exact g_aret (GG := GC cy ad) (r := some (ad 11 i19)) K hw (by cases hm; exact ⟨rfl, rfl⟩) dX6_add_49
set_option maxRecDepth 100000 in
set_option maxHeartbeats 4000000 in
theorem c_X6_add (l : Launch) (D : va_G) (cy : Nat → ClassId) (ad : Nat → Nat → Nat) (sz n : Nat) (S : CSt) (x1 : Int32) (x2 : Int32)  {out : Option Nat × CSt} (hm : m_X6_add n S x1 x2 = some out) : Met l yX6_add wsX6_add rm_X6_add (va_Pc [.ref (ad 9 0), .int x1, .int x2] (Pre D (tysC cy) (GC cy ad S) (fun _ _ => True) sz)) (va_Qq (fun r (u : CSt) => r = out.1.map (ad 11) ∧ u = out.2) (fun u => Pst D (tysC cy) (AA (adrs (GC cy ad S)) sz) (GC cy ad u)) (AA (adrs (GC cy ad S)) sz)) 0 0 (AA (adrs (GC cy ad S)) sz) := by
  refine g_met (by decide) rfl (Nat.le_of_ble_eq_true rfl) ?_
  intro p e s m args below meth c K hw ls hl
  exact t_X6_add_0 (cy := cy) K n S x1 x2  hm _ _ hw ls hl
end W_X6_add
section W_X6_countOf
variable {p : Program} {l : Launch} {e : Env} {s : State} {m : MethodId} {args : Array Value} {below : List Frame} {meth : Method} {c : Code} {D : va_G} {A : Nat → Prop} {cy : Nat → ClassId} {ad : Nat → Nat → Nat} {Q : State → Prop}
abbrev rm_X6_countOf : Room := { frames := 1, cells := 0, slots := 0, locals := 21 }
theorem in_X6_countOf_X6 : ∀ w ∈ u_ws RX6 TX6 3, w ∈ wsX6_countOf := by decide +kernel
set_option maxRecDepth 100000 in
set_option maxHeartbeats 4000000 in
theorem t_X6_countOf_L4 (K : Cx p s m args meth c D A (tysC cy) RX6 cX6_countOf 4 (some .int) wsX6_countOf (fun _ _ => True)) (n : Nat) (S : CSt) (x1 : Int32)  (z : Int32) (hE0 : ∀ w : Int32, z = w → ∀ (H : Heap) (locs : List Loc), Wd D A s.heap (GC cy ad S) H locs → ∀ ls : Array Slot, lv_has ls 4 [(2, .int w)] → W p l e rm_X6_countOf s m args below meth c H locs 0 0 Q (F0 m 32 ls [])) : ∀ (x : (Int32 × Int32)), lpO (b_X6_countOf_4 n S x1) n x = some z → (fun (x : (Int32 × Int32)) => ∀ (H : Heap) (locs : List Loc), Wd D A s.heap (GC cy ad S) H locs → ∀ ls : Array Slot, lv_has ls 4 [(0, .ref (ad 9 0)), (1, .int x1), (2, .int x.1), (3, .int x.2)] → W p l e rm_X6_countOf s m args below meth c H locs 0 0 Q (F0 m 4 ls [])) x := by
  intro x hx0
  refine lpO_ind2 (P := fun (x : (Int32 × Int32)) => ∀ (H : Heap) (locs : List Loc), Wd D A s.heap (GC cy ad S) H locs → ∀ ls : Array Slot, lv_has ls 4 [(0, .ref (ad 9 0)), (1, .int x1), (2, .int x.1), (3, .int x.2)] → W p l e rm_X6_countOf s m args below meth c H locs 0 0 Q (F0 m 4 ls [])) (z := z) ?_ n x hx0
  clear hx0 x
  intro x out hm hg H locs hw ls hl 
  obtain ⟨hx, hb, hml, hown, hts, hr, hlo, hK, hA, hX⟩ := id K
  unfold b_X6_countOf_4 at hm
  refine lv_iload_n hx hb dX6_countOf_4 rfl (lv_at hl 3 rfl) ?_
  refine lv_bipush (v := 24) hx hb dX6_countOf_5 (by decide) ?_
  refine lv_icmp_ge (tgt := 32) hx hb dX6_countOf_7 (by decide) (fun c18 => ?_) (fun c18 => ?_)
  · replace hm := (if_pos c18).symm.trans hm
    obtain rfl := Option.some.inj hm
    exact hE0 _ hg.symm H locs hw ls (lv_sub hl [2] rfl)
  · replace hm := (if_neg c18).symm.trans hm
    refine lv_aload_n hx hb dX6_countOf_10 rfl (lv_at hl 0 rfl) ?_
    refine g_get (ref := "MigrantHeap$Store") (C := RX6) (T := TX6) (N := 3) (ci := 6) K in_X6_countOf_X6 hw 9 rfl (by decide : 0 < 1) rfl rfl 0 (by decide) (List.mem_of_getElem? (i := 1) rfl) rfl rfl dX6_countOf_11 ?_
    refine lv_iload_n hx hb dX6_countOf_14 rfl (lv_at hl 3 rfl) ?_
    obtain ⟨h19, hm⟩ := chkS hm
    refine g_aald K hw 10 3 rfl (by decide) rfl rfl h19 dX6_countOf_15 ?_
    refine lv_iload_n hx hb dX6_countOf_16 rfl (lv_at hl 1 rfl) ?_
    obtain ⟨z21, hc20, hm⟩ := bindS hm
    refine g_calli (GG := GC cy ad) K hw (va_runV (As := [.int x1]) (rest := []) (g_fix K) (c_X0_isOf l D cy ad H.size n S x.2.toNatClampNeg x1 (inB_lt h19) hc20) (cwV 1 (g_hts K) gX6_countOf_X0_isOf rfl rfl rfl (by decide +kernel) ⟨Nat.le_of_ble_eq_true rfl, Nat.le_of_ble_eq_true rfl⟩) ⟨g_blind rides_none, g_recv K hw 11 rfl (inB_lt h19) rfl rfl, g_pre (X2 := fun _ _ => True) K hw (fun _ _ _ => trivial)⟩ rfl rfl hl.1 rfl (lv_room (Nat.le_of_ble_eq_true rfl)) dX6_countOf_17 ⟨Nat.le_of_ble_eq_true rfl, Nat.le_of_ble_eq_true rfl⟩) (fun r u H locs hp hw => ?_)
    obtain ⟨rfl, hu⟩ := hp
    rw [hu] at hw
    refine lv_if_eq (tgt := 26) hx hb dX6_countOf_20 (by decide) (fun c22 => ?_) (fun c22 => ?_)
    · replace hm := (if_pos c22).symm.trans hm
      obtain ⟨x23, hx23, hm⟩ := nm_ex hm
      refine lv_iinc (v := x23) (lv' := [(3, .int x23), (0, .ref (ad 9 0)), (1, .int x1), (2, .int x.1)]) hx hb dX6_countOf_26 hl (k := 3) rfl (by rw [hx23]; rfl) (by decide) rfl (fun ls hl => ?_)
      refine lv_goto (tgt := 4) hx hb dX6_countOf_29 (by decide) ?_
      obtain rfl := Option.some.inj hm
      exact hg H locs hw ls (lv_sub hl [1, 2, 3, 0] rfl)
    · replace hm := (if_neg c22).symm.trans hm
      obtain ⟨x24, hx24, hm⟩ := nm_ex hm
      refine lv_iinc (v := x24) (lv' := [(2, .int x24), (0, .ref (ad 9 0)), (1, .int x1), (3, .int x.2)]) hx hb dX6_countOf_23 hl (k := 2) rfl (by rw [hx24]; rfl) (by decide) rfl (fun ls hl => ?_)
      obtain ⟨x25, hx25, hm⟩ := nm_ex hm
      refine lv_iinc (v := x25) (lv' := [(3, .int x25), (2, .int x24), (0, .ref (ad 9 0)), (1, .int x1)]) hx hb dX6_countOf_26 hl (k := 3) rfl (by rw [hx25]; rfl) (by decide) rfl (fun ls hl => ?_)
      refine lv_goto (tgt := 4) hx hb dX6_countOf_29 (by decide) ?_
      obtain rfl := Option.some.inj hm
      exact hg H locs hw ls (lv_sub hl [2, 3, 1, 0] rfl)
set_option maxRecDepth 100000 in
set_option maxHeartbeats 4000000 in
theorem t_X6_countOf_0 (K : Cx p s m args meth c D A (tysC cy) RX6 cX6_countOf 4 (some .int) wsX6_countOf (fun _ _ => True)) (n : Nat) (S : CSt) (x1 : Int32)  {out : Int32} (hm : m_X6_countOf n S x1 = some out) : ∀ (H : Heap) (locs : List Loc), Wd D A s.heap (GC cy ad S) H locs → ∀ ls : Array Slot, lv_has ls 4 [(0, .ref (ad 9 0)), (1, .int x1)] → W p l e rm_X6_countOf s m args below meth c H locs 0 0 (MQ below (va_Qi (fun r (u : CSt) => out = r ∧ u = S) (fun u => Pst D (tysC cy) A (GC cy ad u)) A) args s 0 0 A) (F0 m 0 ls []) := by
  intro H locs hw ls hl
  obtain ⟨hx, hb, hml, hown, hts, hr, hlo, hK, hA, hX⟩ := id K
  unfold m_X6_countOf at hm
  refine lv_iconst (v := 0) hx hb dX6_countOf_0 (by decide) ?_
  refine lv_istore_n (lv' := [(2, .int 0), (0, .ref (ad 9 0)), (1, .int x1)]) hx hb dX6_countOf_1 rfl hl (by decide) rfl (fun ls hl => ?_)
  refine lv_iconst (v := 0) hx hb dX6_countOf_2 (by decide) ?_
  refine lv_istore_n (lv' := [(3, .int 0), (2, .int 0), (0, .ref (ad 9 0)), (1, .int x1)]) hx hb dX6_countOf_3 rfl hl (by decide) rfl (fun ls hl => ?_)
  obtain ⟨z26, hz27, hm⟩ := bindS hm
  refine t_X6_countOf_L4 K n S x1 z26 (fun w28 hww28 => ?_) ((0, 0)) hz27 H locs hw ls (lv_sub hl [2, 3, 1, 0] rfl)
  · intro H locs hw ls hl 
    try rw [hww28] at hm
    refine lv_iload_n hx hb dX6_countOf_32 rfl (lv_at hl 0 rfl) ?_
    exact g_iret (GG := GC cy ad) K hw ⟨(Option.some.inj hm).symm, rfl⟩ dX6_countOf_33
set_option maxRecDepth 100000 in
set_option maxHeartbeats 4000000 in
theorem c_X6_countOf (l : Launch) (D : va_G) (cy : Nat → ClassId) (ad : Nat → Nat → Nat) (sz n : Nat) (S : CSt) (x1 : Int32)  {out : Int32} (hm : m_X6_countOf n S x1 = some out) : Met l yX6_countOf wsX6_countOf rm_X6_countOf (va_Pc [.ref (ad 9 0), .int x1] (Pre D (tysC cy) (GC cy ad S) (fun _ _ => True) sz)) (va_Qi (fun r (u : CSt) => out = r ∧ u = S) (fun u => Pst D (tysC cy) (AA (adrs (GC cy ad S)) sz) (GC cy ad u)) (AA (adrs (GC cy ad S)) sz)) 0 0 (AA (adrs (GC cy ad S)) sz) := by
  refine g_met (by decide) rfl (Nat.le_of_ble_eq_true rfl) ?_
  intro p e s m args below meth c K hw ls hl
  exact t_X6_countOf_0 (cy := cy) K n S x1  hm _ _ hw ls hl
end W_X6_countOf
section W_X6_countKeptAs
variable {p : Program} {l : Launch} {e : Env} {s : State} {m : MethodId} {args : Array Value} {below : List Frame} {meth : Method} {c : Code} {D : va_G} {A : Nat → Prop} {cy : Nat → ClassId} {ad : Nat → Nat → Nat} {Q : State → Prop}
abbrev rm_X6_countKeptAs : Room := { frames := 1, cells := 0, slots := 0, locals := 21 }
theorem in_X6_countKeptAs_X0 : ∀ w ∈ u_ws RX0 TX0 6, w ∈ wsX6_countKeptAs := by decide +kernel
theorem in_X6_countKeptAs_X6 : ∀ w ∈ u_ws RX6 TX6 3, w ∈ wsX6_countKeptAs := by decide +kernel
set_option maxRecDepth 100000 in
set_option maxHeartbeats 4000000 in
theorem t_X6_countKeptAs_L5 (K : Cx p s m args meth c D A (tysC cy) RX6 cX6_countKeptAs 5 (some .int) wsX6_countKeptAs (fun _ _ => True)) (n : Nat) (S : CSt) (x1 : Int32) (x2 : Int32)  (z : Int32) (hE0 : ∀ w : Int32, z = w → ∀ (H : Heap) (locs : List Loc), Wd D A s.heap (GC cy ad S) H locs → ∀ ls : Array Slot, lv_has ls 5 [(3, .int w)] → W p l e rm_X6_countKeptAs s m args below meth c H locs 0 0 Q (F0 m 49 ls [])) : ∀ (x : (Int32 × Int32)), lpO (b_X6_countKeptAs_5 n S x1 x2) n x = some z → (fun (x : (Int32 × Int32)) => ∀ (H : Heap) (locs : List Loc), Wd D A s.heap (GC cy ad S) H locs → ∀ ls : Array Slot, lv_has ls 5 [(0, .ref (ad 9 0)), (1, .int x1), (2, .int x2), (3, .int x.1), (4, .int x.2)] → W p l e rm_X6_countKeptAs s m args below meth c H locs 0 0 Q (F0 m 5 ls [])) x := by
  intro x hx0
  refine lpO_ind2 (P := fun (x : (Int32 × Int32)) => ∀ (H : Heap) (locs : List Loc), Wd D A s.heap (GC cy ad S) H locs → ∀ ls : Array Slot, lv_has ls 5 [(0, .ref (ad 9 0)), (1, .int x1), (2, .int x2), (3, .int x.1), (4, .int x.2)] → W p l e rm_X6_countKeptAs s m args below meth c H locs 0 0 Q (F0 m 5 ls [])) (z := z) ?_ n x hx0
  clear hx0 x
  intro x out hm hg H locs hw ls hl 
  obtain ⟨hx, hb, hml, hown, hts, hr, hlo, hK, hA, hX⟩ := id K
  unfold b_X6_countKeptAs_5 at hm
  refine lv_iload hx hb dX6_countKeptAs_5 (lv_at hl 4 rfl) ?_
  refine lv_bipush (v := 24) hx hb dX6_countKeptAs_7 (by decide) ?_
  refine lv_icmp_ge (tgt := 49) hx hb dX6_countKeptAs_9 (by decide) (fun c23 => ?_) (fun c23 => ?_)
  · replace hm := (if_pos c23).symm.trans hm
    obtain rfl := Option.some.inj hm
    exact hE0 _ hg.symm H locs hw ls (lv_sub hl [3] rfl)
  · replace hm := (if_neg c23).symm.trans hm
    refine lv_aload_n hx hb dX6_countKeptAs_12 rfl (lv_at hl 0 rfl) ?_
    refine g_get (ref := "MigrantHeap$Store") (C := RX6) (T := TX6) (N := 3) (ci := 6) K in_X6_countKeptAs_X6 hw 9 rfl (by decide : 0 < 1) rfl rfl 0 (by decide) (List.mem_of_getElem? (i := 1) rfl) rfl rfl dX6_countKeptAs_13 ?_
    refine lv_iload hx hb dX6_countKeptAs_16 (lv_at hl 4 rfl) ?_
    obtain ⟨h24, hm⟩ := chkS hm
    refine g_aald K hw 10 3 rfl (by decide) rfl rfl h24 dX6_countKeptAs_18 ?_
    refine lv_iload_n hx hb dX6_countKeptAs_19 rfl (lv_at hl 1 rfl) ?_
    obtain ⟨z26, hc25, hm⟩ := bindS hm
    refine g_calli (GG := GC cy ad) K hw (va_runV (As := [.int x1]) (rest := []) (g_fix K) (c_X0_isOf l D cy ad H.size n S x.2.toNatClampNeg x1 (inB_lt h24) hc25) (cwV 1 (g_hts K) gX6_countKeptAs_X0_isOf rfl rfl rfl (by decide +kernel) ⟨Nat.le_of_ble_eq_true rfl, Nat.le_of_ble_eq_true rfl⟩) ⟨g_blind rides_none, g_recv K hw 11 rfl (inB_lt h24) rfl rfl, g_pre (X2 := fun _ _ => True) K hw (fun _ _ _ => trivial)⟩ rfl rfl hl.1 rfl (lv_room (Nat.le_of_ble_eq_true rfl)) dX6_countKeptAs_20 ⟨Nat.le_of_ble_eq_true rfl, Nat.le_of_ble_eq_true rfl⟩) (fun r u H locs hp hw => ?_)
    obtain ⟨rfl, hu⟩ := hp
    rw [hu] at hw
    refine lv_if_eq (tgt := 43) hx hb dX6_countKeptAs_23 (by decide) (fun c27 => ?_) (fun c27 => ?_)
    · replace hm := (if_pos c27).symm.trans hm
      obtain ⟨x28, hx28, hm⟩ := nm_ex hm
      refine lv_iinc (v := x28) (lv' := [(4, .int x28), (0, .ref (ad 9 0)), (1, .int x1), (2, .int x2), (3, .int x.1)]) hx hb dX6_countKeptAs_43 hl (k := 4) rfl (by rw [hx28]; rfl) (by decide) rfl (fun ls hl => ?_)
      refine lv_goto (tgt := 5) hx hb dX6_countKeptAs_46 (by decide) ?_
      obtain rfl := Option.some.inj hm
      exact hg H locs hw ls (lv_sub hl [1, 2, 3, 4, 0] rfl)
    · replace hm := (if_neg c27).symm.trans hm
      refine lv_aload_n hx hb dX6_countKeptAs_26 rfl (lv_at hl 0 rfl) ?_
      refine g_get (ref := "MigrantHeap$Store") (C := RX6) (T := TX6) (N := 3) (ci := 6) K in_X6_countKeptAs_X6 hw 9 rfl (by decide : 0 < 1) rfl rfl 0 (by decide) (List.mem_of_getElem? (i := 1) rfl) rfl rfl dX6_countKeptAs_27 ?_
      refine lv_iload hx hb dX6_countKeptAs_30 (lv_at hl 4 rfl) ?_
      obtain ⟨h29, hm⟩ := chkS hm
      refine g_aald K hw 10 3 rfl (by decide) rfl rfl h29 dX6_countKeptAs_32 ?_
      refine g_get (ref := "MigrantHeap$Entry") (C := RX0) (T := TX0) (N := 6) (ci := 0) K in_X6_countKeptAs_X0 hw 11 rfl (inB_lt h29) rfl rfl 2 (by decide) (List.mem_of_getElem? (i := 2) rfl) rfl rfl dX6_countKeptAs_33 ?_
      refine lv_iload_n hx hb dX6_countKeptAs_36 rfl (lv_at hl 2 rfl) ?_
      refine lv_icmp_ne (tgt := 43) hx hb dX6_countKeptAs_37 (by decide) (fun c30 => ?_) (fun c30 => ?_)
      · replace hm := (if_pos c30).symm.trans hm
        obtain ⟨x31, hx31, hm⟩ := nm_ex hm
        refine lv_iinc (v := x31) (lv' := [(4, .int x31), (0, .ref (ad 9 0)), (1, .int x1), (2, .int x2), (3, .int x.1)]) hx hb dX6_countKeptAs_43 hl (k := 4) rfl (by rw [hx31]; rfl) (by decide) rfl (fun ls hl => ?_)
        refine lv_goto (tgt := 5) hx hb dX6_countKeptAs_46 (by decide) ?_
        obtain rfl := Option.some.inj hm
        exact hg H locs hw ls (lv_sub hl [1, 2, 3, 4, 0] rfl)
      · replace hm := (if_neg (fun h => h c30)).symm.trans hm
        obtain ⟨x32, hx32, hm⟩ := nm_ex hm
        refine lv_iinc (v := x32) (lv' := [(3, .int x32), (0, .ref (ad 9 0)), (1, .int x1), (2, .int x2), (4, .int x.2)]) hx hb dX6_countKeptAs_40 hl (k := 3) rfl (by rw [hx32]; rfl) (by decide) rfl (fun ls hl => ?_)
        obtain ⟨x33, hx33, hm⟩ := nm_ex hm
        refine lv_iinc (v := x33) (lv' := [(4, .int x33), (3, .int x32), (0, .ref (ad 9 0)), (1, .int x1), (2, .int x2)]) hx hb dX6_countKeptAs_43 hl (k := 4) rfl (by rw [hx33]; rfl) (by decide) rfl (fun ls hl => ?_)
        refine lv_goto (tgt := 5) hx hb dX6_countKeptAs_46 (by decide) ?_
        obtain rfl := Option.some.inj hm
        exact hg H locs hw ls (lv_sub hl [2, 3, 4, 1, 0] rfl)
set_option maxRecDepth 100000 in
set_option maxHeartbeats 4000000 in
theorem t_X6_countKeptAs_0 (K : Cx p s m args meth c D A (tysC cy) RX6 cX6_countKeptAs 5 (some .int) wsX6_countKeptAs (fun _ _ => True)) (n : Nat) (S : CSt) (x1 : Int32) (x2 : Int32)  {out : Int32} (hm : m_X6_countKeptAs n S x1 x2 = some out) : ∀ (H : Heap) (locs : List Loc), Wd D A s.heap (GC cy ad S) H locs → ∀ ls : Array Slot, lv_has ls 5 [(0, .ref (ad 9 0)), (1, .int x1), (2, .int x2)] → W p l e rm_X6_countKeptAs s m args below meth c H locs 0 0 (MQ below (va_Qi (fun r (u : CSt) => out = r ∧ u = S) (fun u => Pst D (tysC cy) A (GC cy ad u)) A) args s 0 0 A) (F0 m 0 ls []) := by
  intro H locs hw ls hl
  obtain ⟨hx, hb, hml, hown, hts, hr, hlo, hK, hA, hX⟩ := id K
  unfold m_X6_countKeptAs at hm
  refine lv_iconst (v := 0) hx hb dX6_countKeptAs_0 (by decide) ?_
  refine lv_istore_n (lv' := [(3, .int 0), (0, .ref (ad 9 0)), (1, .int x1), (2, .int x2)]) hx hb dX6_countKeptAs_1 rfl hl (by decide) rfl (fun ls hl => ?_)
  refine lv_iconst (v := 0) hx hb dX6_countKeptAs_2 (by decide) ?_
  refine lv_istore (lv' := [(4, .int 0), (3, .int 0), (0, .ref (ad 9 0)), (1, .int x1), (2, .int x2)]) hx hb dX6_countKeptAs_3 hl (by decide) rfl (fun ls hl => ?_)
  obtain ⟨z34, hz35, hm⟩ := bindS hm
  refine t_X6_countKeptAs_L5 K n S x1 x2 z34 (fun w36 hww36 => ?_) ((0, 0)) hz35 H locs hw ls (lv_sub hl [2, 3, 4, 1, 0] rfl)
  · intro H locs hw ls hl 
    try rw [hww36] at hm
    refine lv_iload_n hx hb dX6_countKeptAs_49 rfl (lv_at hl 0 rfl) ?_
    exact g_iret (GG := GC cy ad) K hw ⟨(Option.some.inj hm).symm, rfl⟩ dX6_countKeptAs_50
set_option maxRecDepth 100000 in
set_option maxHeartbeats 4000000 in
theorem c_X6_countKeptAs (l : Launch) (D : va_G) (cy : Nat → ClassId) (ad : Nat → Nat → Nat) (sz n : Nat) (S : CSt) (x1 : Int32) (x2 : Int32)  {out : Int32} (hm : m_X6_countKeptAs n S x1 x2 = some out) : Met l yX6_countKeptAs wsX6_countKeptAs rm_X6_countKeptAs (va_Pc [.ref (ad 9 0), .int x1, .int x2] (Pre D (tysC cy) (GC cy ad S) (fun _ _ => True) sz)) (va_Qi (fun r (u : CSt) => out = r ∧ u = S) (fun u => Pst D (tysC cy) (AA (adrs (GC cy ad S)) sz) (GC cy ad u)) (AA (adrs (GC cy ad S)) sz)) 0 0 (AA (adrs (GC cy ad S)) sz) := by
  refine g_met (by decide) rfl (Nat.le_of_ble_eq_true rfl) ?_
  intro p e s m args below meth c K hw ls hl
  exact t_X6_countKeptAs_0 (cy := cy) K n S x1 x2  hm _ _ hw ls hl
end W_X6_countKeptAs
section W_X6_rememberAll
variable {p : Program} {l : Launch} {e : Env} {s : State} {m : MethodId} {args : Array Value} {below : List Frame} {meth : Method} {c : Code} {D : va_G} {A : Nat → Prop} {cy : Nat → ClassId} {ad : Nat → Nat → Nat} {Q : State → Prop}
abbrev rm_X6_rememberAll : Room := { frames := 1, cells := 0, slots := 0, locals := 64 }
theorem in_X6_rememberAll_X0 : ∀ w ∈ u_ws RX0 TX0 6, w ∈ wsX6_rememberAll := by decide +kernel
theorem in_X6_rememberAll_X6 : ∀ w ∈ u_ws RX6 TX6 3, w ∈ wsX6_rememberAll := by decide +kernel
set_option maxRecDepth 100000 in
set_option maxHeartbeats 4000000 in
theorem t_X6_rememberAll_L2 (K : Cx p s m args meth c D A (tysC cy) RX6 cX6_rememberAll 3 none wsX6_rememberAll (fun _ _ => True)) (n : Nat) (x1 : Int32)  (z : CSt) (hE0 : ∀ w : CSt, z = w → ∀ (H : Heap) (locs : List Loc), Wd D A s.heap (GC cy ad w) H locs → ∀ ls : Array Slot, lv_has ls 3 [] → W p l e rm_X6_rememberAll s m args below meth c H locs 0 0 Q (F0 m 52 ls [])) : ∀ (x : (CSt × Int32)), lpO (b_X6_rememberAll_2 n x1) n x = some z → (fun (x : (CSt × Int32)) => ∀ (H : Heap) (locs : List Loc), Wd D A s.heap (GC cy ad x.1) H locs → ∀ ls : Array Slot, lv_has ls 3 [(0, .ref (ad 9 0)), (1, .int x1), (2, .int x.2)] → W p l e rm_X6_rememberAll s m args below meth c H locs 0 0 Q (F0 m 2 ls [])) x := by
  intro x hx0
  refine lpO_ind2 (P := fun (x : (CSt × Int32)) => ∀ (H : Heap) (locs : List Loc), Wd D A s.heap (GC cy ad x.1) H locs → ∀ ls : Array Slot, lv_has ls 3 [(0, .ref (ad 9 0)), (1, .int x1), (2, .int x.2)] → W p l e rm_X6_rememberAll s m args below meth c H locs 0 0 Q (F0 m 2 ls [])) (z := z) ?_ n x hx0
  clear hx0 x
  intro x out hm hg H locs hw ls hl 
  obtain ⟨hx, hb, hml, hown, hts, hr, hlo, hK, hA, hX⟩ := id K
  unfold b_X6_rememberAll_2 at hm
  refine lv_iload_n hx hb dX6_rememberAll_2 rfl (lv_at hl 2 rfl) ?_
  refine lv_bipush (v := 24) hx hb dX6_rememberAll_3 (by decide) ?_
  refine lv_icmp_ge (tgt := 52) hx hb dX6_rememberAll_5 (by decide) (fun c24 => ?_) (fun c24 => ?_)
  · replace hm := (if_pos c24).symm.trans hm
    obtain rfl := Option.some.inj hm
    exact hE0 _ hg.symm H locs hw ls (lv_sub hl [] rfl)
  · replace hm := (if_neg c24).symm.trans hm
    refine lv_aload_n hx hb dX6_rememberAll_8 rfl (lv_at hl 0 rfl) ?_
    refine g_get (ref := "MigrantHeap$Store") (C := RX6) (T := TX6) (N := 3) (ci := 6) K in_X6_rememberAll_X6 hw 9 rfl (by decide : 0 < 1) rfl rfl 0 (by decide) (List.mem_of_getElem? (i := 1) rfl) rfl rfl dX6_rememberAll_9 ?_
    refine lv_iload_n hx hb dX6_rememberAll_12 rfl (lv_at hl 2 rfl) ?_
    obtain ⟨h25, hm⟩ := chkS hm
    refine g_aald K hw 10 3 rfl (by decide) rfl rfl h25 dX6_rememberAll_13 ?_
    refine lv_iload_n hx hb dX6_rememberAll_14 rfl (lv_at hl 1 rfl) ?_
    obtain ⟨z27, hc26, hm⟩ := bindS hm
    refine g_calli (GG := GC cy ad) K hw (va_runV (As := [.int x1]) (rest := []) (g_fix K) (c_X0_isOf l D cy ad H.size n x.1 x.2.toNatClampNeg x1 (inB_lt h25) hc26) (cwV 1 (g_hts K) gX6_rememberAll_X0_isOf rfl rfl rfl (by decide +kernel) ⟨Nat.le_of_ble_eq_true rfl, Nat.le_of_ble_eq_true rfl⟩) ⟨g_blind rides_none, g_recv K hw 11 rfl (inB_lt h25) rfl rfl, g_pre (X2 := fun _ _ => True) K hw (fun _ _ _ => trivial)⟩ rfl rfl hl.1 rfl (lv_room (Nat.le_of_ble_eq_true rfl)) dX6_rememberAll_15 ⟨Nat.le_of_ble_eq_true rfl, Nat.le_of_ble_eq_true rfl⟩) (fun r u H locs hp hw => ?_)
    obtain ⟨rfl, hu⟩ := hp
    rw [hu] at hw
    refine lv_if_eq (tgt := 46) hx hb dX6_rememberAll_18 (by decide) (fun c28 => ?_) (fun c28 => ?_)
    · replace hm := (if_pos c28).symm.trans hm
      obtain ⟨x29, hx29, hm⟩ := nm_ex hm
      refine lv_iinc (v := x29) (lv' := [(2, .int x29), (0, .ref (ad 9 0)), (1, .int x1)]) hx hb dX6_rememberAll_46 hl (k := 2) rfl (by rw [hx29]; rfl) (by decide) rfl (fun ls hl => ?_)
      refine lv_goto (tgt := 2) hx hb dX6_rememberAll_49 (by decide) ?_
      obtain rfl := Option.some.inj hm
      exact hg H locs hw ls (lv_sub hl [1, 2, 0] rfl)
    · replace hm := (if_neg c28).symm.trans hm
      refine lv_aload_n hx hb dX6_rememberAll_21 rfl (lv_at hl 0 rfl) ?_
      refine g_get (ref := "MigrantHeap$Store") (C := RX6) (T := TX6) (N := 3) (ci := 6) K in_X6_rememberAll_X6 hw 9 rfl (by decide : 0 < 1) rfl rfl 0 (by decide) (List.mem_of_getElem? (i := 1) rfl) rfl rfl dX6_rememberAll_22 ?_
      refine lv_iload_n hx hb dX6_rememberAll_25 rfl (lv_at hl 2 rfl) ?_
      obtain ⟨h30, hm⟩ := chkS hm
      refine g_aald K hw 10 3 rfl (by decide) rfl rfl h30 dX6_rememberAll_26 ?_
      refine g_get (ref := "MigrantHeap$Entry") (C := RX0) (T := TX0) (N := 6) (ci := 0) K in_X6_rememberAll_X0 hw 11 rfl (inB_lt h30) rfl rfl 4 (by decide) (List.mem_of_getElem? (i := 2) rfl) rfl rfl dX6_rememberAll_27 ?_
      refine lv_iconst (v := 0) hx hb dX6_rememberAll_30 (by decide) ?_
      refine lv_aload_n hx hb dX6_rememberAll_31 rfl (lv_at hl 0 rfl) ?_
      refine g_get (ref := "MigrantHeap$Store") (C := RX6) (T := TX6) (N := 3) (ci := 6) K in_X6_rememberAll_X6 hw 9 rfl (by decide : 0 < 1) rfl rfl 0 (by decide) (List.mem_of_getElem? (i := 1) rfl) rfl rfl dX6_rememberAll_32 ?_
      refine lv_iload_n hx hb dX6_rememberAll_35 rfl (lv_at hl 2 rfl) ?_
      obtain ⟨h31, hm⟩ := chkS hm
      refine g_aald K hw 10 3 rfl (by decide) rfl rfl h31 dX6_rememberAll_36 ?_
      refine g_get (ref := "MigrantHeap$Entry") (C := RX0) (T := TX0) (N := 6) (ci := 0) K in_X6_rememberAll_X0 hw 11 rfl (inB_lt h31) rfl rfl 5 (by decide) (List.mem_of_getElem? (i := 3) rfl) rfl rfl dX6_rememberAll_37 ?_
      refine lv_iconst (v := 0) hx hb dX6_rememberAll_40 (by decide) ?_
      refine lv_bipush (v := 6) hx hb dX6_rememberAll_41 (by decide) ?_
      refine g_copy K hw (List.mem_of_getElem? (i := 4) rfl) (List.mem_of_getElem? (i := 5) rfl) (List.mem_of_getElem? (i := 6) rfl) (List.mem_of_getElem? (i := 7) rfl) hl.1 12 13 0 rfl (inB_lt h30) rfl (inB_lt h31) rfl rfl rfl (by decide) (by decide) (by decide) (by decide) (by decide) (Nat.le_of_ble_eq_true rfl) (by decide) dX6_rememberAll_43 (eR_18 cy ad x.1 x.2.toNatClampNeg _) (fun H locs hw => ?_)
      obtain ⟨S32, hS32, hm⟩ := nm_ex hm
      rw [← hS32] at hw
      obtain ⟨x33, hx33, hm⟩ := nm_ex hm
      refine lv_iinc (v := x33) (lv' := [(2, .int x33), (0, .ref (ad 9 0)), (1, .int x1)]) hx hb dX6_rememberAll_46 hl (k := 2) rfl (by rw [hx33]; rfl) (by decide) rfl (fun ls hl => ?_)
      refine lv_goto (tgt := 2) hx hb dX6_rememberAll_49 (by decide) ?_
      obtain rfl := Option.some.inj hm
      exact hg H locs hw ls (lv_sub hl [1, 2, 0] rfl)
set_option maxRecDepth 100000 in
set_option maxHeartbeats 4000000 in
theorem t_X6_rememberAll_0 (K : Cx p s m args meth c D A (tysC cy) RX6 cX6_rememberAll 3 none wsX6_rememberAll (fun _ _ => True)) (n : Nat) (S : CSt) (x1 : Int32)  {out : CSt} (hm : m_X6_rememberAll n S x1 = some out) : ∀ (H : Heap) (locs : List Loc), Wd D A s.heap (GC cy ad S) H locs → ∀ ls : Array Slot, lv_has ls 3 [(0, .ref (ad 9 0)), (1, .int x1)] → W p l e rm_X6_rememberAll s m args below meth c H locs 0 0 (MQ below (va_Qv (fun (u : CSt) => out = u) (fun u => Pst D (tysC cy) A (GC cy ad u)) A) args s 0 0 A) (F0 m 0 ls []) := by
  intro H locs hw ls hl
  obtain ⟨hx, hb, hml, hown, hts, hr, hlo, hK, hA, hX⟩ := id K
  unfold m_X6_rememberAll at hm
  refine lv_iconst (v := 0) hx hb dX6_rememberAll_0 (by decide) ?_
  refine lv_istore_n (lv' := [(2, .int 0), (0, .ref (ad 9 0)), (1, .int x1)]) hx hb dX6_rememberAll_1 rfl hl (by decide) rfl (fun ls hl => ?_)
  obtain ⟨z34, hz35, hm⟩ := bindS hm
  refine t_X6_rememberAll_L2 K n x1 z34 (fun w36 hww36 => ?_) ((S, 0)) hz35 H locs hw ls (lv_sub hl [1, 2, 0] rfl)
  · intro H locs hw ls hl 
    try rw [hww36] at hm
    exact g_vret (GG := GC cy ad) K hw (Option.some.inj hm).symm dX6_rememberAll_52
set_option maxRecDepth 100000 in
set_option maxHeartbeats 4000000 in
theorem c_X6_rememberAll (l : Launch) (D : va_G) (cy : Nat → ClassId) (ad : Nat → Nat → Nat) (sz n : Nat) (S : CSt) (x1 : Int32)  {out : CSt} (hm : m_X6_rememberAll n S x1 = some out) : Met l yX6_rememberAll wsX6_rememberAll rm_X6_rememberAll (va_Pc [.ref (ad 9 0), .int x1] (Pre D (tysC cy) (GC cy ad S) (fun _ _ => True) sz)) (va_Qv (fun (u : CSt) => out = u) (fun u => Pst D (tysC cy) (AA (adrs (GC cy ad S)) sz) (GC cy ad u)) (AA (adrs (GC cy ad S)) sz)) 0 0 (AA (adrs (GC cy ad S)) sz) := by
  refine g_met (by decide) rfl (Nat.le_of_ble_eq_true rfl) ?_
  intro p e s m args below meth c K hw ls hl
  exact t_X6_rememberAll_0 (cy := cy) K n S x1  hm _ _ hw ls hl
end W_X6_rememberAll
section W_X7_newClass
variable {p : Program} {l : Launch} {e : Env} {s : State} {m : MethodId} {args : Array Value} {below : List Frame} {meth : Method} {c : Code} {D : va_G} {A : Nat → Prop} {cy : Nat → ClassId} {ad : Nat → Nat → Nat} {Q : State → Prop}
abbrev rm_X7_newClass : Room := { frames := 6, cells := 1, slots := 6, locals := 100 }
theorem in_X7_newClass_X7 : ∀ w ∈ u_ws RX7 TX7 11, w ∈ wsX7_newClass := by decide +kernel
set_option maxRecDepth 100000 in
set_option maxHeartbeats 4000000 in
theorem t_X7_newClass_0 (K : Cx p s m args meth c D A (tysC cy) RX7 cX7_newClass 1 (some .int) wsX7_newClass EV) (hno : ∀ x ∈ c.exceptionTable.toList, False) (hl9 : l.stackTraces = false) (n : Nat) (S : CSt)   {out : (Int32 × CSt) ⊕ (Nat × CSt)} (hm : m_X7_newClass n S  = some out) : ∀ (H : Heap) (locs : List Loc), Wd D A s.heap (GC cy ad S) H locs → ∀ ls : Array Slot, lv_has ls 1 [(0, .ref (ad 0 0))] → W p l e rm_X7_newClass s m args below meth c H locs 0 0 (vx_MQ below (va_Qi (fun r (u : CSt) => out = .inl (r, u)) (fun u => Pst D (tysC cy) A (GC cy ad u)) A) (XCx D (tysC cy) A (GC cy ad) out) args s 1 6 A) (F0 m 0 ls []) := by
  intro H locs hw ls hl
  obtain ⟨hx, hb, hml, hown, hts, hr, hlo, hK, hA, hX⟩ := id K
  unfold m_X7_newClass at hm
  refine lv_aload_n hx hb dX7_newClass_0 rfl (lv_at hl 0 rfl) ?_
  refine g_get (ref := "MigrantHeap") (C := RX7) (T := TX7) (N := 11) (ci := 7) K in_X7_newClass_X7 hw 0 rfl (by decide : 0 < 1) rfl rfl 1 (by decide) (List.mem_of_getElem? (i := 3) rfl) rfl rfl dX7_newClass_1 ?_
  refine lv_iconst (v := 4) hx hb dX7_newClass_4 (by decide) ?_
  refine lv_icmp_lt (tgt := 18) hx hb dX7_newClass_5 (by decide) (fun c3 => ?_) (fun c3 => ?_)
  · replace hm := (if_pos c3).symm.trans hm
    refine lv_aload_n hx hb dX7_newClass_18 rfl (lv_at hl 0 rfl) ?_
    refine lv_dup hx hb dX7_newClass_19 rfl ?_
    refine g_get (ref := "MigrantHeap") (C := RX7) (T := TX7) (N := 11) (ci := 7) K in_X7_newClass_X7 hw 0 rfl (by decide : 0 < 1) rfl rfl 1 (by decide) (List.mem_of_getElem? (i := 3) rfl) rfl rfl dX7_newClass_20 ?_
    refine lv_iconst (v := 1) hx hb dX7_newClass_23 (by decide) ?_
    refine lv_iadd hx hb dX7_newClass_24 ?_
    refine g_put (v := .int ((S.1 0 0 0) + 1)) (ty := .int) (ref := "MigrantHeap") (C := RX7) (T := TX7) (N := 11) (ci := 7) K in_X7_newClass_X7 tyX7 tyX7_ok nmX7 hw 0 rfl (by decide : 0 < 1) rfl rfl 1 (by decide) (List.mem_of_getElem? (i := 3) rfl) rfl rfl (by decide +kernel) rfl rfl (Nat.le_of_ble_eq_true rfl) dX7_newClass_25 (eC_0 cy ad S 0 ((S.1 0 0 0) + 1)) (fun H locs hw => ?_)
    obtain ⟨S4, hS4, hm⟩ := nm_ex hm
    rw [← hS4] at hw
    refine lv_aload_n hx hb dX7_newClass_28 rfl (lv_at hl 0 rfl) ?_
    refine g_get (ref := "MigrantHeap") (C := RX7) (T := TX7) (N := 11) (ci := 7) K in_X7_newClass_X7 hw 0 rfl (by decide : 0 < 1) rfl rfl 1 (by decide) (List.mem_of_getElem? (i := 3) rfl) rfl rfl dX7_newClass_29 ?_
    refine lv_iconst (v := 1) hx hb dX7_newClass_32 (by decide) ?_
    refine lv_isub hx hb dX7_newClass_33 ?_
    refine vx_ret (W.widen (k := 1) (n := 6) (Nat.le_of_ble_eq_true rfl) (Nat.le_of_ble_eq_true rfl) ?_)
    exact g_iret (GG := GC cy ad) K hw (Option.some.inj hm).symm dX7_newClass_34
  · replace hm := (if_neg c3).symm.trans hm
    obtain ⟨sa5, hs6⟩ := hX.2.1 (70, _) (List.mem_of_getElem? (i := 0) rfl)
    exact vx_throwS (own := RX7) (cls := "java/lang/IllegalStateException") (names := rteL) (sa := sa5) hx hb hl9 hown (by decide +kernel) (by decide +kernel) (hts _ (List.mem_of_getElem? (i := 1) rfl)) (hts _ (List.mem_of_getElem? (i := 2) rfl)) hs6 (ev_hat hX (by decide) hts (by decide +kernel) (by decide +kernel)) (by decide +kernel) hX.2.2.2.2.1 hX.2.2.2.2.2 hw.2.2 (hl.1.trans hml.symm) dX7_newClass_8 dX7_newClass_11 dX7_newClass_12 dX7_newClass_14 dX7_newClass_17 (fun x h => (hno x h).elim) (Nat.le_of_ble_eq_true rfl) (Nat.le_of_ble_eq_true rfl) (Nat.le_of_ble_eq_true rfl) (Nat.le_of_ble_eq_true rfl) hlo (g_xc (GG := GC cy ad) K hw (Option.some.inj hm).symm rfl) hw.2.2.2.2 (Nat.le_of_ble_eq_true rfl) (Nat.le_of_ble_eq_true rfl)
set_option maxRecDepth 100000 in
set_option maxHeartbeats 4000000 in
theorem c_X7_newClass (l : Launch) (hl9 : l.stackTraces = false) (D : va_G) (cy : Nat → ClassId) (ad : Nat → Nat → Nat) (sz n : Nat) (S : CSt)   {out : (Int32 × CSt) ⊕ (Nat × CSt)} (hm : m_X7_newClass n S  = some out) : vx_Met l yX7_newClass wsX7_newClass rm_X7_newClass (va_Pc [.ref (ad 0 0)] (Pre D (tysC cy) (GC cy ad S) EV sz)) (va_Qi (fun r (u : CSt) => out = .inl (r, u)) (fun u => Pst D (tysC cy) (AA (adrs (GC cy ad S)) sz) (GC cy ad u)) (AA (adrs (GC cy ad S)) sz)) (XCx D (tysC cy) (AA (adrs (GC cy ad S)) sz) (GC cy ad) out) 1 6 (AA (adrs (GC cy ad S)) sz) := by
  refine g_xmet (by decide) rfl (Nat.le_of_ble_eq_true rfl) ?_
  intro p e s m args below meth c K hno hw ls hl
  exact t_X7_newClass_0 (cy := cy) K hno hl9 n S   hm _ _ hw ls hl
end W_X7_newClass
section W_X7_isClass
variable {p : Program} {l : Launch} {e : Env} {s : State} {m : MethodId} {args : Array Value} {below : List Frame} {meth : Method} {c : Code} {D : va_G} {A : Nat → Prop} {cy : Nat → ClassId} {ad : Nat → Nat → Nat} {Q : State → Prop}
abbrev rm_X7_isClass : Room := { frames := 0, cells := 0, slots := 0, locals := 0 }
theorem in_X7_isClass_X7 : ∀ w ∈ u_ws RX7 TX7 11, w ∈ wsX7_isClass := by decide +kernel
set_option maxRecDepth 100000 in
set_option maxHeartbeats 4000000 in
theorem t_X7_isClass_0 (K : Cx p s m args meth c D A (tysC cy) RX7 cX7_isClass 2 (some .boolean) wsX7_isClass (fun _ _ => True)) (n : Nat) (S : CSt) (x1 : Int32)  {out : Int32} (hm : m_X7_isClass n S x1 = some out) : ∀ (H : Heap) (locs : List Loc), Wd D A s.heap (GC cy ad S) H locs → ∀ ls : Array Slot, lv_has ls 2 [(0, .ref (ad 0 0)), (1, .int x1)] → W p l e rm_X7_isClass s m args below meth c H locs 0 0 (MQ below (va_Qi (fun r (u : CSt) => out = r ∧ u = S) (fun u => Pst D (tysC cy) A (GC cy ad u)) A) args s 0 0 A) (F0 m 0 ls []) := by
  intro H locs hw ls hl
  obtain ⟨hx, hb, hml, hown, hts, hr, hlo, hK, hA, hX⟩ := id K
  unfold m_X7_isClass at hm
  refine lv_iload_n hx hb dX7_isClass_0 rfl (lv_at hl 1 rfl) ?_
  refine lv_if_lt (tgt := 16) hx hb dX7_isClass_1 (by decide) (fun c1 => ?_) (fun c1 => ?_)
  · replace hm := (if_pos c1).symm.trans hm
    refine lv_iconst (v := 0) hx hb dX7_isClass_16 (by decide) ?_
    exact g_zret (GG := GC cy ad) K hw rfl ⟨(Option.some.inj hm).symm, rfl⟩ dX7_isClass_17
  · replace hm := (if_neg c1).symm.trans hm
    refine lv_iload_n hx hb dX7_isClass_4 rfl (lv_at hl 1 rfl) ?_
    refine lv_aload_n hx hb dX7_isClass_5 rfl (lv_at hl 0 rfl) ?_
    refine g_get (ref := "MigrantHeap") (C := RX7) (T := TX7) (N := 11) (ci := 7) K in_X7_isClass_X7 hw 0 rfl (by decide : 0 < 1) rfl rfl 1 (by decide) (List.mem_of_getElem? (i := 1) rfl) rfl rfl dX7_isClass_6 ?_
    refine lv_icmp_ge (tgt := 16) hx hb dX7_isClass_9 (by decide) (fun c2 => ?_) (fun c2 => ?_)
    · replace hm := (if_pos c2).symm.trans hm
      refine lv_iconst (v := 0) hx hb dX7_isClass_16 (by decide) ?_
      exact g_zret (GG := GC cy ad) K hw rfl ⟨(Option.some.inj hm).symm, rfl⟩ dX7_isClass_17
    · replace hm := (if_neg c2).symm.trans hm
      refine lv_iconst (v := 1) hx hb dX7_isClass_12 (by decide) ?_
      refine lv_goto (tgt := 17) hx hb dX7_isClass_13 (by decide) ?_
      exact g_zret (GG := GC cy ad) K hw rfl ⟨(Option.some.inj hm).symm, rfl⟩ dX7_isClass_17
set_option maxRecDepth 100000 in
set_option maxHeartbeats 4000000 in
theorem c_X7_isClass (l : Launch) (D : va_G) (cy : Nat → ClassId) (ad : Nat → Nat → Nat) (sz n : Nat) (S : CSt) (x1 : Int32)  {out : Int32} (hm : m_X7_isClass n S x1 = some out) : Met l yX7_isClass wsX7_isClass rm_X7_isClass (va_Pc [.ref (ad 0 0), .int x1] (Pre D (tysC cy) (GC cy ad S) (fun _ _ => True) sz)) (va_Qi (fun r (u : CSt) => out = r ∧ u = S) (fun u => Pst D (tysC cy) (AA (adrs (GC cy ad S)) sz) (GC cy ad u)) (AA (adrs (GC cy ad S)) sz)) 0 0 (AA (adrs (GC cy ad S)) sz) := by
  refine g_met (by decide) rfl (Nat.le_of_ble_eq_true rfl) ?_
  intro p e s m args below meth c K hw ls hl
  exact t_X7_isClass_0 (cy := cy) K n S x1  hm _ _ hw ls hl
end W_X7_isClass
section W_X7_needClass
variable {p : Program} {l : Launch} {e : Env} {s : State} {m : MethodId} {args : Array Value} {below : List Frame} {meth : Method} {c : Code} {D : va_G} {A : Nat → Prop} {cy : Nat → ClassId} {ad : Nat → Nat → Nat} {Q : State → Prop}
abbrev rm_X7_needClass : Room := { frames := 6, cells := 1, slots := 6, locals := 100 }
set_option maxRecDepth 100000 in
set_option maxHeartbeats 4000000 in
theorem t_X7_needClass_0 (K : Cx p s m args meth c D A (tysC cy) RX7 cX7_needClass 2 none wsX7_needClass EV) (hno : ∀ x ∈ c.exceptionTable.toList, False) (hl9 : l.stackTraces = false) (n : Nat) (S : CSt) (x1 : Int32)  {out : (Unit) ⊕ (Nat × CSt)} (hm : m_X7_needClass n S x1 = some out) : ∀ (H : Heap) (locs : List Loc), Wd D A s.heap (GC cy ad S) H locs → ∀ ls : Array Slot, lv_has ls 2 [(0, .ref (ad 0 0)), (1, .int x1)] → W p l e rm_X7_needClass s m args below meth c H locs 0 0 (vx_MQ below (va_Qv (fun (u : CSt) => out = .inl () ∧ u = S) (fun u => Pst D (tysC cy) A (GC cy ad u)) A) (XCx D (tysC cy) A (GC cy ad) out) args s 1 6 A) (F0 m 0 ls []) := by
  intro H locs hw ls hl
  obtain ⟨hx, hb, hml, hown, hts, hr, hlo, hK, hA, hX⟩ := id K
  unfold m_X7_needClass at hm
  refine lv_aload_n hx hb dX7_needClass_0 rfl (lv_at hl 0 rfl) ?_
  refine lv_iload_n hx hb dX7_needClass_1 rfl (lv_at hl 1 rfl) ?_
  obtain ⟨z6, hc5, hm⟩ := bindS hm
  refine g_calli (GG := GC cy ad) K hw (va_runV (As := [.int x1]) (rest := []) (g_fix K) (c_X7_isClass l D cy ad H.size n S x1  hc5) (cwV 1 (g_hts K) gX7_needClass_X7_isClass rfl rfl rfl (by decide +kernel) ⟨Nat.le_of_ble_eq_true rfl, Nat.le_of_ble_eq_true rfl⟩) ⟨g_blind rides_none, g_recv K hw 0 rfl (by decide : 0 < 1) rfl rfl, g_pre (X2 := fun _ _ => True) K hw (fun _ _ _ => trivial)⟩ rfl rfl hl.1 rfl (lv_room (Nat.le_of_ble_eq_true rfl)) dX7_needClass_2 ⟨Nat.le_of_ble_eq_true rfl, Nat.le_of_ble_eq_true rfl⟩) (fun r u H locs hp hw => ?_)
  obtain ⟨rfl, hu⟩ := hp
  rw [hu] at hw
  refine lv_if_ne (tgt := 18) hx hb dX7_needClass_5 (by decide) (fun c7 => ?_) (fun c7 => ?_)
  · replace hm := (if_pos c7).symm.trans hm
    refine vx_ret (W.widen (k := 1) (n := 6) (Nat.le_of_ble_eq_true rfl) (Nat.le_of_ble_eq_true rfl) ?_)
    exact g_vret (GG := GC cy ad) K hw ⟨(Option.some.inj hm).symm, rfl⟩ dX7_needClass_18
  · replace hm := (if_neg (fun h => h c7)).symm.trans hm
    obtain ⟨sa8, hs9⟩ := hX.2.1 (255, _) (List.mem_of_getElem? (i := 14) rfl)
    exact vx_throwS (own := RX7) (cls := "java/lang/IllegalArgumentException") (names := rteL) (sa := sa8) hx hb hl9 hown (by decide +kernel) (by decide +kernel) (hts _ (List.mem_of_getElem? (i := 1) rfl)) (hts _ (List.mem_of_getElem? (i := 2) rfl)) hs9 (ev_hat hX (by decide) hts (by decide +kernel) (by decide +kernel)) (by decide +kernel) hX.2.2.2.2.1 hX.2.2.2.2.2 hw.2.2 (hl.1.trans hml.symm) dX7_needClass_8 dX7_needClass_11 dX7_needClass_12 dX7_needClass_14 dX7_needClass_17 (fun x h => (hno x h).elim) (Nat.le_of_ble_eq_true rfl) (Nat.le_of_ble_eq_true rfl) (Nat.le_of_ble_eq_true rfl) (Nat.le_of_ble_eq_true rfl) hlo (g_xc (GG := GC cy ad) K hw (Option.some.inj hm).symm rfl) hw.2.2.2.2 (Nat.le_of_ble_eq_true rfl) (Nat.le_of_ble_eq_true rfl)
set_option maxRecDepth 100000 in
set_option maxHeartbeats 4000000 in
theorem c_X7_needClass (l : Launch) (hl9 : l.stackTraces = false) (D : va_G) (cy : Nat → ClassId) (ad : Nat → Nat → Nat) (sz n : Nat) (S : CSt) (x1 : Int32)  {out : (Unit) ⊕ (Nat × CSt)} (hm : m_X7_needClass n S x1 = some out) : vx_Met l yX7_needClass wsX7_needClass rm_X7_needClass (va_Pc [.ref (ad 0 0), .int x1] (Pre D (tysC cy) (GC cy ad S) EV sz)) (va_Qv (fun (u : CSt) => out = .inl () ∧ u = S) (fun u => Pst D (tysC cy) (AA (adrs (GC cy ad S)) sz) (GC cy ad u)) (AA (adrs (GC cy ad S)) sz)) (XCx D (tysC cy) (AA (adrs (GC cy ad S)) sz) (GC cy ad) out) 1 6 (AA (adrs (GC cy ad S)) sz) := by
  refine g_xmet (by decide) rfl (Nat.le_of_ble_eq_true rfl) ?_
  intro p e s m args below meth c K hno hw ls hl
  exact t_X7_needClass_0 (cy := cy) K hno hl9 n S x1  hm _ _ hw ls hl
end W_X7_needClass
section W_X7_needRoot
variable {p : Program} {l : Launch} {e : Env} {s : State} {m : MethodId} {args : Array Value} {below : List Frame} {meth : Method} {c : Code} {D : va_G} {A : Nat → Prop} {cy : Nat → ClassId} {ad : Nat → Nat → Nat} {Q : State → Prop}
abbrev rm_X7_needRoot : Room := { frames := 6, cells := 1, slots := 6, locals := 100 }
set_option maxRecDepth 100000 in
set_option maxHeartbeats 4000000 in
theorem t_X7_needRoot_0 (K : Cx p s m args meth c D A (tysC cy) RX7 cX7_needRoot 1 none wsX7_needRoot EV) (hno : ∀ x ∈ c.exceptionTable.toList, False) (hl9 : l.stackTraces = false) (n : Nat) (S : CSt) (x0 : Int32)  {out : (Unit) ⊕ (Nat × CSt)} (hm : m_X7_needRoot n S x0 = some out) : ∀ (H : Heap) (locs : List Loc), Wd D A s.heap (GC cy ad S) H locs → ∀ ls : Array Slot, lv_has ls 1 [(0, .int x0)] → W p l e rm_X7_needRoot s m args below meth c H locs 0 0 (vx_MQ below (va_Qv (fun (u : CSt) => out = .inl () ∧ u = S) (fun u => Pst D (tysC cy) A (GC cy ad u)) A) (XCx D (tysC cy) A (GC cy ad) out) args s 1 6 A) (F0 m 0 ls []) := by
  intro H locs hw ls hl
  obtain ⟨hx, hb, hml, hown, hts, hr, hlo, hK, hA, hX⟩ := id K
  unfold m_X7_needRoot at hm
  refine lv_iload_n hx hb dX7_needRoot_0 rfl (lv_at hl 0 rfl) ?_
  refine lv_if_lt (tgt := 10) hx hb dX7_needRoot_1 (by decide) (fun c1 => ?_) (fun c1 => ?_)
  · replace hm := (if_pos c1).symm.trans hm
    obtain ⟨sa2, hs3⟩ := hX.2.1 (257, _) (List.mem_of_getElem? (i := 15) rfl)
    exact vx_throwSW (own := RX7) (cls := "java/lang/IllegalArgumentException") (names := rteL) (sa := sa2) hx hb hl9 hown (by decide +kernel) (by decide +kernel) (hts _ (List.mem_of_getElem? (i := 1) rfl)) (hts _ (List.mem_of_getElem? (i := 2) rfl)) hs3 (ev_hat hX (by decide) hts (by decide +kernel) (by decide +kernel)) (by decide +kernel) hX.2.2.2.2.1 hX.2.2.2.2.2 hw.2.2 (hl.1.trans hml.symm) dX7_needRoot_10 dX7_needRoot_13 dX7_needRoot_14 dX7_needRoot_17 dX7_needRoot_20 (fun x h => (hno x h).elim) (Nat.le_of_ble_eq_true rfl) (Nat.le_of_ble_eq_true rfl) (Nat.le_of_ble_eq_true rfl) (Nat.le_of_ble_eq_true rfl) hlo (g_xc (GG := GC cy ad) K hw (Option.some.inj hm).symm rfl) hw.2.2.2.2 (Nat.le_of_ble_eq_true rfl) (Nat.le_of_ble_eq_true rfl)
  · replace hm := (if_neg c1).symm.trans hm
    refine lv_iload_n hx hb dX7_needRoot_4 rfl (lv_at hl 0 rfl) ?_
    refine lv_bipush (v := 8) hx hb dX7_needRoot_5 (by decide) ?_
    refine lv_icmp_lt (tgt := 21) hx hb dX7_needRoot_7 (by decide) (fun c4 => ?_) (fun c4 => ?_)
    · replace hm := (if_pos c4).symm.trans hm
      refine vx_ret (W.widen (k := 1) (n := 6) (Nat.le_of_ble_eq_true rfl) (Nat.le_of_ble_eq_true rfl) ?_)
      exact g_vret (GG := GC cy ad) K hw ⟨(Option.some.inj hm).symm, rfl⟩ dX7_needRoot_21
    · replace hm := (if_neg c4).symm.trans hm
      obtain ⟨sa5, hs6⟩ := hX.2.1 (257, _) (List.mem_of_getElem? (i := 15) rfl)
      exact vx_throwSW (own := RX7) (cls := "java/lang/IllegalArgumentException") (names := rteL) (sa := sa5) hx hb hl9 hown (by decide +kernel) (by decide +kernel) (hts _ (List.mem_of_getElem? (i := 1) rfl)) (hts _ (List.mem_of_getElem? (i := 2) rfl)) hs6 (ev_hat hX (by decide) hts (by decide +kernel) (by decide +kernel)) (by decide +kernel) hX.2.2.2.2.1 hX.2.2.2.2.2 hw.2.2 (hl.1.trans hml.symm) dX7_needRoot_10 dX7_needRoot_13 dX7_needRoot_14 dX7_needRoot_17 dX7_needRoot_20 (fun x h => (hno x h).elim) (Nat.le_of_ble_eq_true rfl) (Nat.le_of_ble_eq_true rfl) (Nat.le_of_ble_eq_true rfl) (Nat.le_of_ble_eq_true rfl) hlo (g_xc (GG := GC cy ad) K hw (Option.some.inj hm).symm rfl) hw.2.2.2.2 (Nat.le_of_ble_eq_true rfl) (Nat.le_of_ble_eq_true rfl)
set_option maxRecDepth 100000 in
set_option maxHeartbeats 4000000 in
theorem c_X7_needRoot (l : Launch) (hl9 : l.stackTraces = false) (D : va_G) (cy : Nat → ClassId) (ad : Nat → Nat → Nat) (sz n : Nat) (S : CSt) (x0 : Int32)  {out : (Unit) ⊕ (Nat × CSt)} (hm : m_X7_needRoot n S x0 = some out) : vx_Met l yX7_needRoot wsX7_needRoot rm_X7_needRoot (va_Pc [.int x0] (Pre D (tysC cy) (GC cy ad S) EV sz)) (va_Qv (fun (u : CSt) => out = .inl () ∧ u = S) (fun u => Pst D (tysC cy) (AA (adrs (GC cy ad S)) sz) (GC cy ad u)) (AA (adrs (GC cy ad S)) sz)) (XCx D (tysC cy) (AA (adrs (GC cy ad S)) sz) (GC cy ad) out) 1 6 (AA (adrs (GC cy ad S)) sz) := by
  refine g_xmet (by decide) rfl (Nat.le_of_ble_eq_true rfl) ?_
  intro p e s m args below meth c K hno hw ls hl
  exact t_X7_needRoot_0 (cy := cy) K hno hl9 n S x0  hm _ _ hw ls hl
end W_X7_needRoot
section W_X7_newRecord
variable {p : Program} {l : Launch} {e : Env} {s : State} {m : MethodId} {args : Array Value} {below : List Frame} {meth : Method} {c : Code} {D : va_G} {A : Nat → Prop} {cy : Nat → ClassId} {ad : Nat → Nat → Nat} {Q : State → Prop}
abbrev rm_X7_newRecord : Room := { frames := 2, cells := 0, slots := 0, locals := 45 }
theorem in_X7_newRecord_X2 : ∀ w ∈ u_ws RX2 TX2 4, w ∈ wsX7_newRecord := by decide +kernel
theorem in_X7_newRecord_X7 : ∀ w ∈ u_ws RX7 TX7 11, w ∈ wsX7_newRecord := by decide +kernel
set_option maxRecDepth 100000 in
set_option maxHeartbeats 4000000 in
theorem t_X7_newRecord_0 (K : Cx p s m args meth c D A (tysC cy) RX7 cX7_newRecord 3 (some (.object "MigrantHeap$Entry")) wsX7_newRecord (fun _ _ => True)) (n : Nat) (S : CSt) (x1 : Int32)  {out : Option Nat × CSt} (hm : m_X7_newRecord n S x1 = some out) : ∀ (H : Heap) (locs : List Loc), Wd D A s.heap (GC cy ad S) H locs → ∀ ls : Array Slot, lv_has ls 3 [(0, .ref (ad 0 0)), (1, .int x1)] → W p l e rm_X7_newRecord s m args below meth c H locs 0 0 (MQ below (va_Qq (fun r (u : CSt) => r = out.1.map (ad 11) ∧ u = out.2) (fun u => Pst D (tysC cy) A (GC cy ad u)) A) args s 0 0 A) (F0 m 0 ls []) := by
  intro H locs hw ls hl
  obtain ⟨hx, hb, hml, hown, hts, hr, hlo, hK, hA, hX⟩ := id K
  unfold m_X7_newRecord at hm
  refine lv_aload_n hx hb dX7_newRecord_0 rfl (lv_at hl 0 rfl) ?_
  refine g_get (ref := "MigrantHeap") (C := RX7) (T := TX7) (N := 11) (ci := 7) K in_X7_newRecord_X7 hw 0 rfl (by decide : 0 < 1) rfl rfl 0 (by decide) (List.mem_of_getElem? (i := 1) rfl) rfl rfl dX7_newRecord_1 ?_
  refine lv_iload_n hx hb dX7_newRecord_4 rfl (lv_at hl 1 rfl) ?_
  obtain ⟨h11, hm⟩ := chkS hm
  refine g_aald K hw 1 4 rfl (by decide) rfl rfl h11 dX7_newRecord_5 ?_
  refine lv_astore_n (lv' := [(2, .ref (ad 2 x1.toNatClampNeg)), (0, .ref (ad 0 0)), (1, .int x1)]) hx hb dX7_newRecord_6 rfl hl (by decide) rfl (fun ls hl => ?_)
  refine lv_aload_n hx hb dX7_newRecord_7 rfl (lv_at hl 0 rfl) ?_
  refine lv_iconst (v := 0) hx hb dX7_newRecord_8 (by decide) ?_
  refine g_put (v := .int 0) (ty := .boolean) (ref := "MigrantHeap$Kind") (C := RX2) (T := TX2) (N := 4) (ci := 2) K in_X7_newRecord_X2 tyX2 tyX2_ok nmX2 hw 2 rfl (inB_lt h11) rfl rfl 1 (by decide) (List.mem_of_getElem? (i := 2) rfl) rfl rfl (by decide +kernel) rfl rfl (Nat.le_of_ble_eq_true rfl) dX7_newRecord_9 (eC_4 cy ad S x1.toNatClampNeg 0) (fun H locs hw => ?_)
  obtain ⟨S12, hS12, hm⟩ := nm_ex hm
  rw [← hS12] at hw
  refine lv_aload_n hx hb dX7_newRecord_12 rfl (lv_at hl 1 rfl) ?_
  refine g_get (ref := "MigrantHeap") (C := RX7) (T := TX7) (N := 11) (ci := 7) K in_X7_newRecord_X7 hw 0 rfl (by decide : 0 < 1) rfl rfl 2 (by decide) (List.mem_of_getElem? (i := 3) rfl) rfl rfl dX7_newRecord_13 ?_
  refine lv_iload_n hx hb dX7_newRecord_16 rfl (lv_at hl 2 rfl) ?_
  refine lv_aload_n hx hb dX7_newRecord_17 rfl (lv_at hl 0 rfl) ?_
  refine g_get (ref := "MigrantHeap$Kind") (C := RX2) (T := TX2) (N := 4) (ci := 2) K in_X7_newRecord_X2 hw 2 rfl (inB_lt h11) rfl rfl 0 (by decide) (List.mem_of_getElem? (i := 4) rfl) rfl rfl dX7_newRecord_18 ?_
  obtain ⟨z14, hc13, hm⟩ := bindS hm
  refine g_callq (GG := GC cy ad) K hw (va_runV (As := [.int x1, .int (S12.1 3 x1.toNatClampNeg 0)]) (rest := []) (g_fix K) (c_X6_add l D cy ad H.size n S12 x1 (S12.1 3 x1.toNatClampNeg 0)  hc13) (cwV 2 (g_hts K) gX7_newRecord_X6_add rfl rfl rfl (by decide +kernel) ⟨Nat.le_of_ble_eq_true rfl, Nat.le_of_ble_eq_true rfl⟩) ⟨g_blind rides_none, g_recv K hw 9 rfl (by decide : 0 < 1) rfl rfl, g_pre (X2 := fun _ _ => True) K hw (fun _ _ _ => trivial)⟩ rfl rfl hl.1 rfl (lv_room (Nat.le_of_ble_eq_true rfl)) dX7_newRecord_21 ⟨Nat.le_of_ble_eq_true rfl, Nat.le_of_ble_eq_true rfl⟩) (fun r u H locs hp hw => ?_)
  obtain ⟨rfl, rfl⟩ := hp
  rcases hq17 : z14.1 with _ | i15
  · rw [hq17] at hm
    replace hm := (optN _ _).symm.trans hm
    refine W.eq (g2 := F0 m 24 ls (.null :: [])) (by first | rfl | (rw [hq17]; rfl)) ?_
    exact g_aret (GG := GC cy ad) (r := none) K hw (by cases hm; exact ⟨rfl, rfl⟩) dX7_newRecord_24
  · rw [hq17] at hm
    replace hm := (optS _ _ _).symm.trans hm
    obtain ⟨h16, hm⟩ := chkS hm
    replace h16 := of_decide_eq_true h16
    refine W.eq (g2 := F0 m 24 ls (.ref (ad 11 i15) :: [])) (by first | rfl | (rw [hq17]; rfl)) ?_
    exact g_aret (GG := GC cy ad) (r := some (ad 11 i15)) K hw (by cases hm; exact ⟨rfl, rfl⟩) dX7_newRecord_24
set_option maxRecDepth 100000 in
set_option maxHeartbeats 4000000 in
theorem c_X7_newRecord (l : Launch) (D : va_G) (cy : Nat → ClassId) (ad : Nat → Nat → Nat) (sz n : Nat) (S : CSt) (x1 : Int32)  {out : Option Nat × CSt} (hm : m_X7_newRecord n S x1 = some out) : Met l yX7_newRecord wsX7_newRecord rm_X7_newRecord (va_Pc [.ref (ad 0 0), .int x1] (Pre D (tysC cy) (GC cy ad S) (fun _ _ => True) sz)) (va_Qq (fun r (u : CSt) => r = out.1.map (ad 11) ∧ u = out.2) (fun u => Pst D (tysC cy) (AA (adrs (GC cy ad S)) sz) (GC cy ad u)) (AA (adrs (GC cy ad S)) sz)) 0 0 (AA (adrs (GC cy ad S)) sz) := by
  refine g_met (by decide) rfl (Nat.le_of_ble_eq_true rfl) ?_
  intro p e s m args below meth c K hw ls hl
  exact t_X7_newRecord_0 (cy := cy) K n S x1  hm _ _ hw ls hl
end W_X7_newRecord
section W_X7_nearest
variable {p : Program} {l : Launch} {e : Env} {s : State} {m : MethodId} {args : Array Value} {below : List Frame} {meth : Method} {c : Code} {D : va_G} {A : Nat → Prop} {cy : Nat → ClassId} {ad : Nat → Nat → Nat} {Q : State → Prop}
abbrev rm_X7_nearest : Room := { frames := 1, cells := 0, slots := 0, locals := 24 }
set_option maxRecDepth 100000 in
set_option maxHeartbeats 4000000 in
theorem t_X7_nearest_0 (K : Cx p s m args meth c D A (tysC cy) RX7 cX7_nearest 3 (some .int) wsX7_nearest (fun _ _ => True)) (n : Nat) (S : CSt) (x0 : Int32) (x1 : Int32) (x2 : Int32)  {out : Int32} (hm : m_X7_nearest n S x0 x1 x2 = some out) : ∀ (H : Heap) (locs : List Loc), Wd D A s.heap (GC cy ad S) H locs → ∀ ls : Array Slot, lv_has ls 3 [(0, .int x0), (1, .int x1), (2, .int x2)] → W p l e rm_X7_nearest s m args below meth c H locs 0 0 (MQ below (va_Qi (fun r (u : CSt) => out = r ∧ u = S) (fun u => Pst D (tysC cy) A (GC cy ad u)) A) args s 0 0 A) (F0 m 0 ls []) := by
  intro H locs hw ls hl
  obtain ⟨hx, hb, hml, hown, hts, hr, hlo, hK, hA, hX⟩ := id K
  unfold m_X7_nearest at hm
  refine lv_iload_n hx hb dX7_nearest_0 rfl (lv_at hl 1 rfl) ?_
  refine lv_iload_n hx hb dX7_nearest_1 rfl (lv_at hl 2 rfl) ?_
  refine lv_iload_n hx hb dX7_nearest_2 rfl (lv_at hl 0 rfl) ?_
  refine va_mmin hx hb (hml.trans hl.1.symm) hown (hts _ (List.mem_of_getElem? (i := 1) rfl)) (hts _ (List.mem_of_getElem? (i := 2) rfl)) (hts _ (List.mem_of_getElem? (i := 3) rfl)) (hts _ (List.mem_of_getElem? (i := 4) rfl)) (Nat.le_of_ble_eq_true rfl) (Nat.le_of_ble_eq_true rfl) (Nat.le_of_ble_eq_true rfl) (Nat.le_of_ble_eq_true rfl) dX7_nearest_3 ?_
  refine va_mmax hx hb (hml.trans hl.1.symm) hown (hts _ (List.mem_of_getElem? (i := 5) rfl)) (hts _ (List.mem_of_getElem? (i := 6) rfl)) (hts _ (List.mem_of_getElem? (i := 3) rfl)) (hts _ (List.mem_of_getElem? (i := 7) rfl)) (Nat.le_of_ble_eq_true rfl) (Nat.le_of_ble_eq_true rfl) (Nat.le_of_ble_eq_true rfl) (Nat.le_of_ble_eq_true rfl) dX7_nearest_6 ?_
  exact g_iret (GG := GC cy ad) K hw ⟨(Option.some.inj hm).symm, rfl⟩ dX7_nearest_9
set_option maxRecDepth 100000 in
set_option maxHeartbeats 4000000 in
theorem c_X7_nearest (l : Launch) (D : va_G) (cy : Nat → ClassId) (ad : Nat → Nat → Nat) (sz n : Nat) (S : CSt) (x0 : Int32) (x1 : Int32) (x2 : Int32)  {out : Int32} (hm : m_X7_nearest n S x0 x1 x2 = some out) : Met l yX7_nearest wsX7_nearest rm_X7_nearest (va_Pc [.int x0, .int x1, .int x2] (Pre D (tysC cy) (GC cy ad S) (fun _ _ => True) sz)) (va_Qi (fun r (u : CSt) => out = r ∧ u = S) (fun u => Pst D (tysC cy) (AA (adrs (GC cy ad S)) sz) (GC cy ad u)) (AA (adrs (GC cy ad S)) sz)) 0 0 (AA (adrs (GC cy ad S)) sz) := by
  refine g_met (by decide) rfl (Nat.le_of_ble_eq_true rfl) ?_
  intro p e s m args below meth c K hw ls hl
  exact t_X7_nearest_0 (cy := cy) K n S x0 x1 x2  hm _ _ hw ls hl
end W_X7_nearest
section W_X7_familySize_d4
variable {p : Program} {l : Launch} {e : Env} {s : State} {m : MethodId} {args : Array Value} {below : List Frame} {meth : Method} {c : Code} {D : va_G} {A : Nat → Prop} {cy : Nat → ClassId} {ad : Nat → Nat → Nat} {Q : State → Prop}
abbrev rm_X7_familySize_d4 : Room := { frames := 2, cells := 0, slots := 0, locals := 42 }
theorem in_X7_familySize_X2 : ∀ w ∈ u_ws RX2 TX2 4, w ∈ wsX7_familySize := by decide +kernel
theorem in_X7_familySize_X4 : ∀ w ∈ u_ws RX4 TX4 6, w ∈ wsX7_familySize := by decide +kernel
theorem in_X7_familySize_X7 : ∀ w ∈ u_ws RX7 TX7 11, w ∈ wsX7_familySize := by decide +kernel
set_option maxRecDepth 100000 in
set_option maxHeartbeats 4000000 in
theorem t_X7_familySize_d4_L23 (K : Cx p s m args meth c D A (tysC cy) RX7 cX7_familySize 6 (some .int) wsX7_familySize (fun _ _ => True)) (n : Nat) (S : CSt) (x2 : Int32) (x3 : Nat) (x4 : Int32) (hb_x3 : x3 < 9) (z : (Int32 ⊕ Unit)) (hE0 : ∀ w : Int32, z = .inl w → ∀ (H : Heap) (locs : List Loc), Wd D A s.heap (GC cy ad S) H locs → ∀ ls : Array Slot, lv_has ls 6 [(0, .ref (ad 0 0)), (2, .int x2), (3, .ref (ad 3 x3)), (4, .int x4), (5, .int w)] → W p l e rm_X7_familySize_d4 s m args below meth c H locs 0 0 Q (F0 m 41 ls [])) (hE1 : ∀ w : Unit, z = .inr w → ∀ (H : Heap) (locs : List Loc), Wd D A s.heap (GC cy ad S) H locs → ∀ ls : Array Slot, lv_has ls 6 [(4, .int x4)] → W p l e rm_X7_familySize_d4 s m args below meth c H locs 0 0 Q (F0 m 66 ls [])) : ∀ (x : Int32), lpO (b_X7_familySize_d4_23 n S x2 x3 x4) n x = some z → (fun (x : Int32) => ∀ (H : Heap) (locs : List Loc), Wd D A s.heap (GC cy ad S) H locs → ∀ ls : Array Slot, lv_has ls 6 [(0, .ref (ad 0 0)), (2, .int x2), (3, .ref (ad 3 x3)), (4, .int x4), (5, .int x)] → W p l e rm_X7_familySize_d4 s m args below meth c H locs 0 0 Q (F0 m 23 ls [])) x := by
  intro x hx0
  refine lpO_ind2 (P := fun (x : Int32) => ∀ (H : Heap) (locs : List Loc), Wd D A s.heap (GC cy ad S) H locs → ∀ ls : Array Slot, lv_has ls 6 [(0, .ref (ad 0 0)), (2, .int x2), (3, .ref (ad 3 x3)), (4, .int x4), (5, .int x)] → W p l e rm_X7_familySize_d4 s m args below meth c H locs 0 0 Q (F0 m 23 ls [])) (z := z) ?_ n x hx0
  clear hx0 x
  intro x out hm hg H locs hw ls hl 
  obtain ⟨hx, hb, hml, hown, hts, hr, hlo, hK, hA, hX⟩ := id K
  unfold b_X7_familySize_d4_23 at hm
  refine lv_iload hx hb dX7_familySize_23 (lv_at hl 4 rfl) ?_
  refine lv_aload_n hx hb dX7_familySize_25 rfl (lv_at hl 2 rfl) ?_
  refine g_get (ref := "MigrantHeap$Shape") (C := RX4) (T := TX4) (N := 6) (ci := 4) K in_X7_familySize_X4 hw 3 rfl hb_x3 rfl rfl 0 (by decide) (List.mem_of_getElem? (i := 3) rfl) rfl rfl dX7_familySize_26 ?_
  refine lv_icmp_ge (tgt := 66) hx hb dX7_familySize_29 (by decide) (fun c16 => ?_) (fun c16 => ?_)
  · replace hm := (if_pos c16).symm.trans hm
    obtain rfl := Option.some.inj hm
    exact hE1 _ hg.symm H locs hw ls (lv_sub hl [3] rfl)
  · replace hm := (if_neg c16).symm.trans hm
    refine lv_aload_n hx hb dX7_familySize_32 rfl (lv_at hl 2 rfl) ?_
    refine lv_iload hx hb dX7_familySize_33 (lv_at hl 4 rfl) ?_
    obtain ⟨z18, hc17, hm⟩ := bindS hm
    refine g_calli (GG := GC cy ad) K hw (va_runV (As := [.int x]) (rest := []) (g_fix K) (c_X4_isOwning l D cy ad H.size n S x3 x hb_x3 hc17) (cwV 1 (g_hts K) gX7_familySize_X4_isOwning rfl rfl rfl (by decide +kernel) ⟨Nat.le_of_ble_eq_true rfl, Nat.le_of_ble_eq_true rfl⟩) ⟨g_blind rides_none, g_recv K hw 3 rfl hb_x3 rfl rfl, g_pre (X2 := fun _ _ => True) K hw (fun _ _ _ => trivial)⟩ rfl rfl hl.1 rfl (lv_room (Nat.le_of_ble_eq_true rfl)) dX7_familySize_35 ⟨Nat.le_of_ble_eq_true rfl, Nat.le_of_ble_eq_true rfl⟩) (fun r u H locs hp hw => ?_)
    obtain ⟨rfl, hu⟩ := hp
    rw [hu] at hw
    refine lv_if_eq (tgt := 60) hx hb dX7_familySize_38 (by decide) (fun c19 => ?_) (fun c19 => ?_)
    · replace hm := (if_pos c19).symm.trans hm
      obtain ⟨x20, hx20, hm⟩ := nm_ex hm
      refine lv_iinc (v := x20) (lv' := [(5, .int x20), (0, .ref (ad 0 0)), (2, .int x2), (3, .ref (ad 3 x3)), (4, .int x4)]) hx hb dX7_familySize_60 hl (k := 4) rfl (by rw [hx20]; rfl) (by decide) rfl (fun ls hl => ?_)
      refine lv_goto (tgt := 23) hx hb dX7_familySize_63 (by decide) ?_
      obtain rfl := Option.some.inj hm
      exact hg H locs hw ls (lv_sub hl [1, 2, 3, 4, 0] rfl)
    · replace hm := (if_neg c19).symm.trans hm
      obtain rfl := Option.some.inj hm
      exact hE0 _ hg.symm H locs hw ls (lv_sub hl [0, 1, 2, 3, 4] rfl)
set_option maxRecDepth 100000 in
set_option maxHeartbeats 4000000 in
theorem t_X7_familySize_d4_0 (K : Cx p s m args meth c D A (tysC cy) RX7 cX7_familySize 6 (some .int) wsX7_familySize (fun _ _ => True)) (n : Nat) (S : CSt) (x1 : Int32) (x2 : Int32)  {out : Int32} (hm : m_X7_familySize_d4 n S x1 x2 = some out) : ∀ (H : Heap) (locs : List Loc), Wd D A s.heap (GC cy ad S) H locs → ∀ ls : Array Slot, lv_has ls 6 [(0, .ref (ad 0 0)), (1, .int x1), (2, .int x2)] → W p l e rm_X7_familySize_d4 s m args below meth c H locs 0 0 (MQ below (va_Qi (fun r (u : CSt) => out = r ∧ u = S) (fun u => Pst D (tysC cy) A (GC cy ad u)) A) args s 0 0 A) (F0 m 0 ls []) := by
  intro H locs hw ls hl
  obtain ⟨hx, hb, hml, hown, hts, hr, hlo, hK, hA, hX⟩ := id K
  unfold m_X7_familySize_d4 at hm
  refine lv_iload_n hx hb dX7_familySize_0 rfl (lv_at hl 2 rfl) ?_
  refine lv_iconst (v := 4) hx hb dX7_familySize_1 (by decide) ?_
  refine lv_icmp_lt (tgt := 7) hx hb dX7_familySize_2 (by decide) (fun c21 => ?_) (fun c21 => ?_)
  · replace hm := (if_pos c21).symm.trans hm
    refine lv_aload_n hx hb dX7_familySize_7 rfl (lv_at hl 0 rfl) ?_
    refine g_get (ref := "MigrantHeap") (C := RX7) (T := TX7) (N := 11) (ci := 7) K in_X7_familySize_X7 hw 0 rfl (by decide : 0 < 1) rfl rfl 0 (by decide) (List.mem_of_getElem? (i := 1) rfl) rfl rfl dX7_familySize_8 ?_
    refine lv_iload_n hx hb dX7_familySize_11 rfl (lv_at hl 1 rfl) ?_
    obtain ⟨h22, hm⟩ := chkS hm
    refine g_aald K hw 1 4 rfl (by decide) rfl rfl h22 dX7_familySize_12 ?_
    refine g_get (ref := "MigrantHeap$Kind") (C := RX2) (T := TX2) (N := 4) (ci := 2) K in_X7_familySize_X2 hw 2 rfl (inB_lt h22) rfl rfl 2 (by decide) (List.mem_of_getElem? (i := 2) rfl) rfl rfl dX7_familySize_13 ?_
    refine lv_astore_n (lv' := [(3, .ref (ad 3 (2 * x1.toNatClampNeg))), (0, .ref (ad 0 0)), (1, .int x1), (2, .int x2)]) hx hb dX7_familySize_16 rfl hl (by decide) rfl (fun ls hl => ?_)
    refine lv_iconst (v := 1) hx hb dX7_familySize_17 (by decide) ?_
    refine lv_istore (lv' := [(4, .int 1), (3, .ref (ad 3 (2 * x1.toNatClampNeg))), (0, .ref (ad 0 0)), (1, .int x1), (2, .int x2)]) hx hb dX7_familySize_18 hl (by decide) rfl (fun ls hl => ?_)
    refine lv_iconst (v := 0) hx hb dX7_familySize_20 (by decide) ?_
    refine lv_istore (lv' := [(5, .int 0), (4, .int 1), (3, .ref (ad 3 (2 * x1.toNatClampNeg))), (0, .ref (ad 0 0)), (1, .int x1), (2, .int x2)]) hx hb dX7_familySize_21 hl (by decide) rfl (fun ls hl => ?_)
    obtain ⟨z23, hz24, hm⟩ := bindS hm
    refine t_X7_familySize_d4_L23 K n S x2 (2 * x1.toNatClampNeg) 1 (by have := (inB_lt h22); omega : (2 * x1.toNatClampNeg) < 9) z23 (fun w25 hww25 => ?_) (fun w26 hww26 => ?_) (0) hz24 H locs hw ls (lv_sub hl [3, 5, 2, 1, 0] rfl)
    · intro H locs hw ls hl 
      subst hww25
      replace hm := (sumL _ _ _).symm.trans hm
      refine lv_iload hx hb dX7_familySize_41 (lv_at hl 3 rfl) ?_
      refine lv_aload_n hx hb dX7_familySize_43 rfl (lv_at hl 0 rfl) ?_
      refine lv_aload_n hx hb dX7_familySize_44 rfl (lv_at hl 2 rfl) ?_
      refine g_get (ref := "MigrantHeap$Shape") (C := RX4) (T := TX4) (N := 6) (ci := 4) K in_X7_familySize_X4 hw 3 rfl (by have := (inB_lt h22); omega : (2 * x1.toNatClampNeg) < 9) rfl rfl 3 (by decide) (List.mem_of_getElem? (i := 4) rfl) rfl rfl dX7_familySize_45 ?_
      refine lv_iload hx hb dX7_familySize_48 (lv_at hl 4 rfl) ?_
      obtain ⟨h27, hm⟩ := chkS hm
      refine g_iald K hw 6 0 rfl (by have := (inB_lt h22); omega : (2 * x1.toNatClampNeg) < 9) rfl rfl h27 dX7_familySize_50 ?_
      refine lv_iload_n hx hb dX7_familySize_51 rfl (lv_at hl 1 rfl) ?_
      refine lv_iconst (v := 1) hx hb dX7_familySize_52 (by decide) ?_
      refine lv_iadd hx hb dX7_familySize_53 ?_
      cases hm
    · intro H locs hw ls hl 
      subst hww26
      replace hm := (sumR _ _ _).symm.trans hm
      refine lv_iload hx hb dX7_familySize_66 (lv_at hl 0 rfl) ?_
      exact g_iret (GG := GC cy ad) K hw ⟨(Option.some.inj hm).symm, rfl⟩ dX7_familySize_68
  · replace hm := (if_neg c21).symm.trans hm
    refine lv_iconst (v := 0) hx hb dX7_familySize_5 (by decide) ?_
    exact g_iret (GG := GC cy ad) K hw ⟨(Option.some.inj hm).symm, rfl⟩ dX7_familySize_6
set_option maxRecDepth 100000 in
set_option maxHeartbeats 4000000 in
theorem c_X7_familySize_d4 (l : Launch) (D : va_G) (cy : Nat → ClassId) (ad : Nat → Nat → Nat) (sz n : Nat) (S : CSt) (x1 : Int32) (x2 : Int32)  {out : Int32} (hm : m_X7_familySize_d4 n S x1 x2 = some out) : Met l yX7_familySize wsX7_familySize rm_X7_familySize_d4 (va_Pc [.ref (ad 0 0), .int x1, .int x2] (Pre D (tysC cy) (GC cy ad S) (fun _ _ => True) sz)) (va_Qi (fun r (u : CSt) => out = r ∧ u = S) (fun u => Pst D (tysC cy) (AA (adrs (GC cy ad S)) sz) (GC cy ad u)) (AA (adrs (GC cy ad S)) sz)) 0 0 (AA (adrs (GC cy ad S)) sz) := by
  refine g_met (by decide) rfl (Nat.le_of_ble_eq_true rfl) ?_
  intro p e s m args below meth c K hw ls hl
  exact t_X7_familySize_d4_0 (cy := cy) K n S x1 x2  hm _ _ hw ls hl
end W_X7_familySize_d4
