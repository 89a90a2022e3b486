section W_X8_append
variable {p : Program} {l : Launch} {e : Env} {s : State} {m : MethodId} {args : Array Value} {below : List Frame} {meth : Method} {c : Code} {D : va_G} {A : Nat → Prop} {cy : Nat → ClassId} {ad : Nat → Nat → Nat} {Q : State → Prop}
abbrev rm_X8_append : Room := { frames := 1, cells := 0, slots := 0, locals := 23 }
theorem in_X8_append_X8 : ∀ w ∈ u_ws RX8 TX8 44, w ∈ wsX8_append := by decide +kernel
set_option maxRecDepth 100000 in
set_option maxHeartbeats 4000000 in
theorem t_X8_append_0 (K : Cx p s m args meth c D A (tysC cy) RX8 cX8_append 5 (some .boolean) wsX8_append (fun _ _ => True)) (n : Nat) (S : MSt) (x1 : Int32) (x2 : Int32) (x3 : Int32) (x4 : Int32)  {out : Int32 × MSt} (hm : m_X8_append n S x1 x2 x3 x4 = some out) : ∀ (H : Heap) (locs : List Loc), Wd D A s.heap (GM cy ad S) H locs → ∀ ls : Array Slot, lv_has ls 5 [(0, .ref (ad 0 0)), (1, .int x1), (2, .int x2), (3, .int x3), (4, .int x4)] → W p l e rm_X8_append s m args below meth c H locs 0 0 (MQ below (va_Qi (fun r (u : MSt) => out = (r, u)) (fun u => Pst D (tysC cy) A (GM cy ad u)) A) args s 0 0 A) (F0 m 0 ls []) := by
  intro H locs hw ls hl
  obtain ⟨hx, hb, hml, hown, hts, hr, hlo, hK, hA, hX⟩ := id K
  unfold m_X8_append at hm
  refine lv_aload_n hx hb dX8_append_0 rfl (lv_at hl 0 rfl) ?_
  refine lv_iload_n hx hb dX8_append_1 rfl (lv_at hl 1 rfl) ?_
  obtain ⟨z28, hc27, hm⟩ := bindS hm
  refine g_calli (GG := GM cy ad) K hw (va_runV (As := [.int x1]) (rest := []) (g_fix K) (c_X8_findDraft l D cy ad H.size n S x1  hc27) (cwV 1 (g_hts K) gX8_append_X8_findDraft rfl rfl rfl (by decide +kernel) ⟨Nat.le_of_ble_eq_true rfl, Nat.le_of_ble_eq_true rfl⟩) ⟨g_blind rides_none, g_recv K hw 0 rfl (by decide : 0 < 1) rfl rfl, g_pre (X2 := fun _ _ => True) K hw (fun _ _ _ => trivial)⟩ rfl rfl hl.1 rfl (lv_room (Nat.le_of_ble_eq_true rfl)) dX8_append_2 ⟨Nat.le_of_ble_eq_true rfl, Nat.le_of_ble_eq_true rfl⟩) (fun r u H locs hp hw => ?_)
  obtain ⟨rfl, hu⟩ := hp
  rw [hu] at hw
  refine lv_if_ge (tgt := 17) hx hb dX8_append_5 (by decide) (fun c29 => ?_) (fun c29 => ?_)
  · replace hm := (if_pos c29).symm.trans hm
    refine lv_iconst (v := 0) hx hb dX8_append_17 (by decide) ?_
    exact g_zret (GG := GM cy ad) K hw rfl (Option.some.inj hm).symm dX8_append_18
  · replace hm := (if_neg c29).symm.trans hm
    refine lv_aload_n hx hb dX8_append_8 rfl (lv_at hl 0 rfl) ?_
    refine g_get (ref := "MigrantHeapModel") (C := RX8) (T := TX8) (N := 44) (ci := 8) K in_X8_append_X8 hw 0 rfl (by decide : 0 < 1) rfl rfl 28 (by decide) (List.mem_of_getElem? (i := 1) rfl) rfl rfl dX8_append_9 ?_
    refine lv_bipush (v := 6) hx hb dX8_append_12 (by decide) ?_
    refine lv_icmp_ne (tgt := 19) hx hb dX8_append_14 (by decide) (fun c30 => ?_) (fun c30 => ?_)
    · replace hm := (if_pos c30).symm.trans hm
      refine lv_aload_n hx hb dX8_append_19 rfl (lv_at hl 0 rfl) ?_
      refine g_get (ref := "MigrantHeapModel") (C := RX8) (T := TX8) (N := 44) (ci := 8) K in_X8_append_X8 hw 0 rfl (by decide : 0 < 1) rfl rfl 29 (by decide) (List.mem_of_getElem? (i := 2) rfl) rfl rfl dX8_append_20 ?_
      refine lv_aload_n hx hb dX8_append_23 rfl (lv_at hl 0 rfl) ?_
      refine g_get (ref := "MigrantHeapModel") (C := RX8) (T := TX8) (N := 44) (ci := 8) K in_X8_append_X8 hw 0 rfl (by decide : 0 < 1) rfl rfl 28 (by decide) (List.mem_of_getElem? (i := 1) rfl) rfl rfl dX8_append_24 ?_
      refine lv_iload_n hx hb dX8_append_27 rfl (lv_at hl 1 rfl) ?_
      obtain ⟨h31, hm⟩ := chkS hm
      refine g_iast K hw 23 0 rfl (by decide) rfl rfl h31 dX8_append_28 (eM_29 cy ad S ((S.1 28 0).toNatClampNeg) x1) (fun H locs hw => ?_)
      obtain ⟨S32, hS32, hm⟩ := nm_ex hm
      rw [← hS32] at hw
      refine lv_aload_n hx hb dX8_append_29 rfl (lv_at hl 0 rfl) ?_
      refine g_get (ref := "MigrantHeapModel") (C := RX8) (T := TX8) (N := 44) (ci := 8) K in_X8_append_X8 hw 0 rfl (by decide : 0 < 1) rfl rfl 30 (by decide) (List.mem_of_getElem? (i := 3) rfl) rfl rfl dX8_append_30 ?_
      refine lv_aload_n hx hb dX8_append_33 rfl (lv_at hl 0 rfl) ?_
      refine g_get (ref := "MigrantHeapModel") (C := RX8) (T := TX8) (N := 44) (ci := 8) K in_X8_append_X8 hw 0 rfl (by decide : 0 < 1) rfl rfl 28 (by decide) (List.mem_of_getElem? (i := 1) rfl) rfl rfl dX8_append_34 ?_
      refine lv_iload_n hx hb dX8_append_37 rfl (lv_at hl 2 rfl) ?_
      obtain ⟨h33, hm⟩ := chkS hm
      refine g_iast K hw 24 0 rfl (by decide) rfl rfl h33 dX8_append_38 (eM_30 cy ad S32 ((S32.1 28 0).toNatClampNeg) x2) (fun H locs hw => ?_)
      obtain ⟨S34, hS34, hm⟩ := nm_ex hm
      rw [← hS34] at hw
      refine lv_aload_n hx hb dX8_append_39 rfl (lv_at hl 0 rfl) ?_
      refine g_get (ref := "MigrantHeapModel") (C := RX8) (T := TX8) (N := 44) (ci := 8) K in_X8_append_X8 hw 0 rfl (by decide : 0 < 1) rfl rfl 31 (by decide) (List.mem_of_getElem? (i := 4) rfl) rfl rfl dX8_append_40 ?_
      refine lv_aload_n hx hb dX8_append_43 rfl (lv_at hl 0 rfl) ?_
      refine g_get (ref := "MigrantHeapModel") (C := RX8) (T := TX8) (N := 44) (ci := 8) K in_X8_append_X8 hw 0 rfl (by decide : 0 < 1) rfl rfl 28 (by decide) (List.mem_of_getElem? (i := 1) rfl) rfl rfl dX8_append_44 ?_
      refine lv_iload_n hx hb dX8_append_47 rfl (lv_at hl 3 rfl) ?_
      obtain ⟨h35, hm⟩ := chkS hm
      refine g_iast K hw 25 0 rfl (by decide) rfl rfl h35 dX8_append_48 (eM_31 cy ad S34 ((S34.1 28 0).toNatClampNeg) x3) (fun H locs hw => ?_)
      obtain ⟨S36, hS36, hm⟩ := nm_ex hm
      rw [← hS36] at hw
      refine lv_aload_n hx hb dX8_append_49 rfl (lv_at hl 0 rfl) ?_
      refine g_get (ref := "MigrantHeapModel") (C := RX8) (T := TX8) (N := 44) (ci := 8) K in_X8_append_X8 hw 0 rfl (by decide : 0 < 1) rfl rfl 32 (by decide) (List.mem_of_getElem? (i := 5) rfl) rfl rfl dX8_append_50 ?_
      refine lv_aload_n hx hb dX8_append_53 rfl (lv_at hl 0 rfl) ?_
      refine g_get (ref := "MigrantHeapModel") (C := RX8) (T := TX8) (N := 44) (ci := 8) K in_X8_append_X8 hw 0 rfl (by decide : 0 < 1) rfl rfl 28 (by decide) (List.mem_of_getElem? (i := 1) rfl) rfl rfl dX8_append_54 ?_
      refine lv_iload hx hb dX8_append_57 (lv_at hl 4 rfl) ?_
      obtain ⟨h37, hm⟩ := chkS hm
      refine g_iast K hw 26 0 rfl (by decide) rfl rfl h37 dX8_append_59 (eM_32 cy ad S36 ((S36.1 28 0).toNatClampNeg) x4) (fun H locs hw => ?_)
      obtain ⟨S38, hS38, hm⟩ := nm_ex hm
      rw [← hS38] at hw
      refine lv_aload_n hx hb dX8_append_60 rfl (lv_at hl 0 rfl) ?_
      refine g_get (ref := "MigrantHeapModel") (C := RX8) (T := TX8) (N := 44) (ci := 8) K in_X8_append_X8 hw 0 rfl (by decide : 0 < 1) rfl rfl 33 (by decide) (List.mem_of_getElem? (i := 6) rfl) rfl rfl dX8_append_61 ?_
      refine lv_aload_n hx hb dX8_append_64 rfl (lv_at hl 0 rfl) ?_
      refine g_get (ref := "MigrantHeapModel") (C := RX8) (T := TX8) (N := 44) (ci := 8) K in_X8_append_X8 hw 0 rfl (by decide : 0 < 1) rfl rfl 28 (by decide) (List.mem_of_getElem? (i := 1) rfl) rfl rfl dX8_append_65 ?_
      refine lv_iconst (v := (-1)) hx hb dX8_append_68 (by decide) ?_
      obtain ⟨h39, hm⟩ := chkS hm
      refine g_iast K hw 27 0 rfl (by decide) rfl rfl h39 dX8_append_69 (eM_33 cy ad S38 ((S38.1 28 0).toNatClampNeg) (-1)) (fun H locs hw => ?_)
      obtain ⟨S40, hS40, hm⟩ := nm_ex hm
      rw [← hS40] at hw
      refine lv_aload_n hx hb dX8_append_70 rfl (lv_at hl 0 rfl) ?_
      refine lv_dup hx hb dX8_append_71 rfl ?_
      refine g_get (ref := "MigrantHeapModel") (C := RX8) (T := TX8) (N := 44) (ci := 8) K in_X8_append_X8 hw 0 rfl (by decide : 0 < 1) rfl rfl 28 (by decide) (List.mem_of_getElem? (i := 1) rfl) rfl rfl dX8_append_72 ?_
      refine lv_iconst (v := 1) hx hb dX8_append_75 (by decide) ?_
      refine lv_iadd hx hb dX8_append_76 ?_
      refine g_put (v := .int ((S40.1 28 0) + 1)) (ty := .int) (ref := "MigrantHeapModel") (C := RX8) (T := TX8) (N := 44) (ci := 8) K in_X8_append_X8 tyX8 tyX8_ok nmX8 hw 0 rfl (by decide : 0 < 1) rfl rfl 28 (by decide) (List.mem_of_getElem? (i := 1) rfl) rfl rfl (by decide +kernel) rfl rfl (Nat.le_of_ble_eq_true rfl) dX8_append_77 (eM_28 cy ad S40 ((S40.1 28 0) + 1)) (fun H locs hw => ?_)
      obtain ⟨S41, hS41, hm⟩ := nm_ex hm
      rw [← hS41] at hw
      refine lv_iconst (v := 1) hx hb dX8_append_80 (by decide) ?_
      exact g_zret (GG := GM cy ad) K hw rfl (Option.some.inj hm).symm dX8_append_81
    · replace hm := (if_neg (fun h => h c30)).symm.trans hm
      refine lv_iconst (v := 0) hx hb dX8_append_17 (by decide) ?_
      exact g_zret (GG := GM cy ad) K hw rfl (Option.some.inj hm).symm dX8_append_18
set_option maxRecDepth 100000 in
set_option maxHeartbeats 4000000 in
theorem c_X8_append (l : Launch) (D : va_G) (cy : Nat → ClassId) (ad : Nat → Nat → Nat) (sz n : Nat) (S : MSt) (x1 : Int32) (x2 : Int32) (x3 : Int32) (x4 : Int32)  {out : Int32 × MSt} (hm : m_X8_append n S x1 x2 x3 x4 = some out) : Met l yX8_append wsX8_append rm_X8_append (va_Pc [.ref (ad 0 0), .int x1, .int x2, .int x3, .int x4] (Pre D (tysC cy) (GM cy ad S) (fun _ _ => True) sz)) (va_Qi (fun r (u : MSt) => out = (r, u)) (fun u => Pst D (tysC cy) (AA (adrs (GM cy ad S)) sz) (GM cy ad u)) (AA (adrs (GM cy ad S)) sz)) 0 0 (AA (adrs (GM cy ad S)) sz) := by
  refine g_met (by decide) rfl (Nat.le_of_ble_eq_true rfl) ?_
  intro p e s m args below meth c K hw ls hl
  exact t_X8_append_0 (cy := cy) K n S x1 x2 x3 x4  hm _ _ hw ls hl
end W_X8_append
section W_X8_hasNumbersAlone
variable {p : Program} {l : Launch} {e : Env} {s : State} {m : MethodId} {args : Array Value} {below : List Frame} {meth : Method} {c : Code} {D : va_G} {A : Nat → Prop} {cy : Nat → ClassId} {ad : Nat → Nat → Nat} {Q : State → Prop}
abbrev rm_X8_hasNumbersAlone : Room := { frames := 0, cells := 0, slots := 0, locals := 0 }
theorem in_X8_hasNumbersAlone_X8 : ∀ w ∈ u_ws RX8 TX8 44, w ∈ wsX8_hasNumbersAlone := by decide +kernel
set_option maxRecDepth 100000 in
set_option maxHeartbeats 4000000 in
theorem t_X8_hasNumbersAlone_L4 (K : Cx p s m args meth c D A (tysC cy) RX8 cX8_hasNumbersAlone 4 (some .boolean) wsX8_hasNumbersAlone (fun _ _ => True)) (n : Nat) (S : MSt) (x1 : Int32)  (z : Int32) (hE0 : ∀ w : Int32, z = w → ∀ (H : Heap) (locs : List Loc), Wd D A s.heap (GM cy ad S) H locs → ∀ ls : Array Slot, lv_has ls 4 [(2, .int w)] → W p l e rm_X8_hasNumbersAlone s m args below meth c H locs 0 0 Q (F0 m 44 ls [])) : ∀ (x : (Int32 × Int32)), lpO (b_X8_hasNumbersAlone_4 n S x1) n x = some z → (fun (x : (Int32 × Int32)) => ∀ (H : Heap) (locs : List Loc), Wd D A s.heap (GM cy ad S) H locs → ∀ ls : Array Slot, lv_has ls 4 [(0, .ref (ad 0 0)), (1, .int x1), (2, .int x.1), (3, .int x.2)] → W p l e rm_X8_hasNumbersAlone s m args below meth c H locs 0 0 Q (F0 m 4 ls [])) x := by
  intro x hx0
  refine lpO_ind2 (P := fun (x : (Int32 × Int32)) => ∀ (H : Heap) (locs : List Loc), Wd D A s.heap (GM cy ad S) H locs → ∀ ls : Array Slot, lv_has ls 4 [(0, .ref (ad 0 0)), (1, .int x1), (2, .int x.1), (3, .int x.2)] → W p l e rm_X8_hasNumbersAlone s m args below meth c H locs 0 0 Q (F0 m 4 ls [])) (z := z) ?_ n x hx0
  clear hx0 x
  intro x out hm hg H locs hw ls hl 
  obtain ⟨hx, hb, hml, hown, hts, hr, hlo, hK, hA, hX⟩ := id K
  unfold b_X8_hasNumbersAlone_4 at hm
  refine lv_iload_n hx hb dX8_hasNumbersAlone_4 rfl (lv_at hl 3 rfl) ?_
  refine lv_aload_n hx hb dX8_hasNumbersAlone_5 rfl (lv_at hl 0 rfl) ?_
  refine g_get (ref := "MigrantHeapModel") (C := RX8) (T := TX8) (N := 44) (ci := 8) K in_X8_hasNumbersAlone_X8 hw 0 rfl (by decide : 0 < 1) rfl rfl 4 (by decide) (List.mem_of_getElem? (i := 1) rfl) rfl rfl dX8_hasNumbersAlone_6 ?_
  refine lv_iload_n hx hb dX8_hasNumbersAlone_9 rfl (lv_at hl 1 rfl) ?_
  obtain ⟨h14, hm⟩ := chkS hm
  refine g_iald K hw 3 0 rfl (by decide) rfl rfl h14 dX8_hasNumbersAlone_10 ?_
  refine lv_icmp_ge (tgt := 44) hx hb dX8_hasNumbersAlone_11 (by decide) (fun c15 => ?_) (fun c15 => ?_)
  · replace hm := (if_pos c15).symm.trans hm
    obtain rfl := Option.some.inj hm
    exact hE0 _ hg.symm H locs hw ls (lv_sub hl [2] rfl)
  · replace hm := (if_neg c15).symm.trans hm
    refine lv_iload_n hx hb dX8_hasNumbersAlone_14 rfl (lv_at hl 2 rfl) ?_
    refine lv_if_eq (tgt := 36) hx hb dX8_hasNumbersAlone_15 (by decide) (fun c16 => ?_) (fun c16 => ?_)
    · replace hm := (if_pos c16).symm.trans hm
      refine lv_iconst (v := 0) hx hb dX8_hasNumbersAlone_36 (by decide) ?_
      refine lv_istore_n (lv' := [(2, .int 0), (0, .ref (ad 0 0)), (1, .int x1), (3, .int x.2)]) hx hb dX8_hasNumbersAlone_37 rfl hl (by decide) rfl (fun ls hl => ?_)
      obtain ⟨x17, hx17, hm⟩ := nm_ex hm
      refine lv_iinc (v := x17) (lv' := [(3, .int x17), (2, .int 0), (0, .ref (ad 0 0)), (1, .int x1)]) hx hb dX8_hasNumbersAlone_38 hl (k := 3) rfl (by rw [hx17]; rfl) (by decide) rfl (fun ls hl => ?_)
      refine lv_goto (tgt := 4) hx hb dX8_hasNumbersAlone_41 (by decide) ?_
      obtain rfl := Option.some.inj hm
      exact hg H locs hw ls (lv_sub hl [2, 3, 1, 0] rfl)
    · replace hm := (if_neg c16).symm.trans hm
      refine lv_aload_n hx hb dX8_hasNumbersAlone_18 rfl (lv_at hl 0 rfl) ?_
      refine g_get (ref := "MigrantHeapModel") (C := RX8) (T := TX8) (N := 44) (ci := 8) K in_X8_hasNumbersAlone_X8 hw 0 rfl (by decide : 0 < 1) rfl rfl 6 (by decide) (List.mem_of_getElem? (i := 2) rfl) rfl rfl dX8_hasNumbersAlone_19 ?_
      refine lv_bipush (v := 6) hx hb dX8_hasNumbersAlone_22 (by decide) ?_
      refine lv_iload_n hx hb dX8_hasNumbersAlone_24 rfl (lv_at hl 1 rfl) ?_
      refine lv_imul hx hb dX8_hasNumbersAlone_25 ?_
      refine lv_iload_n hx hb dX8_hasNumbersAlone_26 rfl (lv_at hl 3 rfl) ?_
      refine lv_iadd hx hb dX8_hasNumbersAlone_27 ?_
      obtain ⟨h18, hm⟩ := chkS hm
      refine g_iald K hw 5 0 rfl (by decide) rfl rfl h18 dX8_hasNumbersAlone_28 ?_
      refine lv_if_ne (tgt := 36) hx hb dX8_hasNumbersAlone_29 (by decide) (fun c19 => ?_) (fun c19 => ?_)
      · replace hm := (if_pos c19).symm.trans hm
        refine lv_iconst (v := 0) hx hb dX8_hasNumbersAlone_36 (by decide) ?_
        refine lv_istore_n (lv' := [(2, .int 0), (0, .ref (ad 0 0)), (1, .int x1), (3, .int x.2)]) hx hb dX8_hasNumbersAlone_37 rfl hl (by decide) rfl (fun ls hl => ?_)
        obtain ⟨x20, hx20, hm⟩ := nm_ex hm
        refine lv_iinc (v := x20) (lv' := [(3, .int x20), (2, .int 0), (0, .ref (ad 0 0)), (1, .int x1)]) hx hb dX8_hasNumbersAlone_38 hl (k := 3) rfl (by rw [hx20]; rfl) (by decide) rfl (fun ls hl => ?_)
        refine lv_goto (tgt := 4) hx hb dX8_hasNumbersAlone_41 (by decide) ?_
        obtain rfl := Option.some.inj hm
        exact hg H locs hw ls (lv_sub hl [2, 3, 1, 0] rfl)
      · replace hm := (if_neg (fun h => h c19)).symm.trans hm
        refine lv_iconst (v := 1) hx hb dX8_hasNumbersAlone_32 (by decide) ?_
        refine lv_goto (tgt := 37) hx hb dX8_hasNumbersAlone_33 (by decide) ?_
        refine lv_istore_n (lv' := [(2, .int 1), (0, .ref (ad 0 0)), (1, .int x1), (3, .int x.2)]) hx hb dX8_hasNumbersAlone_37 rfl hl (by decide) rfl (fun ls hl => ?_)
        obtain ⟨x21, hx21, hm⟩ := nm_ex hm
        refine lv_iinc (v := x21) (lv' := [(3, .int x21), (2, .int 1), (0, .ref (ad 0 0)), (1, .int x1)]) hx hb dX8_hasNumbersAlone_38 hl (k := 3) rfl (by rw [hx21]; rfl) (by decide) rfl (fun ls hl => ?_)
        refine lv_goto (tgt := 4) hx hb dX8_hasNumbersAlone_41 (by decide) ?_
        obtain rfl := Option.some.inj hm
        exact hg H locs hw ls (lv_sub hl [2, 3, 1, 0] rfl)
set_option maxRecDepth 100000 in
set_option maxHeartbeats 4000000 in
theorem t_X8_hasNumbersAlone_0 (K : Cx p s m args meth c D A (tysC cy) RX8 cX8_hasNumbersAlone 4 (some .boolean) wsX8_hasNumbersAlone (fun _ _ => True)) (n : Nat) (S : MSt) (x1 : Int32)  {out : Int32} (hm : m_X8_hasNumbersAlone n S x1 = some out) : ∀ (H : Heap) (locs : List Loc), Wd D A s.heap (GM cy ad S) H locs → ∀ ls : Array Slot, lv_has ls 4 [(0, .ref (ad 0 0)), (1, .int x1)] → W p l e rm_X8_hasNumbersAlone s m args below meth c H locs 0 0 (MQ below (va_Qi (fun r (u : MSt) => out = r ∧ u = S) (fun u => Pst D (tysC cy) A (GM cy ad u)) A) args s 0 0 A) (F0 m 0 ls []) := by
  intro H locs hw ls hl
  obtain ⟨hx, hb, hml, hown, hts, hr, hlo, hK, hA, hX⟩ := id K
  unfold m_X8_hasNumbersAlone at hm
  refine lv_iconst (v := 1) hx hb dX8_hasNumbersAlone_0 (by decide) ?_
  refine lv_istore_n (lv' := [(2, .int 1), (0, .ref (ad 0 0)), (1, .int x1)]) hx hb dX8_hasNumbersAlone_1 rfl hl (by decide) rfl (fun ls hl => ?_)
  refine lv_iconst (v := 0) hx hb dX8_hasNumbersAlone_2 (by decide) ?_
  refine lv_istore_n (lv' := [(3, .int 0), (2, .int 1), (0, .ref (ad 0 0)), (1, .int x1)]) hx hb dX8_hasNumbersAlone_3 rfl hl (by decide) rfl (fun ls hl => ?_)
  obtain ⟨z22, hz23, hm⟩ := bindS hm
  refine t_X8_hasNumbersAlone_L4 K n S x1 z22 (fun w24 hww24 => ?_) ((1, 0)) hz23 H locs hw ls (lv_sub hl [2, 3, 1, 0] rfl)
  · intro H locs hw ls hl 
    try rw [hww24] at hm
    refine lv_iload_n hx hb dX8_hasNumbersAlone_44 rfl (lv_at hl 0 rfl) ?_
    obtain ⟨h25, hm⟩ := chkS hm
    exact g_zret (GG := GM cy ad) K hw h25 ⟨(Option.some.inj hm).symm, rfl⟩ dX8_hasNumbersAlone_45
set_option maxRecDepth 100000 in
set_option maxHeartbeats 4000000 in
theorem c_X8_hasNumbersAlone (l : Launch) (D : va_G) (cy : Nat → ClassId) (ad : Nat → Nat → Nat) (sz n : Nat) (S : MSt) (x1 : Int32)  {out : Int32} (hm : m_X8_hasNumbersAlone n S x1 = some out) : Met l yX8_hasNumbersAlone wsX8_hasNumbersAlone rm_X8_hasNumbersAlone (va_Pc [.ref (ad 0 0), .int x1] (Pre D (tysC cy) (GM cy ad S) (fun _ _ => True) sz)) (va_Qi (fun r (u : MSt) => out = r ∧ u = S) (fun u => Pst D (tysC cy) (AA (adrs (GM cy ad S)) sz) (GM cy ad u)) (AA (adrs (GM cy ad S)) sz)) 0 0 (AA (adrs (GM cy ad S)) sz) := by
  refine g_met (by decide) rfl (Nat.le_of_ble_eq_true rfl) ?_
  intro p e s m args below meth c K hw ls hl
  exact t_X8_hasNumbersAlone_0 (cy := cy) K n S x1  hm _ _ hw ls hl
end W_X8_hasNumbersAlone
section W_X8_dropField
variable {p : Program} {l : Launch} {e : Env} {s : State} {m : MethodId} {args : Array Value} {below : List Frame} {meth : Method} {c : Code} {D : va_G} {A : Nat → Prop} {cy : Nat → ClassId} {ad : Nat → Nat → Nat} {Q : State → Prop}
abbrev rm_X8_dropField : Room := { frames := 1, cells := 0, slots := 0, locals := 23 }
theorem in_X8_dropField_X8 : ∀ w ∈ u_ws RX8 TX8 44, w ∈ wsX8_dropField := by decide +kernel
set_option maxRecDepth 100000 in
set_option maxHeartbeats 4000000 in
theorem t_X8_dropField_0 (K : Cx p s m args meth c D A (tysC cy) RX8 cX8_dropField 3 (some .boolean) wsX8_dropField (fun _ _ => True)) (n : Nat) (S : MSt) (x1 : Int32)  {out : Int32 × MSt} (hm : m_X8_dropField n S x1 = some out) : ∀ (H : Heap) (locs : List Loc), Wd D A s.heap (GM cy ad S) H locs → ∀ ls : Array Slot, lv_has ls 3 [(0, .ref (ad 0 0)), (1, .int x1)] → W p l e rm_X8_dropField s m args below meth c H locs 0 0 (MQ below (va_Qi (fun r (u : MSt) => out = (r, u)) (fun u => Pst D (tysC cy) A (GM cy ad u)) A) args s 0 0 A) (F0 m 0 ls []) := by
  intro H locs hw ls hl
  obtain ⟨hx, hb, hml, hown, hts, hr, hlo, hK, hA, hX⟩ := id K
  unfold m_X8_dropField at hm
  refine lv_aload_n hx hb dX8_dropField_0 rfl (lv_at hl 0 rfl) ?_
  refine lv_iload_n hx hb dX8_dropField_1 rfl (lv_at hl 1 rfl) ?_
  obtain ⟨z12, hc11, hm⟩ := bindS hm
  refine g_calli (GG := GM cy ad) K hw (va_runV (As := [.int x1]) (rest := []) (g_fix K) (c_X8_findDraft l D cy ad H.size n S x1  hc11) (cwV 1 (g_hts K) gX8_dropField_X8_findDraft rfl rfl rfl (by decide +kernel) ⟨Nat.le_of_ble_eq_true rfl, Nat.le_of_ble_eq_true rfl⟩) ⟨g_blind rides_none, g_recv K hw 0 rfl (by decide : 0 < 1) rfl rfl, g_pre (X2 := fun _ _ => True) K hw (fun _ _ _ => trivial)⟩ rfl rfl hl.1 rfl (lv_room (Nat.le_of_ble_eq_true rfl)) dX8_dropField_2 ⟨Nat.le_of_ble_eq_true rfl, Nat.le_of_ble_eq_true rfl⟩) (fun r u H locs hp hw => ?_)
  obtain ⟨rfl, hu⟩ := hp
  rw [hu] at hw
  refine lv_istore_n (lv' := [(2, .int z12), (0, .ref (ad 0 0)), (1, .int x1)]) hx hb dX8_dropField_5 rfl hl (by decide) rfl (fun ls hl => ?_)
  refine lv_iload_n hx hb dX8_dropField_6 rfl (lv_at hl 0 rfl) ?_
  refine lv_if_lt (tgt := 20) hx hb dX8_dropField_7 (by decide) (fun c13 => ?_) (fun c13 => ?_)
  · replace hm := (if_pos c13).symm.trans hm
    refine lv_iconst (v := 0) hx hb dX8_dropField_20 (by decide) ?_
    exact g_zret (GG := GM cy ad) K hw rfl (Option.some.inj hm).symm dX8_dropField_21
  · replace hm := (if_neg c13).symm.trans hm
    refine lv_aload_n hx hb dX8_dropField_10 rfl (lv_at hl 1 rfl) ?_
    refine g_get (ref := "MigrantHeapModel") (C := RX8) (T := TX8) (N := 44) (ci := 8) K in_X8_dropField_X8 hw 0 rfl (by decide : 0 < 1) rfl rfl 30 (by decide) (List.mem_of_getElem? (i := 1) rfl) rfl rfl dX8_dropField_11 ?_
    refine lv_iload_n hx hb dX8_dropField_14 rfl (lv_at hl 0 rfl) ?_
    obtain ⟨h14, hm⟩ := chkS hm
    refine g_iald K hw 24 0 rfl (by decide) rfl rfl h14 dX8_dropField_15 ?_
    refine lv_iconst (v := 2) hx hb dX8_dropField_16 (by decide) ?_
    refine lv_icmp_ne (tgt := 22) hx hb dX8_dropField_17 (by decide) (fun c15 => ?_) (fun c15 => ?_)
    · replace hm := (if_pos c15).symm.trans hm
      refine lv_aload_n hx hb dX8_dropField_22 rfl (lv_at hl 1 rfl) ?_
      refine lv_iload_n hx hb dX8_dropField_23 rfl (lv_at hl 0 rfl) ?_
      obtain ⟨z17, hc16, hm⟩ := bindS hm
      refine g_callv (GG := GM cy ad) K hw (va_runV (As := [.int z12]) (rest := []) (g_fix K) (c_X8_takeField l D cy ad H.size n S z12  hc16) (cwV 1 (g_hts K) gX8_dropField_X8_takeField rfl rfl rfl (by decide +kernel) ⟨Nat.le_of_ble_eq_true rfl, Nat.le_of_ble_eq_true rfl⟩) ⟨g_blind rides_none, g_recv K hw 0 rfl (by decide : 0 < 1) rfl rfl, g_pre (X2 := fun _ _ => True) K hw (fun _ _ _ => trivial)⟩ rfl rfl hl.1 rfl (lv_room (Nat.le_of_ble_eq_true rfl)) dX8_dropField_24 ⟨Nat.le_of_ble_eq_true rfl, Nat.le_of_ble_eq_true rfl⟩) (fun u H locs hp hw => ?_)
      obtain rfl := hp
      refine lv_iconst (v := 1) hx hb dX8_dropField_27 (by decide) ?_
      exact g_zret (GG := GM cy ad) K hw rfl (Option.some.inj hm).symm dX8_dropField_28
    · replace hm := (if_neg (fun h => h c15)).symm.trans hm
      refine lv_iconst (v := 0) hx hb dX8_dropField_20 (by decide) ?_
      exact g_zret (GG := GM cy ad) K hw rfl (Option.some.inj hm).symm dX8_dropField_21
set_option maxRecDepth 100000 in
set_option maxHeartbeats 4000000 in
theorem c_X8_dropField (l : Launch) (D : va_G) (cy : Nat → ClassId) (ad : Nat → Nat → Nat) (sz n : Nat) (S : MSt) (x1 : Int32)  {out : Int32 × MSt} (hm : m_X8_dropField n S x1 = some out) : Met l yX8_dropField wsX8_dropField rm_X8_dropField (va_Pc [.ref (ad 0 0), .int x1] (Pre D (tysC cy) (GM cy ad S) (fun _ _ => True) sz)) (va_Qi (fun r (u : MSt) => out = (r, u)) (fun u => Pst D (tysC cy) (AA (adrs (GM cy ad S)) sz) (GM cy ad u)) (AA (adrs (GM cy ad S)) sz)) 0 0 (AA (adrs (GM cy ad S)) sz) := by
  refine g_met (by decide) rfl (Nat.le_of_ble_eq_true rfl) ?_
  intro p e s m args below meth c K hw ls hl
  exact t_X8_dropField_0 (cy := cy) K n S x1  hm _ _ hw ls hl
end W_X8_dropField
section W_X8_nameField
variable {p : Program} {l : Launch} {e : Env} {s : State} {m : MethodId} {args : Array Value} {below : List Frame} {meth : Method} {c : Code} {D : va_G} {A : Nat → Prop} {cy : Nat → ClassId} {ad : Nat → Nat → Nat} {Q : State → Prop}
abbrev rm_X8_nameField : Room := { frames := 1, cells := 0, slots := 0, locals := 23 }
theorem in_X8_nameField_X8 : ∀ w ∈ u_ws RX8 TX8 44, w ∈ wsX8_nameField := by decide +kernel
set_option maxRecDepth 100000 in
set_option maxHeartbeats 4000000 in
theorem t_X8_nameField_0 (K : Cx p s m args meth c D A (tysC cy) RX8 cX8_nameField 4 (some .boolean) wsX8_nameField (fun _ _ => True)) (n : Nat) (S : MSt) (x1 : Int32) (x2 : Int32)  {out : Int32 × MSt} (hm : m_X8_nameField n S x1 x2 = some out) : ∀ (H : Heap) (locs : List Loc), Wd D A s.heap (GM cy ad S) H locs → ∀ ls : Array Slot, lv_has ls 4 [(0, .ref (ad 0 0)), (1, .int x1), (2, .int x2)] → W p l e rm_X8_nameField s m args below meth c H locs 0 0 (MQ below (va_Qi (fun r (u : MSt) => out = (r, u)) (fun u => Pst D (tysC cy) A (GM cy ad u)) A) args s 0 0 A) (F0 m 0 ls []) := by
  intro H locs hw ls hl
  obtain ⟨hx, hb, hml, hown, hts, hr, hlo, hK, hA, hX⟩ := id K
  unfold m_X8_nameField at hm
  refine lv_aload_n hx hb dX8_nameField_0 rfl (lv_at hl 0 rfl) ?_
  refine lv_iload_n hx hb dX8_nameField_1 rfl (lv_at hl 1 rfl) ?_
  obtain ⟨z14, hc13, hm⟩ := bindS hm
  refine g_calli (GG := GM cy ad) K hw (va_runV (As := [.int x1]) (rest := []) (g_fix K) (c_X8_findDraft l D cy ad H.size n S x1  hc13) (cwV 1 (g_hts K) gX8_nameField_X8_findDraft rfl rfl rfl (by decide +kernel) ⟨Nat.le_of_ble_eq_true rfl, Nat.le_of_ble_eq_true rfl⟩) ⟨g_blind rides_none, g_recv K hw 0 rfl (by decide : 0 < 1) rfl rfl, g_pre (X2 := fun _ _ => True) K hw (fun _ _ _ => trivial)⟩ rfl rfl hl.1 rfl (lv_room (Nat.le_of_ble_eq_true rfl)) dX8_nameField_2 ⟨Nat.le_of_ble_eq_true rfl, Nat.le_of_ble_eq_true rfl⟩) (fun r u H locs hp hw => ?_)
  obtain ⟨rfl, hu⟩ := hp
  rw [hu] at hw
  refine lv_istore_n (lv' := [(3, .int z14), (0, .ref (ad 0 0)), (1, .int x1), (2, .int x2)]) hx hb dX8_nameField_5 rfl hl (by decide) rfl (fun ls hl => ?_)
  refine lv_iload_n hx hb dX8_nameField_6 rfl (lv_at hl 0 rfl) ?_
  refine lv_if_lt (tgt := 18) hx hb dX8_nameField_7 (by decide) (fun c15 => ?_) (fun c15 => ?_)
  · replace hm := (if_pos c15).symm.trans hm
    refine lv_iconst (v := 0) hx hb dX8_nameField_18 (by decide) ?_
    exact g_zret (GG := GM cy ad) K hw rfl (Option.some.inj hm).symm dX8_nameField_19
  · replace hm := (if_neg c15).symm.trans hm
    refine lv_aload_n hx hb dX8_nameField_10 rfl (lv_at hl 1 rfl) ?_
    refine lv_iload_n hx hb dX8_nameField_11 rfl (lv_at hl 3 rfl) ?_
    obtain ⟨z17, hc16, hm⟩ := bindS hm
    refine g_calli (GG := GM cy ad) K hw (va_runV (As := [.int x2]) (rest := []) (g_fix K) (c_X8_findDraft l D cy ad H.size n S x2  hc16) (cwV 1 (g_hts K) gX8_nameField_X8_findDraft rfl rfl rfl (by decide +kernel) ⟨Nat.le_of_ble_eq_true rfl, Nat.le_of_ble_eq_true rfl⟩) ⟨g_blind rides_none, g_recv K hw 0 rfl (by decide : 0 < 1) rfl rfl, g_pre (X2 := fun _ _ => True) K hw (fun _ _ _ => trivial)⟩ rfl rfl hl.1 rfl (lv_room (Nat.le_of_ble_eq_true rfl)) dX8_nameField_12 ⟨Nat.le_of_ble_eq_true rfl, Nat.le_of_ble_eq_true rfl⟩) (fun r u H locs hp hw => ?_)
    obtain ⟨rfl, hu⟩ := hp
    rw [hu] at hw
    refine lv_if_lt (tgt := 20) hx hb dX8_nameField_15 (by decide) (fun c18 => ?_) (fun c18 => ?_)
    · replace hm := (if_pos c18).symm.trans hm
      refine lv_aload_n hx hb dX8_nameField_20 rfl (lv_at hl 1 rfl) ?_
      refine g_get (ref := "MigrantHeapModel") (C := RX8) (T := TX8) (N := 44) (ci := 8) K in_X8_nameField_X8 hw 0 rfl (by decide : 0 < 1) rfl rfl 29 (by decide) (List.mem_of_getElem? (i := 1) rfl) rfl rfl dX8_nameField_21 ?_
      refine lv_iload_n hx hb dX8_nameField_24 rfl (lv_at hl 0 rfl) ?_
      refine lv_iload_n hx hb dX8_nameField_25 rfl (lv_at hl 3 rfl) ?_
      obtain ⟨h19, hm⟩ := chkS hm
      refine g_iast K hw 23 0 rfl (by decide) rfl rfl h19 dX8_nameField_26 (eM_29 cy ad S z14.toNatClampNeg x2) (fun H locs hw => ?_)
      obtain ⟨S20, hS20, hm⟩ := nm_ex hm
      rw [← hS20] at hw
      refine lv_iconst (v := 1) hx hb dX8_nameField_27 (by decide) ?_
      exact g_zret (GG := GM cy ad) K hw rfl (Option.some.inj hm).symm dX8_nameField_28
    · replace hm := (if_neg c18).symm.trans hm
      refine lv_iconst (v := 0) hx hb dX8_nameField_18 (by decide) ?_
      exact g_zret (GG := GM cy ad) K hw rfl (Option.some.inj hm).symm dX8_nameField_19
set_option maxRecDepth 100000 in
set_option maxHeartbeats 4000000 in
theorem c_X8_nameField (l : Launch) (D : va_G) (cy : Nat → ClassId) (ad : Nat → Nat → Nat) (sz n : Nat) (S : MSt) (x1 : Int32) (x2 : Int32)  {out : Int32 × MSt} (hm : m_X8_nameField n S x1 x2 = some out) : Met l yX8_nameField wsX8_nameField rm_X8_nameField (va_Pc [.ref (ad 0 0), .int x1, .int x2] (Pre D (tysC cy) (GM cy ad S) (fun _ _ => True) sz)) (va_Qi (fun r (u : MSt) => out = (r, u)) (fun u => Pst D (tysC cy) (AA (adrs (GM cy ad S)) sz) (GM cy ad u)) (AA (adrs (GM cy ad S)) sz)) 0 0 (AA (adrs (GM cy ad S)) sz) := by
  refine g_met (by decide) rfl (Nat.le_of_ble_eq_true rfl) ?_
  intro p e s m args below meth c K hw ls hl
  exact t_X8_nameField_0 (cy := cy) K n S x1 x2  hm _ _ hw ls hl
end W_X8_nameField
section W_X8_numberField
variable {p : Program} {l : Launch} {e : Env} {s : State} {m : MethodId} {args : Array Value} {below : List Frame} {meth : Method} {c : Code} {D : va_G} {A : Nat → Prop} {cy : Nat → ClassId} {ad : Nat → Nat → Nat} {Q : State → Prop}
abbrev rm_X8_numberField : Room := { frames := 5, cells := 0, slots := 0, locals := 130 }
theorem in_X8_numberField_X8 : ∀ w ∈ u_ws RX8 TX8 44, w ∈ wsX8_numberField := by decide +kernel
set_option maxRecDepth 100000 in
set_option maxHeartbeats 4000000 in
theorem t_X8_numberField_L28 (K : Cx p s m args meth c D A (tysC cy) RX8 cX8_numberField 6 (some .boolean) wsX8_numberField (fun _ _ => True)) (n : Nat) (x1 : Int32)  (z : MSt) (hE0 : ∀ w : MSt, z = w → ∀ (H : Heap) (locs : List Loc), Wd D A s.heap (GM cy ad w) H locs → ∀ ls : Array Slot, lv_has ls 6 [] → W p l e rm_X8_numberField s m args below meth c H locs 0 0 Q (F0 m 79 ls [])) : ∀ (x : (MSt × Int32)), lpO (b_X8_numberField_28 n x1) n x = some z → (fun (x : (MSt × Int32)) => ∀ (H : Heap) (locs : List Loc), Wd D A s.heap (GM cy ad x.1) H locs → ∀ ls : Array Slot, lv_has ls 6 [(0, .ref (ad 0 0)), (1, .int x1), (5, .int x.2)] → W p l e rm_X8_numberField s m args below meth c H locs 0 0 Q (F0 m 28 ls [])) x := by
  intro x hx0
  refine lpO_ind2 (P := fun (x : (MSt × Int32)) => ∀ (H : Heap) (locs : List Loc), Wd D A s.heap (GM cy ad x.1) H locs → ∀ ls : Array Slot, lv_has ls 6 [(0, .ref (ad 0 0)), (1, .int x1), (5, .int x.2)] → W p l e rm_X8_numberField s m args below meth c H locs 0 0 Q (F0 m 28 ls [])) (z := z) ?_ n x hx0
  clear hx0 x
  intro x out hm hg H locs hw ls hl 
  obtain ⟨hx, hb, hml, hown, hts, hr, hlo, hK, hA, hX⟩ := id K
  unfold b_X8_numberField_28 at hm
  refine lv_iload hx hb dX8_numberField_28 (lv_at hl 2 rfl) ?_
  refine lv_bipush (v := 24) hx hb dX8_numberField_30 (by decide) ?_
  refine lv_icmp_ge (tgt := 79) hx hb dX8_numberField_32 (by decide) (fun c33 => ?_) (fun c33 => ?_)
  · replace hm := (if_pos c33).symm.trans hm
    obtain rfl := Option.some.inj hm
    exact hE0 _ hg.symm H locs hw ls (lv_sub hl [] rfl)
  · replace hm := (if_neg c33).symm.trans hm
    refine lv_aload_n hx hb dX8_numberField_35 rfl (lv_at hl 0 rfl) ?_
    refine g_get (ref := "MigrantHeapModel") (C := RX8) (T := TX8) (N := 44) (ci := 8) K in_X8_numberField_X8 hw 0 rfl (by decide : 0 < 1) rfl rfl 14 (by decide) (List.mem_of_getElem? (i := 1) rfl) rfl rfl dX8_numberField_36 ?_
    refine lv_iload hx hb dX8_numberField_39 (lv_at hl 2 rfl) ?_
    obtain ⟨h34, hm⟩ := chkS hm
    refine g_iald K hw 13 0 rfl (by decide) rfl rfl h34 dX8_numberField_41 ?_
    refine lv_aload_n hx hb dX8_numberField_42 rfl (lv_at hl 0 rfl) ?_
    refine g_get (ref := "MigrantHeapModel") (C := RX8) (T := TX8) (N := 44) (ci := 8) K in_X8_numberField_X8 hw 0 rfl (by decide : 0 < 1) rfl rfl 27 (by decide) (List.mem_of_getElem? (i := 2) rfl) rfl rfl dX8_numberField_43 ?_
    refine lv_icmp_ne (tgt := 73) hx hb dX8_numberField_46 (by decide) (fun c35 => ?_) (fun c35 => ?_)
    · replace hm := (if_pos c35).symm.trans hm
      obtain ⟨x36, hx36, hm⟩ := nm_ex hm
      refine lv_iinc (v := x36) (lv' := [(5, .int x36), (0, .ref (ad 0 0)), (1, .int x1)]) hx hb dX8_numberField_73 hl (k := 2) rfl (by rw [hx36]; rfl) (by decide) rfl (fun ls hl => ?_)
      refine lv_goto (tgt := 28) hx hb dX8_numberField_76 (by decide) ?_
      obtain rfl := Option.some.inj hm
      exact hg H locs hw ls (lv_sub hl [1, 2, 0] rfl)
    · replace hm := (if_neg (fun h => h c35)).symm.trans hm
      refine lv_aload_n hx hb dX8_numberField_49 rfl (lv_at hl 0 rfl) ?_
      refine g_get (ref := "MigrantHeapModel") (C := RX8) (T := TX8) (N := 44) (ci := 8) K in_X8_numberField_X8 hw 0 rfl (by decide : 0 < 1) rfl rfl 34 (by decide) (List.mem_of_getElem? (i := 3) rfl) rfl rfl dX8_numberField_50 ?_
      refine lv_bipush (v := 6) hx hb dX8_numberField_53 (by decide) ?_
      refine lv_iload hx hb dX8_numberField_55 (lv_at hl 2 rfl) ?_
      refine lv_imul hx hb dX8_numberField_57 ?_
      refine lv_aload_n hx hb dX8_numberField_58 rfl (lv_at hl 0 rfl) ?_
      refine g_get (ref := "MigrantHeapModel") (C := RX8) (T := TX8) (N := 44) (ci := 8) K in_X8_numberField_X8 hw 0 rfl (by decide : 0 < 1) rfl rfl 28 (by decide) (List.mem_of_getElem? (i := 4) rfl) rfl rfl dX8_numberField_59 ?_
      refine lv_iadd hx hb dX8_numberField_62 ?_
      refine lv_iconst (v := 1) hx hb dX8_numberField_63 (by decide) ?_
      refine lv_isub hx hb dX8_numberField_64 ?_
      refine lv_aload_n hx hb dX8_numberField_65 rfl (lv_at hl 0 rfl) ?_
      refine lv_iload_n hx hb dX8_numberField_66 rfl (lv_at hl 1 rfl) ?_
      refine lv_iload hx hb dX8_numberField_67 (lv_at hl 2 rfl) ?_
      obtain ⟨z38, hc37, hm⟩ := bindS hm
      refine g_calli (GG := GM cy ad) K hw (va_runV (As := [.int x1, .int x.2]) (rest := [.int (((6 * x.2) + (x.1.1 28 0)) - 1), .ref (ad 28 0)]) (g_fix K) (c_X8_value l D cy ad H.size n x.1 x1 x.2  hc37) (cwV 2 (g_hts K) gX8_numberField_X8_value rfl rfl rfl (by decide +kernel) ⟨Nat.le_of_ble_eq_true rfl, Nat.le_of_ble_eq_true rfl⟩) ⟨g_blind rides_none, g_recv K hw 0 rfl (by decide : 0 < 1) rfl rfl, g_pre (X2 := fun _ _ => True) K hw (fun _ _ _ => trivial)⟩ rfl rfl hl.1 rfl (lv_room (Nat.le_of_ble_eq_true rfl)) dX8_numberField_69 ⟨Nat.le_of_ble_eq_true rfl, Nat.le_of_ble_eq_true rfl⟩) (fun r u H locs hp hw => ?_)
      obtain ⟨rfl, rfl⟩ : r = z38.1 ∧ u = z38.2 := by rw [hp]; exact ⟨rfl, rfl⟩
      obtain ⟨h39, hm⟩ := chkS hm
      refine g_iast K hw 28 0 rfl (by decide) rfl rfl h39 dX8_numberField_72 (eM_34 cy ad z38.2 ((((6 * x.2) + (x.1.1 28 0)) - 1).toNatClampNeg) z38.1) (fun H locs hw => ?_)
      obtain ⟨S40, hS40, hm⟩ := nm_ex hm
      rw [← hS40] at hw
      obtain ⟨x41, hx41, hm⟩ := nm_ex hm
      refine lv_iinc (v := x41) (lv' := [(5, .int x41), (0, .ref (ad 0 0)), (1, .int x1)]) hx hb dX8_numberField_73 hl (k := 2) rfl (by rw [hx41]; rfl) (by decide) rfl (fun ls hl => ?_)
      refine lv_goto (tgt := 28) hx hb dX8_numberField_76 (by decide) ?_
      obtain rfl := Option.some.inj hm
      exact hg H locs hw ls (lv_sub hl [1, 2, 0] rfl)
set_option maxRecDepth 100000 in
set_option maxHeartbeats 4000000 in
theorem t_X8_numberField_0 (K : Cx p s m args meth c D A (tysC cy) RX8 cX8_numberField 6 (some .boolean) wsX8_numberField (fun _ _ => True)) (n : Nat) (S : MSt) (x1 : Int32) (x2 : Int32) (x3 : Int32) (x4 : Int32)  {out : Int32 × MSt} (hm : m_X8_numberField n S x1 x2 x3 x4 = some out) : ∀ (H : Heap) (locs : List Loc), Wd D A s.heap (GM cy ad S) H locs → ∀ ls : Array Slot, lv_has ls 6 [(0, .ref (ad 0 0)), (1, .int x1), (2, .int x2), (3, .int x3), (4, .int x4)] → W p l e rm_X8_numberField s m args below meth c H locs 0 0 (MQ below (va_Qi (fun r (u : MSt) => out = (r, u)) (fun u => Pst D (tysC cy) A (GM cy ad u)) A) args s 0 0 A) (F0 m 0 ls []) := by
  intro H locs hw ls hl
  obtain ⟨hx, hb, hml, hown, hts, hr, hlo, hK, hA, hX⟩ := id K
  unfold m_X8_numberField at hm
  refine lv_aload_n hx hb dX8_numberField_0 rfl (lv_at hl 0 rfl) ?_
  refine lv_iload_n hx hb dX8_numberField_1 rfl (lv_at hl 1 rfl) ?_
  refine lv_iload_n hx hb dX8_numberField_2 rfl (lv_at hl 3 rfl) ?_
  refine lv_iload hx hb dX8_numberField_3 (lv_at hl 4 rfl) ?_
  obtain ⟨z43, hc42, hm⟩ := bindS hm
  refine g_calli (GG := GM cy ad) K hw (va_runV (As := [.int x1, .int x3, .int x4]) (rest := []) (g_fix K) (c_X8_fits l D cy ad H.size n S x1 x3 x4  hc42) (cwV 3 (g_hts K) gX8_numberField_X8_fits rfl rfl rfl (by decide +kernel) ⟨Nat.le_of_ble_eq_true rfl, Nat.le_of_ble_eq_true rfl⟩) ⟨g_blind rides_none, g_recv K hw 0 rfl (by decide : 0 < 1) rfl rfl, g_pre (X2 := fun _ _ => True) K hw (fun _ _ _ => trivial)⟩ rfl rfl hl.1 rfl (lv_room (Nat.le_of_ble_eq_true rfl)) dX8_numberField_5 ⟨Nat.le_of_ble_eq_true rfl, Nat.le_of_ble_eq_true rfl⟩) (fun r u H locs hp hw => ?_)
  obtain ⟨rfl, rfl⟩ : r = z43.1 ∧ u = z43.2 := by rw [hp]; exact ⟨rfl, rfl⟩
  refine lv_if_eq (tgt := 23) hx hb dX8_numberField_8 (by decide) (fun c44 => ?_) (fun c44 => ?_)
  · replace hm := (if_pos c44).symm.trans hm
    refine lv_iconst (v := 0) hx hb dX8_numberField_23 (by decide) ?_
    exact g_zret (GG := GM cy ad) K hw rfl (Option.some.inj hm).symm dX8_numberField_24
  · replace hm := (if_neg c44).symm.trans hm
    refine lv_aload_n hx hb dX8_numberField_11 rfl (lv_at hl 0 rfl) ?_
    refine lv_iload_n hx hb dX8_numberField_12 rfl (lv_at hl 2 rfl) ?_
    refine lv_iconst (v := 0) hx hb dX8_numberField_13 (by decide) ?_
    refine lv_iload_n hx hb dX8_numberField_14 rfl (lv_at hl 3 rfl) ?_
    refine lv_iload hx hb dX8_numberField_15 (lv_at hl 4 rfl) ?_
    obtain ⟨z46, hc45, hm⟩ := bindS hm
    refine g_calli (GG := GM cy ad) K hw (va_runV (As := [.int x2, .int 0, .int x3, .int x4]) (rest := []) (g_fix K) (c_X8_append l D cy ad H.size n z43.2 x2 0 x3 x4  hc45) (cwV 4 (g_hts K) gX8_numberField_X8_append rfl rfl rfl (by decide +kernel) ⟨Nat.le_of_ble_eq_true rfl, Nat.le_of_ble_eq_true rfl⟩) ⟨g_blind rides_none, g_recv K hw 0 rfl (by decide : 0 < 1) rfl rfl, g_pre (X2 := fun _ _ => True) K hw (fun _ _ _ => trivial)⟩ rfl rfl hl.1 rfl (lv_room (Nat.le_of_ble_eq_true rfl)) dX8_numberField_17 ⟨Nat.le_of_ble_eq_true rfl, Nat.le_of_ble_eq_true rfl⟩) (fun r u H locs hp hw => ?_)
    obtain ⟨rfl, rfl⟩ : r = z46.1 ∧ u = z46.2 := by rw [hp]; exact ⟨rfl, rfl⟩
    refine lv_if_ne (tgt := 25) hx hb dX8_numberField_20 (by decide) (fun c47 => ?_) (fun c47 => ?_)
    · replace hm := (if_pos c47).symm.trans hm
      refine lv_iconst (v := 0) hx hb dX8_numberField_25 (by decide) ?_
      refine lv_istore (lv' := [(5, .int 0), (0, .ref (ad 0 0)), (1, .int x1), (2, .int x2), (3, .int x3), (4, .int x4)]) hx hb dX8_numberField_26 hl (by decide) rfl (fun ls hl => ?_)
      obtain ⟨z48, hz49, hm⟩ := bindS hm
      refine t_X8_numberField_L28 K n x1 z48 (fun w50 hww50 => ?_) ((z46.2, 0)) hz49 H locs hw ls (lv_sub hl [1, 2, 0] rfl)
      · intro H locs hw ls hl 
        try rw [hww50] at hm
        refine lv_iconst (v := 1) hx hb dX8_numberField_79 (by decide) ?_
        exact g_zret (GG := GM cy ad) K hw rfl (Option.some.inj hm).symm dX8_numberField_80
    · replace hm := (if_neg (fun h => h c47)).symm.trans hm
      refine lv_iconst (v := 0) hx hb dX8_numberField_23 (by decide) ?_
      exact g_zret (GG := GM cy ad) K hw rfl (Option.some.inj hm).symm dX8_numberField_24
set_option maxRecDepth 100000 in
set_option maxHeartbeats 4000000 in
theorem c_X8_numberField (l : Launch) (D : va_G) (cy : Nat → ClassId) (ad : Nat → Nat → Nat) (sz n : Nat) (S : MSt) (x1 : Int32) (x2 : Int32) (x3 : Int32) (x4 : Int32)  {out : Int32 × MSt} (hm : m_X8_numberField n S x1 x2 x3 x4 = some out) : Met l yX8_numberField wsX8_numberField rm_X8_numberField (va_Pc [.ref (ad 0 0), .int x1, .int x2, .int x3, .int x4] (Pre D (tysC cy) (GM cy ad S) (fun _ _ => True) sz)) (va_Qi (fun r (u : MSt) => out = (r, u)) (fun u => Pst D (tysC cy) (AA (adrs (GM cy ad S)) sz) (GM cy ad u)) (AA (adrs (GM cy ad S)) sz)) 0 0 (AA (adrs (GM cy ad S)) sz) := by
  refine g_met (by decide) rfl (Nat.le_of_ble_eq_true rfl) ?_
  intro p e s m args below meth c K hw ls hl
  exact t_X8_numberField_0 (cy := cy) K n S x1 x2 x3 x4  hm _ _ hw ls hl
end W_X8_numberField
section W_X8_rangeField
variable {p : Program} {l : Launch} {e : Env} {s : State} {m : MethodId} {args : Array Value} {below : List Frame} {meth : Method} {c : Code} {D : va_G} {A : Nat → Prop} {cy : Nat → ClassId} {ad : Nat → Nat → Nat} {Q : State → Prop}
abbrev rm_X8_rangeField : Room := { frames := 1, cells := 0, slots := 0, locals := 23 }
theorem in_X8_rangeField_X8 : ∀ w ∈ u_ws RX8 TX8 44, w ∈ wsX8_rangeField := by decide +kernel
set_option maxRecDepth 100000 in
set_option maxHeartbeats 4000000 in
theorem t_X8_rangeField_J145 (K : Cx p s m args meth c D A (tysC cy) RX8 cX8_rangeField 8 (some .boolean) wsX8_rangeField (fun _ _ => True)) (n : Nat) (S : MSt) (x2 : Int32) (x3 : Int32) (x5 : Int32) (x6 : Int32) (y1 : Int32) (y2 : Int32) {out : (MSt × Int32) ⊕ MSt} {z : MSt} (hm : m_X8_rangeField_J145 n S x2 x3 x5 x6 y1 y2 = some out) (hg : Gd (fun (x : (MSt × Int32)) => ∀ (H : Heap) (locs : List Loc), Wd D A s.heap (GM cy ad x.1) H locs → ∀ ls : Array Slot, lv_has ls 8 [(0, .ref (ad 0 0)), (2, .int x2), (3, .int x3), (5, .int x5), (6, .int x.2)] → W p l e rm_X8_rangeField s m args below meth c H locs 0 0 Q (F0 m 70 ls [])) z out) (hE0 : ∀ w : MSt, z = w → ∀ (H : Heap) (locs : List Loc), Wd D A s.heap (GM cy ad w) H locs → ∀ ls : Array Slot, lv_has ls 8 [] → W p l e rm_X8_rangeField s m args below meth c H locs 0 0 Q (F0 m 152 ls [])) : ∀ (H : Heap) (locs : List Loc), Wd D A s.heap (GM cy ad S) H locs → ∀ ls : Array Slot, lv_has ls 8 [(0, .ref (ad 0 0)), (2, .int x2), (3, .int x3), (5, .int x5), (6, .int x6)] → W p l e rm_X8_rangeField s m args below meth c H locs 0 0 Q (F0 m 145 ls [.int y2, .int y1, .ref (ad 28 0)]) := by
  intro H locs hw ls hl 
  obtain ⟨hx, hb, hml, hown, hts, hr, hlo, hK, hA, hX⟩ := id K
  unfold m_X8_rangeField_J145 at hm
  obtain ⟨h46, hm⟩ := chkS hm
  refine g_iast K hw 28 0 rfl (by decide) rfl rfl h46 dX8_rangeField_145 (eM_34 cy ad S y1.toNatClampNeg y2) (fun H locs hw => ?_)
  obtain ⟨S47, hS47, hm⟩ := nm_ex hm
  rw [← hS47] at hw
  obtain ⟨x48, hx48, hm⟩ := nm_ex hm
  refine lv_iinc (v := x48) (lv' := [(6, .int x48), (0, .ref (ad 0 0)), (2, .int x2), (3, .int x3), (5, .int x5)]) hx hb dX8_rangeField_146 hl (k := 4) rfl (by rw [hx48]; rfl) (by decide) rfl (fun ls hl => ?_)
  refine lv_goto (tgt := 70) hx hb dX8_rangeField_149 (by decide) ?_
  obtain rfl := Option.some.inj hm
  exact hg H locs hw ls (lv_sub hl [1, 2, 3, 4, 0] rfl)
set_option maxRecDepth 100000 in
set_option maxHeartbeats 4000000 in
theorem t_X8_rangeField_L70 (K : Cx p s m args meth c D A (tysC cy) RX8 cX8_rangeField 8 (some .boolean) wsX8_rangeField (fun _ _ => True)) (n : Nat) (x2 : Int32) (x3 : Int32) (x5 : Int32)  (z : MSt) (hE0 : ∀ w : MSt, z = w → ∀ (H : Heap) (locs : List Loc), Wd D A s.heap (GM cy ad w) H locs → ∀ ls : Array Slot, lv_has ls 8 [] → W p l e rm_X8_rangeField s m args below meth c H locs 0 0 Q (F0 m 152 ls [])) : ∀ (x : (MSt × Int32)), lpO (b_X8_rangeField_70 n x2 x3 x5) n x = some z → (fun (x : (MSt × Int32)) => ∀ (H : Heap) (locs : List Loc), Wd D A s.heap (GM cy ad x.1) H locs → ∀ ls : Array Slot, lv_has ls 8 [(0, .ref (ad 0 0)), (2, .int x2), (3, .int x3), (5, .int x5), (6, .int x.2)] → W p l e rm_X8_rangeField s m args below meth c H locs 0 0 Q (F0 m 70 ls [])) x := by
  intro x hx0
  refine lpO_ind2 (P := fun (x : (MSt × Int32)) => ∀ (H : Heap) (locs : List Loc), Wd D A s.heap (GM cy ad x.1) H locs → ∀ ls : Array Slot, lv_has ls 8 [(0, .ref (ad 0 0)), (2, .int x2), (3, .int x3), (5, .int x5), (6, .int x.2)] → W p l e rm_X8_rangeField s m args below meth c H locs 0 0 Q (F0 m 70 ls [])) (z := z) ?_ n x hx0
  clear hx0 x
  intro x out hm hg H locs hw ls hl 
  obtain ⟨hx, hb, hml, hown, hts, hr, hlo, hK, hA, hX⟩ := id K
  unfold b_X8_rangeField_70 at hm
  refine lv_iload hx hb dX8_rangeField_70 (lv_at hl 4 rfl) ?_
  refine lv_bipush (v := 24) hx hb dX8_rangeField_72 (by decide) ?_
  refine lv_icmp_ge (tgt := 152) hx hb dX8_rangeField_74 (by decide) (fun c49 => ?_) (fun c49 => ?_)
  · replace hm := (if_pos c49).symm.trans hm
    obtain rfl := Option.some.inj hm
    exact hE0 _ hg.symm H locs hw ls (lv_sub hl [] rfl)
  · replace hm := (if_neg c49).symm.trans hm
    refine lv_aload_n hx hb dX8_rangeField_77 rfl (lv_at hl 0 rfl) ?_
    refine g_get (ref := "MigrantHeapModel") (C := RX8) (T := TX8) (N := 44) (ci := 8) K in_X8_rangeField_X8 hw 0 rfl (by decide : 0 < 1) rfl rfl 34 (by decide) (List.mem_of_getElem? (i := 4) rfl) rfl rfl dX8_rangeField_78 ?_
    refine lv_bipush (v := 6) hx hb dX8_rangeField_81 (by decide) ?_
    refine lv_iload hx hb dX8_rangeField_83 (lv_at hl 4 rfl) ?_
    refine lv_imul hx hb dX8_rangeField_85 ?_
    refine lv_iload hx hb dX8_rangeField_86 (lv_at hl 3 rfl) ?_
    refine lv_iadd hx hb dX8_rangeField_88 ?_
    obtain ⟨h50, hm⟩ := chkS hm
    refine g_iald K hw 28 0 rfl (by decide) rfl rfl h50 dX8_rangeField_89 ?_
    obtain ⟨x51, hx51, hm⟩ := nm_ex hm
    refine W.eq (g2 := F0 m 90 ls (.int x51 :: [])) (by rw [hx51]) ?_
    refine lv_istore (lv' := [(7, .int x51), (0, .ref (ad 0 0)), (2, .int x2), (3, .int x3), (5, .int x5), (6, .int x.2)]) hx hb dX8_rangeField_90 hl (by decide) rfl (fun ls hl => ?_)
    refine lv_aload_n hx hb dX8_rangeField_92 rfl (lv_at hl 1 rfl) ?_
    refine g_get (ref := "MigrantHeapModel") (C := RX8) (T := TX8) (N := 44) (ci := 8) K in_X8_rangeField_X8 hw 0 rfl (by decide : 0 < 1) rfl rfl 34 (by decide) (List.mem_of_getElem? (i := 4) rfl) rfl rfl dX8_rangeField_93 ?_
    refine lv_bipush (v := 6) hx hb dX8_rangeField_96 (by decide) ?_
    refine lv_iload hx hb dX8_rangeField_98 (lv_at hl 5 rfl) ?_
    refine lv_imul hx hb dX8_rangeField_100 ?_
    refine lv_iload hx hb dX8_rangeField_101 (lv_at hl 4 rfl) ?_
    refine lv_iadd hx hb dX8_rangeField_103 ?_
    refine lv_aload_n hx hb dX8_rangeField_104 rfl (lv_at hl 1 rfl) ?_
    refine g_get (ref := "MigrantHeapModel") (C := RX8) (T := TX8) (N := 44) (ci := 8) K in_X8_rangeField_X8 hw 0 rfl (by decide : 0 < 1) rfl rfl 14 (by decide) (List.mem_of_getElem? (i := 5) rfl) rfl rfl dX8_rangeField_105 ?_
    refine lv_iload hx hb dX8_rangeField_108 (lv_at hl 5 rfl) ?_
    obtain ⟨h52, hm⟩ := chkS hm
    refine g_iald K hw 13 0 rfl (by decide) rfl rfl h52 dX8_rangeField_110 ?_
    refine lv_aload_n hx hb dX8_rangeField_111 rfl (lv_at hl 1 rfl) ?_
    refine g_get (ref := "MigrantHeapModel") (C := RX8) (T := TX8) (N := 44) (ci := 8) K in_X8_rangeField_X8 hw 0 rfl (by decide : 0 < 1) rfl rfl 27 (by decide) (List.mem_of_getElem? (i := 6) rfl) rfl rfl dX8_rangeField_112 ?_
    refine lv_icmp_eq (tgt := 123) hx hb dX8_rangeField_115 (by decide) (fun c53 => ?_) (fun c53 => ?_)
    · replace hm := (if_pos c53).symm.trans hm
      refine lv_iload hx hb dX8_rangeField_123 (lv_at hl 0 rfl) ?_
      refine lv_iload_n hx hb dX8_rangeField_125 rfl (lv_at hl 2 rfl) ?_
      refine lv_icmp_ge (tgt := 133) hx hb dX8_rangeField_126 (by decide) (fun c54 => ?_) (fun c54 => ?_)
      · replace hm := (if_pos c54).symm.trans hm
        refine lv_iload hx hb dX8_rangeField_133 (lv_at hl 0 rfl) ?_
        refine lv_iload_n hx hb dX8_rangeField_135 rfl (lv_at hl 3 rfl) ?_
        refine lv_icmp_le (tgt := 143) hx hb dX8_rangeField_136 (by decide) (fun c55 => ?_) (fun c55 => ?_)
        · replace hm := (if_pos c55).symm.trans hm
          refine lv_iload hx hb dX8_rangeField_143 (lv_at hl 0 rfl) ?_
          exact t_X8_rangeField_J145 K n x.1 x2 x3 x5 x.2 ((6 * x.2) + x5) x51 hm hg hE0 H locs hw ls (lv_sub hl [1, 2, 3, 4, 5] rfl)
        · replace hm := (if_neg c55).symm.trans hm
          refine lv_iload_n hx hb dX8_rangeField_139 rfl (lv_at hl 3 rfl) ?_
          refine lv_goto (tgt := 145) hx hb dX8_rangeField_140 (by decide) ?_
          exact t_X8_rangeField_J145 K n x.1 x2 x3 x5 x.2 ((6 * x.2) + x5) x3 hm hg hE0 H locs hw ls (lv_sub hl [1, 2, 3, 4, 5] rfl)
      · replace hm := (if_neg c54).symm.trans hm
        refine lv_iload_n hx hb dX8_rangeField_129 rfl (lv_at hl 2 rfl) ?_
        refine lv_goto (tgt := 145) hx hb dX8_rangeField_130 (by decide) ?_
        exact t_X8_rangeField_J145 K n x.1 x2 x3 x5 x.2 ((6 * x.2) + x5) x2 hm hg hE0 H locs hw ls (lv_sub hl [1, 2, 3, 4, 5] rfl)
    · replace hm := (if_neg c53).symm.trans hm
      refine lv_iload hx hb dX8_rangeField_118 (lv_at hl 0 rfl) ?_
      refine lv_goto (tgt := 145) hx hb dX8_rangeField_120 (by decide) ?_
      exact t_X8_rangeField_J145 K n x.1 x2 x3 x5 x.2 ((6 * x.2) + x5) x51 hm hg hE0 H locs hw ls (lv_sub hl [1, 2, 3, 4, 5] rfl)
set_option maxRecDepth 100000 in
set_option maxHeartbeats 4000000 in
theorem t_X8_rangeField_J51 (K : Cx p s m args meth c D A (tysC cy) RX8 cX8_rangeField 8 (some .boolean) wsX8_rangeField (fun _ _ => True)) (n : Nat) (S : MSt) (x2 : Int32) (x3 : Int32) (x5 : Int32) {out : Int32 × MSt} (hm : m_X8_rangeField_J51 n S x2 x3 x5 = some out) : ∀ (H : Heap) (locs : List Loc), Wd D A s.heap (GM cy ad S) H locs → ∀ ls : Array Slot, lv_has ls 8 [(0, .ref (ad 0 0)), (2, .int x2), (3, .int x3), (5, .int x5)] → W p l e rm_X8_rangeField s m args below meth c H locs 0 0 (MQ below (va_Qi (fun r (u : MSt) => out = (r, u)) (fun u => Pst D (tysC cy) A (GM cy ad u)) A) args s 0 0 A) (F0 m 51 ls []) := by
  intro H locs hw ls hl 
  obtain ⟨hx, hb, hml, hown, hts, hr, hlo, hK, hA, hX⟩ := id K
  unfold m_X8_rangeField_J51 at hm
  refine lv_aload_n hx hb dX8_rangeField_51 rfl (lv_at hl 0 rfl) ?_
  refine g_get (ref := "MigrantHeapModel") (C := RX8) (T := TX8) (N := 44) (ci := 8) K in_X8_rangeField_X8 hw 0 rfl (by decide : 0 < 1) rfl rfl 31 (by decide) (List.mem_of_getElem? (i := 2) rfl) rfl rfl dX8_rangeField_52 ?_
  refine lv_iload hx hb dX8_rangeField_55 (lv_at hl 3 rfl) ?_
  refine lv_iload_n hx hb dX8_rangeField_57 rfl (lv_at hl 1 rfl) ?_
  obtain ⟨h56, hm⟩ := chkS hm
  refine g_iast K hw 25 0 rfl (by decide) rfl rfl h56 dX8_rangeField_58 (eM_31 cy ad S x5.toNatClampNeg x2) (fun H locs hw => ?_)
  obtain ⟨S57, hS57, hm⟩ := nm_ex hm
  rw [← hS57] at hw
  refine lv_aload_n hx hb dX8_rangeField_59 rfl (lv_at hl 0 rfl) ?_
  refine g_get (ref := "MigrantHeapModel") (C := RX8) (T := TX8) (N := 44) (ci := 8) K in_X8_rangeField_X8 hw 0 rfl (by decide : 0 < 1) rfl rfl 32 (by decide) (List.mem_of_getElem? (i := 3) rfl) rfl rfl dX8_rangeField_60 ?_
  refine lv_iload hx hb dX8_rangeField_63 (lv_at hl 3 rfl) ?_
  refine lv_iload_n hx hb dX8_rangeField_65 rfl (lv_at hl 2 rfl) ?_
  obtain ⟨h58, hm⟩ := chkS hm
  refine g_iast K hw 26 0 rfl (by decide) rfl rfl h58 dX8_rangeField_66 (eM_32 cy ad S57 x5.toNatClampNeg x3) (fun H locs hw => ?_)
  obtain ⟨S59, hS59, hm⟩ := nm_ex hm
  rw [← hS59] at hw
  refine lv_iconst (v := 0) hx hb dX8_rangeField_67 (by decide) ?_
  refine lv_istore (lv' := [(6, .int 0), (0, .ref (ad 0 0)), (2, .int x2), (3, .int x3), (5, .int x5)]) hx hb dX8_rangeField_68 hl (by decide) rfl (fun ls hl => ?_)
  obtain ⟨z60, hz61, hm⟩ := bindS hm
  refine t_X8_rangeField_L70 K n x2 x3 x5 z60 (fun w62 hww62 => ?_) ((S59, 0)) hz61 H locs hw ls (lv_sub hl [1, 2, 3, 4, 0] rfl)
  · intro H locs hw ls hl 
    try rw [hww62] at hm
    refine lv_iconst (v := 1) hx hb dX8_rangeField_152 (by decide) ?_
    exact g_zret (GG := GM cy ad) K hw rfl (Option.some.inj hm).symm dX8_rangeField_153
set_option maxRecDepth 100000 in
set_option maxHeartbeats 4000000 in
theorem t_X8_rangeField_0 (K : Cx p s m args meth c D A (tysC cy) RX8 cX8_rangeField 8 (some .boolean) wsX8_rangeField (fun _ _ => True)) (n : Nat) (S : MSt) (x1 : Int32) (x2 : Int32) (x3 : Int32) (x4 : Int32)  {out : Int32 × MSt} (hm : m_X8_rangeField n S x1 x2 x3 x4 = some out) : ∀ (H : Heap) (locs : List Loc), Wd D A s.heap (GM cy ad S) H locs → ∀ ls : Array Slot, lv_has ls 8 [(0, .ref (ad 0 0)), (1, .int x1), (2, .int x2), (3, .int x3), (4, .int x4)] → W p l e rm_X8_rangeField s m args below meth c H locs 0 0 (MQ below (va_Qi (fun r (u : MSt) => out = (r, u)) (fun u => Pst D (tysC cy) A (GM cy ad u)) A) args s 0 0 A) (F0 m 0 ls []) := by
  intro H locs hw ls hl
  obtain ⟨hx, hb, hml, hown, hts, hr, hlo, hK, hA, hX⟩ := id K
  unfold m_X8_rangeField at hm
  refine lv_aload_n hx hb dX8_rangeField_0 rfl (lv_at hl 0 rfl) ?_
  refine lv_iload_n hx hb dX8_rangeField_1 rfl (lv_at hl 1 rfl) ?_
  obtain ⟨z64, hc63, hm⟩ := bindS hm
  refine g_calli (GG := GM cy ad) K hw (va_runV (As := [.int x1]) (rest := []) (g_fix K) (c_X8_findDraft l D cy ad H.size n S x1  hc63) (cwV 1 (g_hts K) gX8_rangeField_X8_findDraft rfl rfl rfl (by decide +kernel) ⟨Nat.le_of_ble_eq_true rfl, Nat.le_of_ble_eq_true rfl⟩) ⟨g_blind rides_none, g_recv K hw 0 rfl (by decide : 0 < 1) rfl rfl, g_pre (X2 := fun _ _ => True) K hw (fun _ _ _ => trivial)⟩ rfl rfl hl.1 rfl (lv_room (Nat.le_of_ble_eq_true rfl)) dX8_rangeField_2 ⟨Nat.le_of_ble_eq_true rfl, Nat.le_of_ble_eq_true rfl⟩) (fun r u H locs hp hw => ?_)
  obtain ⟨rfl, hu⟩ := hp
  rw [hu] at hw
  refine lv_istore (lv' := [(5, .int z64), (0, .ref (ad 0 0)), (1, .int x1), (2, .int x2), (3, .int x3), (4, .int x4)]) hx hb dX8_rangeField_5 hl (by decide) rfl (fun ls hl => ?_)
  refine lv_iload hx hb dX8_rangeField_7 (lv_at hl 0 rfl) ?_
  refine lv_if_lt (tgt := 49) hx hb dX8_rangeField_9 (by decide) (fun c65 => ?_) (fun c65 => ?_)
  · replace hm := (if_pos c65).symm.trans hm
    refine lv_iconst (v := 0) hx hb dX8_rangeField_49 (by decide) ?_
    exact g_zret (GG := GM cy ad) K hw rfl (Option.some.inj hm).symm dX8_rangeField_50
  · replace hm := (if_neg c65).symm.trans hm
    refine lv_aload_n hx hb dX8_rangeField_12 rfl (lv_at hl 1 rfl) ?_
    refine g_get (ref := "MigrantHeapModel") (C := RX8) (T := TX8) (N := 44) (ci := 8) K in_X8_rangeField_X8 hw 0 rfl (by decide : 0 < 1) rfl rfl 30 (by decide) (List.mem_of_getElem? (i := 1) rfl) rfl rfl dX8_rangeField_13 ?_
    refine lv_iload hx hb dX8_rangeField_16 (lv_at hl 0 rfl) ?_
    obtain ⟨h66, hm⟩ := chkS hm
    refine g_iald K hw 24 0 rfl (by decide) rfl rfl h66 dX8_rangeField_18 ?_
    refine lv_if_ne (tgt := 49) hx hb dX8_rangeField_19 (by decide) (fun c67 => ?_) (fun c67 => ?_)
    · replace hm := (if_pos c67).symm.trans hm
      refine lv_iconst (v := 0) hx hb dX8_rangeField_49 (by decide) ?_
      exact g_zret (GG := GM cy ad) K hw rfl (Option.some.inj hm).symm dX8_rangeField_50
    · replace hm := (if_neg (fun h => h c67)).symm.trans hm
      refine lv_iload hx hb dX8_rangeField_22 (lv_at hl 5 rfl) ?_
      refine lv_if_ne (tgt := 51) hx hb dX8_rangeField_24 (by decide) (fun c68 => ?_) (fun c68 => ?_)
      · replace hm := (if_pos c68).symm.trans hm
        exact t_X8_rangeField_J51 K n S x2 x3 z64 hm H locs hw ls (lv_sub hl [1, 3, 4, 0] rfl)
      · replace hm := (if_neg (fun h => h c68)).symm.trans hm
        refine lv_aload_n hx hb dX8_rangeField_27 rfl (lv_at hl 1 rfl) ?_
        refine g_get (ref := "MigrantHeapModel") (C := RX8) (T := TX8) (N := 44) (ci := 8) K in_X8_rangeField_X8 hw 0 rfl (by decide : 0 < 1) rfl rfl 31 (by decide) (List.mem_of_getElem? (i := 2) rfl) rfl rfl dX8_rangeField_28 ?_
        refine lv_iload hx hb dX8_rangeField_31 (lv_at hl 0 rfl) ?_
        obtain ⟨h69, hm⟩ := chkS hm
        refine g_iald K hw 25 0 rfl (by decide) rfl rfl h69 dX8_rangeField_33 ?_
        refine lv_iload_n hx hb dX8_rangeField_34 rfl (lv_at hl 3 rfl) ?_
        refine lv_icmp_lt (tgt := 49) hx hb dX8_rangeField_35 (by decide) (fun c70 => ?_) (fun c70 => ?_)
        · replace hm := (if_pos c70).symm.trans hm
          refine lv_iconst (v := 0) hx hb dX8_rangeField_49 (by decide) ?_
          exact g_zret (GG := GM cy ad) K hw rfl (Option.some.inj hm).symm dX8_rangeField_50
        · replace hm := (if_neg c70).symm.trans hm
          refine lv_aload_n hx hb dX8_rangeField_38 rfl (lv_at hl 1 rfl) ?_
          refine g_get (ref := "MigrantHeapModel") (C := RX8) (T := TX8) (N := 44) (ci := 8) K in_X8_rangeField_X8 hw 0 rfl (by decide : 0 < 1) rfl rfl 32 (by decide) (List.mem_of_getElem? (i := 3) rfl) rfl rfl dX8_rangeField_39 ?_
          refine lv_iload hx hb dX8_rangeField_42 (lv_at hl 0 rfl) ?_
          obtain ⟨h71, hm⟩ := chkS hm
          refine g_iald K hw 26 0 rfl (by decide) rfl rfl h71 dX8_rangeField_44 ?_
          refine lv_iload_n hx hb dX8_rangeField_45 rfl (lv_at hl 4 rfl) ?_
          refine lv_icmp_le (tgt := 51) hx hb dX8_rangeField_46 (by decide) (fun c72 => ?_) (fun c72 => ?_)
          · replace hm := (if_pos c72).symm.trans hm
            exact t_X8_rangeField_J51 K n S x2 x3 z64 hm H locs hw ls (lv_sub hl [1, 3, 4, 0] rfl)
          · replace hm := (if_neg c72).symm.trans hm
            refine lv_iconst (v := 0) hx hb dX8_rangeField_49 (by decide) ?_
            exact g_zret (GG := GM cy ad) K hw rfl (Option.some.inj hm).symm dX8_rangeField_50
set_option maxRecDepth 100000 in
set_option maxHeartbeats 4000000 in
theorem c_X8_rangeField (l : Launch) (D : va_G) (cy : Nat → ClassId) (ad : Nat → Nat → Nat) (sz n : Nat) (S : MSt) (x1 : Int32) (x2 : Int32) (x3 : Int32) (x4 : Int32)  {out : Int32 × MSt} (hm : m_X8_rangeField n S x1 x2 x3 x4 = some out) : Met l yX8_rangeField wsX8_rangeField rm_X8_rangeField (va_Pc [.ref (ad 0 0), .int x1, .int x2, .int x3, .int x4] (Pre D (tysC cy) (GM cy ad S) (fun _ _ => True) sz)) (va_Qi (fun r (u : MSt) => out = (r, u)) (fun u => Pst D (tysC cy) (AA (adrs (GM cy ad S)) sz) (GM cy ad u)) (AA (adrs (GM cy ad S)) sz)) 0 0 (AA (adrs (GM cy ad S)) sz) := by
  refine g_met (by decide) rfl (Nat.le_of_ble_eq_true rfl) ?_
  intro p e s m args below meth c K hw ls hl
  exact t_X8_rangeField_0 (cy := cy) K n S x1 x2 x3 x4  hm _ _ hw ls hl
end W_X8_rangeField
section W_X8_referenceField
variable {p : Program} {l : Launch} {e : Env} {s : State} {m : MethodId} {args : Array Value} {below : List Frame} {meth : Method} {c : Code} {D : va_G} {A : Nat → Prop} {cy : Nat → ClassId} {ad : Nat → Nat → Nat} {Q : State → Prop}
abbrev rm_X8_referenceField : Room := { frames := 2, cells := 0, slots := 0, locals := 47 }
theorem in_X8_referenceField_X8 : ∀ w ∈ u_ws RX8 TX8 44, w ∈ wsX8_referenceField := by decide +kernel
set_option maxRecDepth 100000 in
set_option maxHeartbeats 4000000 in
theorem t_X8_referenceField_L15 (K : Cx p s m args meth c D A (tysC cy) RX8 cX8_referenceField 4 (some .boolean) wsX8_referenceField (fun _ _ => True)) (n : Nat)   (z : MSt) (hE0 : ∀ w : MSt, z = w → ∀ (H : Heap) (locs : List Loc), Wd D A s.heap (GM cy ad w) H locs → ∀ ls : Array Slot, lv_has ls 4 [] → W p l e rm_X8_referenceField s m args below meth c H locs 0 0 Q (F0 m 44 ls [])) : ∀ (x : (MSt × Int32)), lpO (b_X8_referenceField_15 n ) n x = some z → (fun (x : (MSt × Int32)) => ∀ (H : Heap) (locs : List Loc), Wd D A s.heap (GM cy ad x.1) H locs → ∀ ls : Array Slot, lv_has ls 4 [(0, .ref (ad 0 0)), (3, .int x.2)] → W p l e rm_X8_referenceField s m args below meth c H locs 0 0 Q (F0 m 15 ls [])) x := by
  intro x hx0
  refine lpO_ind2 (P := fun (x : (MSt × Int32)) => ∀ (H : Heap) (locs : List Loc), Wd D A s.heap (GM cy ad x.1) H locs → ∀ ls : Array Slot, lv_has ls 4 [(0, .ref (ad 0 0)), (3, .int x.2)] → W p l e rm_X8_referenceField s m args below meth c H locs 0 0 Q (F0 m 15 ls [])) (z := z) ?_ n x hx0
  clear hx0 x
  intro x out hm hg H locs hw ls hl 
  obtain ⟨hx, hb, hml, hown, hts, hr, hlo, hK, hA, hX⟩ := id K
  unfold b_X8_referenceField_15 at hm
  refine lv_iload_n hx hb dX8_referenceField_15 rfl (lv_at hl 1 rfl) ?_
  refine lv_bipush (v := 24) hx hb dX8_referenceField_16 (by decide) ?_
  refine lv_icmp_ge (tgt := 44) hx hb dX8_referenceField_18 (by decide) (fun c16 => ?_) (fun c16 => ?_)
  · replace hm := (if_pos c16).symm.trans hm
    obtain rfl := Option.some.inj hm
    exact hE0 _ hg.symm H locs hw ls (lv_sub hl [] rfl)
  · replace hm := (if_neg c16).symm.trans hm
    refine lv_aload_n hx hb dX8_referenceField_21 rfl (lv_at hl 0 rfl) ?_
    refine g_get (ref := "MigrantHeapModel") (C := RX8) (T := TX8) (N := 44) (ci := 8) K in_X8_referenceField_X8 hw 0 rfl (by decide : 0 < 1) rfl rfl 34 (by decide) (List.mem_of_getElem? (i := 1) rfl) rfl rfl dX8_referenceField_22 ?_
    refine lv_bipush (v := 6) hx hb dX8_referenceField_25 (by decide) ?_
    refine lv_iload_n hx hb dX8_referenceField_27 rfl (lv_at hl 1 rfl) ?_
    refine lv_imul hx hb dX8_referenceField_28 ?_
    refine lv_aload_n hx hb dX8_referenceField_29 rfl (lv_at hl 0 rfl) ?_
    refine g_get (ref := "MigrantHeapModel") (C := RX8) (T := TX8) (N := 44) (ci := 8) K in_X8_referenceField_X8 hw 0 rfl (by decide : 0 < 1) rfl rfl 28 (by decide) (List.mem_of_getElem? (i := 2) rfl) rfl rfl dX8_referenceField_30 ?_
    refine lv_iadd hx hb dX8_referenceField_33 ?_
    refine lv_iconst (v := 1) hx hb dX8_referenceField_34 (by decide) ?_
    refine lv_isub hx hb dX8_referenceField_35 ?_
    refine lv_iconst (v := (-1)) hx hb dX8_referenceField_36 (by decide) ?_
    obtain ⟨h17, hm⟩ := chkS hm
    refine g_iast K hw 28 0 rfl (by decide) rfl rfl h17 dX8_referenceField_37 (eM_34 cy ad x.1 ((((6 * x.2) + (x.1.1 28 0)) - 1).toNatClampNeg) (-1)) (fun H locs hw => ?_)
    obtain ⟨S18, hS18, hm⟩ := nm_ex hm
    rw [← hS18] at hw
    obtain ⟨x19, hx19, hm⟩ := nm_ex hm
    refine lv_iinc (v := x19) (lv' := [(3, .int x19), (0, .ref (ad 0 0))]) hx hb dX8_referenceField_38 hl (k := 1) rfl (by rw [hx19]; rfl) (by decide) rfl (fun ls hl => ?_)
    refine lv_goto (tgt := 15) hx hb dX8_referenceField_41 (by decide) ?_
    obtain rfl := Option.some.inj hm
    exact hg H locs hw ls (lv_sub hl [1, 0] rfl)
set_option maxRecDepth 100000 in
set_option maxHeartbeats 4000000 in
theorem t_X8_referenceField_0 (K : Cx p s m args meth c D A (tysC cy) RX8 cX8_referenceField 4 (some .boolean) wsX8_referenceField (fun _ _ => True)) (n : Nat) (S : MSt) (x1 : Int32) (x2 : Int32)  {out : Int32 × MSt} (hm : m_X8_referenceField n S x1 x2 = some out) : ∀ (H : Heap) (locs : List Loc), Wd D A s.heap (GM cy ad S) H locs → ∀ ls : Array Slot, lv_has ls 4 [(0, .ref (ad 0 0)), (1, .int x1), (2, .int x2)] → W p l e rm_X8_referenceField s m args below meth c H locs 0 0 (MQ below (va_Qi (fun r (u : MSt) => out = (r, u)) (fun u => Pst D (tysC cy) A (GM cy ad u)) A) args s 0 0 A) (F0 m 0 ls []) := by
  intro H locs hw ls hl
  obtain ⟨hx, hb, hml, hown, hts, hr, hlo, hK, hA, hX⟩ := id K
  unfold m_X8_referenceField at hm
  refine lv_aload_n hx hb dX8_referenceField_0 rfl (lv_at hl 0 rfl) ?_
  refine lv_iload_n hx hb dX8_referenceField_1 rfl (lv_at hl 1 rfl) ?_
  refine lv_iconst (v := 1) hx hb dX8_referenceField_2 (by decide) ?_
  refine lv_iload_n hx hb dX8_referenceField_3 rfl (lv_at hl 2 rfl) ?_
  refine lv_iload_n hx hb dX8_referenceField_4 rfl (lv_at hl 2 rfl) ?_
  obtain ⟨z21, hc20, hm⟩ := bindS hm
  refine g_calli (GG := GM cy ad) K hw (va_runV (As := [.int x1, .int 1, .int x2, .int x2]) (rest := []) (g_fix K) (c_X8_append l D cy ad H.size n S x1 1 x2 x2  hc20) (cwV 4 (g_hts K) gX8_referenceField_X8_append rfl rfl rfl (by decide +kernel) ⟨Nat.le_of_ble_eq_true rfl, Nat.le_of_ble_eq_true rfl⟩) ⟨g_blind rides_none, g_recv K hw 0 rfl (by decide : 0 < 1) rfl rfl, g_pre (X2 := fun _ _ => True) K hw (fun _ _ _ => trivial)⟩ rfl rfl hl.1 rfl (lv_room (Nat.le_of_ble_eq_true rfl)) dX8_referenceField_5 ⟨Nat.le_of_ble_eq_true rfl, Nat.le_of_ble_eq_true rfl⟩) (fun r u H locs hp hw => ?_)
  obtain ⟨rfl, rfl⟩ : r = z21.1 ∧ u = z21.2 := by rw [hp]; exact ⟨rfl, rfl⟩
  refine lv_if_ne (tgt := 13) hx hb dX8_referenceField_8 (by decide) (fun c22 => ?_) (fun c22 => ?_)
  · replace hm := (if_pos c22).symm.trans hm
    refine lv_iconst (v := 0) hx hb dX8_referenceField_13 (by decide) ?_
    refine lv_istore_n (lv' := [(3, .int 0), (0, .ref (ad 0 0)), (1, .int x1), (2, .int x2)]) hx hb dX8_referenceField_14 rfl hl (by decide) rfl (fun ls hl => ?_)
    obtain ⟨z23, hz24, hm⟩ := bindS hm
    refine t_X8_referenceField_L15 K n  z23 (fun w25 hww25 => ?_) ((z21.2, 0)) hz24 H locs hw ls (lv_sub hl [1, 0] rfl)
    · intro H locs hw ls hl 
      try rw [hww25] at hm
      refine lv_iconst (v := 1) hx hb dX8_referenceField_44 (by decide) ?_
      exact g_zret (GG := GM cy ad) K hw rfl (Option.some.inj hm).symm dX8_referenceField_45
  · replace hm := (if_neg (fun h => h c22)).symm.trans hm
    refine lv_iconst (v := 0) hx hb dX8_referenceField_11 (by decide) ?_
    exact g_zret (GG := GM cy ad) K hw rfl (Option.some.inj hm).symm dX8_referenceField_12
set_option maxRecDepth 100000 in
set_option maxHeartbeats 4000000 in
theorem c_X8_referenceField (l : Launch) (D : va_G) (cy : Nat → ClassId) (ad : Nat → Nat → Nat) (sz n : Nat) (S : MSt) (x1 : Int32) (x2 : Int32)  {out : Int32 × MSt} (hm : m_X8_referenceField n S x1 x2 = some out) : Met l yX8_referenceField wsX8_referenceField rm_X8_referenceField (va_Pc [.ref (ad 0 0), .int x1, .int x2] (Pre D (tysC cy) (GM cy ad S) (fun _ _ => True) sz)) (va_Qi (fun r (u : MSt) => out = (r, u)) (fun u => Pst D (tysC cy) (AA (adrs (GM cy ad S)) sz) (GM cy ad u)) (AA (adrs (GM cy ad S)) sz)) 0 0 (AA (adrs (GM cy ad S)) sz) := by
  refine g_met (by decide) rfl (Nat.le_of_ble_eq_true rfl) ?_
  intro p e s m args below meth c K hw ls hl
  exact t_X8_referenceField_0 (cy := cy) K n S x1 x2  hm _ _ hw ls hl
end W_X8_referenceField
section W_X8_canSplit
variable {p : Program} {l : Launch} {e : Env} {s : State} {m : MethodId} {args : Array Value} {below : List Frame} {meth : Method} {c : Code} {D : va_G} {A : Nat → Prop} {cy : Nat → ClassId} {ad : Nat → Nat → Nat} {Q : State → Prop}
abbrev rm_X8_canSplit : Room := { frames := 1, cells := 0, slots := 0, locals := 23 }
theorem in_X8_canSplit_X8 : ∀ w ∈ u_ws RX8 TX8 44, w ∈ wsX8_canSplit := by decide +kernel
set_option maxRecDepth 100000 in
set_option maxHeartbeats 4000000 in
theorem t_X8_canSplit_J74 (K : Cx p s m args meth c D A (tysC cy) RX8 cX8_canSplit 7 (some .boolean) wsX8_canSplit (fun _ _ => True)) (n : Nat) (S : MSt) (x1 : Int32) (x3 : Int32) (x4 : Int32) (x5 : Int32) (y0 : Int32) {out : (Int32 × Int32) ⊕ (Unit ⊕ Int32)} {z : (Unit ⊕ Int32)} (hm : m_X8_canSplit_J74 n S x1 x3 x4 x5 y0 = some out) (hg : Gd (fun (x : (Int32 × Int32)) => ∀ (H : Heap) (locs : List Loc), Wd D A s.heap (GM cy ad S) H locs → ∀ ls : Array Slot, lv_has ls 7 [(0, .ref (ad 0 0)), (1, .int x1), (3, .int x.1), (4, .int x.2)] → W p l e rm_X8_canSplit s m args below meth c H locs 0 0 Q (F0 m 5 ls [])) z out) (hE0 : ∀ w : Unit, z = .inl w → ∀ (H : Heap) (locs : List Loc), Wd D A s.heap (GM cy ad S) H locs → ∀ ls : Array Slot, lv_has ls 7 [] → W p l e rm_X8_canSplit s m args below meth c H locs 0 0 Q (F0 m 125 ls [])) (hE1 : ∀ w : Int32, z = .inr w → ∀ (H : Heap) (locs : List Loc), Wd D A s.heap (GM cy ad S) H locs → ∀ ls : Array Slot, lv_has ls 7 [(0, .ref (ad 0 0)), (1, .int x1), (3, .int w)] → W p l e rm_X8_canSplit s m args below meth c H locs 0 0 Q (F0 m 152 ls [])) : ∀ (H : Heap) (locs : List Loc), Wd D A s.heap (GM cy ad S) H locs → ∀ ls : Array Slot, lv_has ls 7 [(0, .ref (ad 0 0)), (1, .int x1), (3, .int x3), (4, .int x4), (5, .int x5)] → W p l e rm_X8_canSplit s m args below meth c H locs 0 0 Q (F0 m 74 ls [.int y0]) := by
  intro H locs hw ls hl 
  obtain ⟨hx, hb, hml, hown, hts, hr, hlo, hK, hA, hX⟩ := id K
  unfold m_X8_canSplit_J74 at hm
  refine lv_istore (lv' := [(6, .int y0), (0, .ref (ad 0 0)), (1, .int x1), (3, .int x3), (4, .int x4), (5, .int x5)]) hx hb dX8_canSplit_74 hl (by decide) rfl (fun ls hl => ?_)
  refine lv_iload hx hb dX8_canSplit_76 (lv_at hl 0 rfl) ?_
  refine lv_if_eq (tgt := 125) hx hb dX8_canSplit_78 (by decide) (fun c58 => ?_) (fun c58 => ?_)
  · replace hm := (if_pos c58).symm.trans hm
    obtain rfl := Option.some.inj hm
    exact hE0 _ hg.symm H locs hw ls (lv_sub hl [] rfl)
  · replace hm := (if_neg c58).symm.trans hm
    refine lv_aload_n hx hb dX8_canSplit_81 rfl (lv_at hl 1 rfl) ?_
    refine g_get (ref := "MigrantHeapModel") (C := RX8) (T := TX8) (N := 44) (ci := 8) K in_X8_canSplit_X8 hw 0 rfl (by decide : 0 < 1) rfl rfl 31 (by decide) (List.mem_of_getElem? (i := 4) rfl) rfl rfl dX8_canSplit_82 ?_
    refine lv_iload hx hb dX8_canSplit_85 (lv_at hl 5 rfl) ?_
    obtain ⟨h59, hm⟩ := chkS hm
    refine g_iald K hw 25 0 rfl (by decide) rfl rfl h59 dX8_canSplit_87 ?_
    refine lv_aload_n hx hb dX8_canSplit_88 rfl (lv_at hl 1 rfl) ?_
    refine g_get (ref := "MigrantHeapModel") (C := RX8) (T := TX8) (N := 44) (ci := 8) K in_X8_canSplit_X8 hw 0 rfl (by decide : 0 < 1) rfl rfl 7 (by decide) (List.mem_of_getElem? (i := 5) rfl) rfl rfl dX8_canSplit_89 ?_
    refine lv_bipush (v := 6) hx hb dX8_canSplit_92 (by decide) ?_
    refine lv_iload_n hx hb dX8_canSplit_94 rfl (lv_at hl 2 rfl) ?_
    refine lv_imul hx hb dX8_canSplit_95 ?_
    refine lv_iload hx hb dX8_canSplit_96 (lv_at hl 4 rfl) ?_
    refine lv_iadd hx hb dX8_canSplit_98 ?_
    obtain ⟨h60, hm⟩ := chkS hm
    refine g_iald K hw 6 0 rfl (by decide) rfl rfl h60 dX8_canSplit_99 ?_
    refine lv_icmp_lt (tgt := 125) hx hb dX8_canSplit_100 (by decide) (fun c61 => ?_) (fun c61 => ?_)
    · replace hm := (if_pos c61).symm.trans hm
      obtain rfl := Option.some.inj hm
      exact hE0 _ hg.symm H locs hw ls (lv_sub hl [] rfl)
    · replace hm := (if_neg c61).symm.trans hm
      refine lv_aload_n hx hb dX8_canSplit_103 rfl (lv_at hl 1 rfl) ?_
      refine g_get (ref := "MigrantHeapModel") (C := RX8) (T := TX8) (N := 44) (ci := 8) K in_X8_canSplit_X8 hw 0 rfl (by decide : 0 < 1) rfl rfl 32 (by decide) (List.mem_of_getElem? (i := 6) rfl) rfl rfl dX8_canSplit_104 ?_
      refine lv_iload hx hb dX8_canSplit_107 (lv_at hl 5 rfl) ?_
      obtain ⟨h62, hm⟩ := chkS hm
      refine g_iald K hw 26 0 rfl (by decide) rfl rfl h62 dX8_canSplit_109 ?_
      refine lv_aload_n hx hb dX8_canSplit_110 rfl (lv_at hl 1 rfl) ?_
      refine g_get (ref := "MigrantHeapModel") (C := RX8) (T := TX8) (N := 44) (ci := 8) K in_X8_canSplit_X8 hw 0 rfl (by decide : 0 < 1) rfl rfl 8 (by decide) (List.mem_of_getElem? (i := 7) rfl) rfl rfl dX8_canSplit_111 ?_
      refine lv_bipush (v := 6) hx hb dX8_canSplit_114 (by decide) ?_
      refine lv_iload_n hx hb dX8_canSplit_116 rfl (lv_at hl 2 rfl) ?_
      refine lv_imul hx hb dX8_canSplit_117 ?_
      refine lv_iload hx hb dX8_canSplit_118 (lv_at hl 4 rfl) ?_
      refine lv_iadd hx hb dX8_canSplit_120 ?_
      obtain ⟨h63, hm⟩ := chkS hm
      refine g_iald K hw 7 0 rfl (by decide) rfl rfl h63 dX8_canSplit_121 ?_
      refine lv_icmp_le (tgt := 127) hx hb dX8_canSplit_122 (by decide) (fun c64 => ?_) (fun c64 => ?_)
      · replace hm := (if_pos c64).symm.trans hm
        refine lv_iload_n hx hb dX8_canSplit_127 rfl (lv_at hl 3 rfl) ?_
        refine lv_iconst (v := 1) hx hb dX8_canSplit_128 (by decide) ?_
        refine lv_aload_n hx hb dX8_canSplit_129 rfl (lv_at hl 1 rfl) ?_
        refine g_get (ref := "MigrantHeapModel") (C := RX8) (T := TX8) (N := 44) (ci := 8) K in_X8_canSplit_X8 hw 0 rfl (by decide : 0 < 1) rfl rfl 5 (by decide) (List.mem_of_getElem? (i := 2) rfl) rfl rfl dX8_canSplit_130 ?_
        refine lv_bipush (v := 6) hx hb dX8_canSplit_133 (by decide) ?_
        refine lv_iload_n hx hb dX8_canSplit_135 rfl (lv_at hl 2 rfl) ?_
        refine lv_imul hx hb dX8_canSplit_136 ?_
        refine lv_iload hx hb dX8_canSplit_137 (lv_at hl 4 rfl) ?_
        refine lv_iadd hx hb dX8_canSplit_139 ?_
        obtain ⟨h65, hm⟩ := chkS hm
        refine g_iald K hw 4 0 rfl (by decide) rfl rfl h65 dX8_canSplit_140 ?_
        refine lv_ishl hx hb dX8_canSplit_141 ?_
        refine lv_iconst (v := (-1)) hx hb dX8_canSplit_142 (by decide) ?_
        refine lv_ixor hx hb dX8_canSplit_143 ?_
        refine lv_iand hx hb dX8_canSplit_144 ?_
        obtain ⟨x66, hx66, hm⟩ := nm_ex hm
        refine W.eq (g2 := F0 m 145 ls (.int x66 :: [])) (by rw [hx66]) ?_
        refine lv_istore_n (lv' := [(3, .int x66), (6, .int y0), (0, .ref (ad 0 0)), (1, .int x1), (4, .int x4), (5, .int x5)]) hx hb dX8_canSplit_145 rfl hl (by decide) rfl (fun ls hl => ?_)
        obtain ⟨x67, hx67, hm⟩ := nm_ex hm
        refine lv_iinc (v := x67) (lv' := [(4, .int x67), (3, .int x66), (6, .int y0), (0, .ref (ad 0 0)), (1, .int x1), (5, .int x5)]) hx hb dX8_canSplit_146 hl (k := 4) rfl (by rw [hx67]; rfl) (by decide) rfl (fun ls hl => ?_)
        refine lv_goto (tgt := 5) hx hb dX8_canSplit_149 (by decide) ?_
        obtain rfl := Option.some.inj hm
        exact hg H locs hw ls (lv_sub hl [3, 4, 1, 0] rfl)
      · replace hm := (if_neg c64).symm.trans hm
        obtain rfl := Option.some.inj hm
        exact hE0 _ hg.symm H locs hw ls (lv_sub hl [] rfl)
set_option maxRecDepth 100000 in
set_option maxHeartbeats 4000000 in
theorem t_X8_canSplit_J73 (K : Cx p s m args meth c D A (tysC cy) RX8 cX8_canSplit 7 (some .boolean) wsX8_canSplit (fun _ _ => True)) (n : Nat) (S : MSt) (x1 : Int32) (x3 : Int32) (x4 : Int32) (x5 : Int32) {out : (Int32 × Int32) ⊕ (Unit ⊕ Int32)} {z : (Unit ⊕ Int32)} (hm : m_X8_canSplit_J73 n S x1 x3 x4 x5 = some out) (hg : Gd (fun (x : (Int32 × Int32)) => ∀ (H : Heap) (locs : List Loc), Wd D A s.heap (GM cy ad S) H locs → ∀ ls : Array Slot, lv_has ls 7 [(0, .ref (ad 0 0)), (1, .int x1), (3, .int x.1), (4, .int x.2)] → W p l e rm_X8_canSplit s m args below meth c H locs 0 0 Q (F0 m 5 ls [])) z out) (hE0 : ∀ w : Unit, z = .inl w → ∀ (H : Heap) (locs : List Loc), Wd D A s.heap (GM cy ad S) H locs → ∀ ls : Array Slot, lv_has ls 7 [] → W p l e rm_X8_canSplit s m args below meth c H locs 0 0 Q (F0 m 125 ls [])) (hE1 : ∀ w : Int32, z = .inr w → ∀ (H : Heap) (locs : List Loc), Wd D A s.heap (GM cy ad S) H locs → ∀ ls : Array Slot, lv_has ls 7 [(0, .ref (ad 0 0)), (1, .int x1), (3, .int w)] → W p l e rm_X8_canSplit s m args below meth c H locs 0 0 Q (F0 m 152 ls [])) : ∀ (H : Heap) (locs : List Loc), Wd D A s.heap (GM cy ad S) H locs → ∀ ls : Array Slot, lv_has ls 7 [(0, .ref (ad 0 0)), (1, .int x1), (3, .int x3), (4, .int x4), (5, .int x5)] → W p l e rm_X8_canSplit s m args below meth c H locs 0 0 Q (F0 m 73 ls []) := by
  intro H locs hw ls hl 
  obtain ⟨hx, hb, hml, hown, hts, hr, hlo, hK, hA, hX⟩ := id K
  unfold m_X8_canSplit_J73 at hm
  refine lv_iconst (v := 0) hx hb dX8_canSplit_73 (by decide) ?_
  exact t_X8_canSplit_J74 K n S x1 x3 x4 x5 0 hm hg hE0 hE1 H locs hw ls (lv_sub hl [0, 1, 2, 3, 4] rfl)
set_option maxRecDepth 100000 in
set_option maxHeartbeats 4000000 in
theorem t_X8_canSplit_L5 (K : Cx p s m args meth c D A (tysC cy) RX8 cX8_canSplit 7 (some .boolean) wsX8_canSplit (fun _ _ => True)) (n : Nat) (S : MSt) (x1 : Int32)  (z : (Unit ⊕ Int32)) (hE0 : ∀ w : Unit, z = .inl w → ∀ (H : Heap) (locs : List Loc), Wd D A s.heap (GM cy ad S) H locs → ∀ ls : Array Slot, lv_has ls 7 [] → W p l e rm_X8_canSplit s m args below meth c H locs 0 0 Q (F0 m 125 ls [])) (hE1 : ∀ w : Int32, z = .inr w → ∀ (H : Heap) (locs : List Loc), Wd D A s.heap (GM cy ad S) H locs → ∀ ls : Array Slot, lv_has ls 7 [(0, .ref (ad 0 0)), (1, .int x1), (3, .int w)] → W p l e rm_X8_canSplit s m args below meth c H locs 0 0 Q (F0 m 152 ls [])) : ∀ (x : (Int32 × Int32)), lpO (b_X8_canSplit_5 n S x1) n x = some z → (fun (x : (Int32 × Int32)) => ∀ (H : Heap) (locs : List Loc), Wd D A s.heap (GM cy ad S) H locs → ∀ ls : Array Slot, lv_has ls 7 [(0, .ref (ad 0 0)), (1, .int x1), (3, .int x.1), (4, .int x.2)] → W p l e rm_X8_canSplit s m args below meth c H locs 0 0 Q (F0 m 5 ls [])) x := by
  intro x hx0
  refine lpO_ind2 (P := fun (x : (Int32 × Int32)) => ∀ (H : Heap) (locs : List Loc), Wd D A s.heap (GM cy ad S) H locs → ∀ ls : Array Slot, lv_has ls 7 [(0, .ref (ad 0 0)), (1, .int x1), (3, .int x.1), (4, .int x.2)] → W p l e rm_X8_canSplit s m args below meth c H locs 0 0 Q (F0 m 5 ls [])) (z := z) ?_ n x hx0
  clear hx0 x
  intro x out hm hg H locs hw ls hl 
  obtain ⟨hx, hb, hml, hown, hts, hr, hlo, hK, hA, hX⟩ := id K
  unfold b_X8_canSplit_5 at hm
  refine lv_iload hx hb dX8_canSplit_5 (lv_at hl 3 rfl) ?_
  refine lv_aload_n hx hb dX8_canSplit_7 rfl (lv_at hl 0 rfl) ?_
  refine g_get (ref := "MigrantHeapModel") (C := RX8) (T := TX8) (N := 44) (ci := 8) K in_X8_canSplit_X8 hw 0 rfl (by decide : 0 < 1) rfl rfl 4 (by decide) (List.mem_of_getElem? (i := 1) rfl) rfl rfl dX8_canSplit_8 ?_
  refine lv_iload_n hx hb dX8_canSplit_11 rfl (lv_at hl 1 rfl) ?_
  obtain ⟨h68, hm⟩ := chkS hm
  refine g_iald K hw 3 0 rfl (by decide) rfl rfl h68 dX8_canSplit_12 ?_
  refine lv_icmp_ge (tgt := 152) hx hb dX8_canSplit_13 (by decide) (fun c69 => ?_) (fun c69 => ?_)
  · replace hm := (if_pos c69).symm.trans hm
    obtain rfl := Option.some.inj hm
    exact hE1 _ hg.symm H locs hw ls (lv_sub hl [0, 1, 2] rfl)
  · replace hm := (if_neg c69).symm.trans hm
    refine lv_aload_n hx hb dX8_canSplit_16 rfl (lv_at hl 0 rfl) ?_
    refine lv_aload_n hx hb dX8_canSplit_17 rfl (lv_at hl 0 rfl) ?_
    refine g_get (ref := "MigrantHeapModel") (C := RX8) (T := TX8) (N := 44) (ci := 8) K in_X8_canSplit_X8 hw 0 rfl (by decide : 0 < 1) rfl rfl 5 (by decide) (List.mem_of_getElem? (i := 2) rfl) rfl rfl dX8_canSplit_18 ?_
    refine lv_bipush (v := 6) hx hb dX8_canSplit_21 (by decide) ?_
    refine lv_iload_n hx hb dX8_canSplit_23 rfl (lv_at hl 1 rfl) ?_
    refine lv_imul hx hb dX8_canSplit_24 ?_
    refine lv_iload hx hb dX8_canSplit_25 (lv_at hl 3 rfl) ?_
    refine lv_iadd hx hb dX8_canSplit_27 ?_
    obtain ⟨h70, hm⟩ := chkS hm
    refine g_iald K hw 4 0 rfl (by decide) rfl rfl h70 dX8_canSplit_28 ?_
    obtain ⟨z72, hc71, hm⟩ := bindS hm
    refine g_calli (GG := GM cy ad) K hw (va_runV (As := [.int (S.1 5 ((6 * x1) + x.2).toNatClampNeg)]) (rest := []) (g_fix K) (c_X8_findDraft l D cy ad H.size n S (S.1 5 ((6 * x1) + x.2).toNatClampNeg)  hc71) (cwV 1 (g_hts K) gX8_canSplit_X8_findDraft rfl rfl rfl (by decide +kernel) ⟨Nat.le_of_ble_eq_true rfl, Nat.le_of_ble_eq_true rfl⟩) ⟨g_blind rides_none, g_recv K hw 0 rfl (by decide : 0 < 1) rfl rfl, g_pre (X2 := fun _ _ => True) K hw (fun _ _ _ => trivial)⟩ rfl rfl hl.1 rfl (lv_room (Nat.le_of_ble_eq_true rfl)) dX8_canSplit_29 ⟨Nat.le_of_ble_eq_true rfl, Nat.le_of_ble_eq_true rfl⟩) (fun r u H locs hp hw => ?_)
    obtain ⟨rfl, hu⟩ := hp
    rw [hu] at hw
    refine lv_istore (lv' := [(5, .int z72), (0, .ref (ad 0 0)), (1, .int x1), (3, .int x.1), (4, .int x.2)]) hx hb dX8_canSplit_32 hl (by decide) rfl (fun ls hl => ?_)
    refine lv_iload hx hb dX8_canSplit_34 (lv_at hl 0 rfl) ?_
    refine lv_if_lt (tgt := 73) hx hb dX8_canSplit_36 (by decide) (fun c73 => ?_) (fun c73 => ?_)
    · replace hm := (if_pos c73).symm.trans hm
      exact t_X8_canSplit_J73 K n S x1 x.1 x.2 z72 hm hg hE0 hE1 H locs hw ls (lv_sub hl [1, 2, 3, 4, 0] rfl)
    · replace hm := (if_neg c73).symm.trans hm
      refine lv_iload_n hx hb dX8_canSplit_39 rfl (lv_at hl 3 rfl) ?_
      refine lv_aload_n hx hb dX8_canSplit_40 rfl (lv_at hl 1 rfl) ?_
      refine g_get (ref := "MigrantHeapModel") (C := RX8) (T := TX8) (N := 44) (ci := 8) K in_X8_canSplit_X8 hw 0 rfl (by decide : 0 < 1) rfl rfl 5 (by decide) (List.mem_of_getElem? (i := 2) rfl) rfl rfl dX8_canSplit_41 ?_
      refine lv_bipush (v := 6) hx hb dX8_canSplit_44 (by decide) ?_
      refine lv_iload_n hx hb dX8_canSplit_46 rfl (lv_at hl 2 rfl) ?_
      refine lv_imul hx hb dX8_canSplit_47 ?_
      refine lv_iload hx hb dX8_canSplit_48 (lv_at hl 4 rfl) ?_
      refine lv_iadd hx hb dX8_canSplit_50 ?_
      obtain ⟨h74, hm⟩ := chkS hm
      refine g_iald K hw 4 0 rfl (by decide) rfl rfl h74 dX8_canSplit_51 ?_
      refine lv_ishr hx hb dX8_canSplit_52 ?_
      refine lv_iconst (v := 1) hx hb dX8_canSplit_53 (by decide) ?_
      refine lv_iand hx hb dX8_canSplit_54 ?_
      refine lv_iconst (v := 1) hx hb dX8_canSplit_55 (by decide) ?_
      refine lv_icmp_ne (tgt := 73) hx hb dX8_canSplit_56 (by decide) (fun c75 => ?_) (fun c75 => ?_)
      · replace hm := (if_pos c75).symm.trans hm
        exact t_X8_canSplit_J73 K n S x1 x.1 x.2 z72 hm hg hE0 hE1 H locs hw ls (lv_sub hl [1, 2, 3, 4, 0] rfl)
      · replace hm := (if_neg (fun h => h c75)).symm.trans hm
        refine lv_aload_n hx hb dX8_canSplit_59 rfl (lv_at hl 1 rfl) ?_
        refine g_get (ref := "MigrantHeapModel") (C := RX8) (T := TX8) (N := 44) (ci := 8) K in_X8_canSplit_X8 hw 0 rfl (by decide : 0 < 1) rfl rfl 30 (by decide) (List.mem_of_getElem? (i := 3) rfl) rfl rfl dX8_canSplit_60 ?_
        refine lv_iload hx hb dX8_canSplit_63 (lv_at hl 0 rfl) ?_
        obtain ⟨h76, hm⟩ := chkS hm
        refine g_iald K hw 24 0 rfl (by decide) rfl rfl h76 dX8_canSplit_65 ?_
        refine lv_if_ne (tgt := 73) hx hb dX8_canSplit_66 (by decide) (fun c77 => ?_) (fun c77 => ?_)
        · replace hm := (if_pos c77).symm.trans hm
          exact t_X8_canSplit_J73 K n S x1 x.1 x.2 z72 hm hg hE0 hE1 H locs hw ls (lv_sub hl [1, 2, 3, 4, 0] rfl)
        · replace hm := (if_neg (fun h => h c77)).symm.trans hm
          refine lv_iconst (v := 1) hx hb dX8_canSplit_69 (by decide) ?_
          refine lv_goto (tgt := 74) hx hb dX8_canSplit_70 (by decide) ?_
          exact t_X8_canSplit_J74 K n S x1 x.1 x.2 z72 1 hm hg hE0 hE1 H locs hw ls (lv_sub hl [1, 2, 3, 4, 0] rfl)
set_option maxRecDepth 100000 in
set_option maxHeartbeats 4000000 in
theorem t_X8_canSplit_0 (K : Cx p s m args meth c D A (tysC cy) RX8 cX8_canSplit 7 (some .boolean) wsX8_canSplit (fun _ _ => True)) (n : Nat) (S : MSt) (x1 : Int32) (x2 : Int32)  {out : Int32} (hm : m_X8_canSplit n S x1 x2 = some out) : ∀ (H : Heap) (locs : List Loc), Wd D A s.heap (GM cy ad S) H locs → ∀ ls : Array Slot, lv_has ls 7 [(0, .ref (ad 0 0)), (1, .int x1), (2, .int x2)] → W p l e rm_X8_canSplit s m args below meth c H locs 0 0 (MQ below (va_Qi (fun r (u : MSt) => out = r ∧ u = S) (fun u => Pst D (tysC cy) A (GM cy ad u)) A) args s 0 0 A) (F0 m 0 ls []) := by
  intro H locs hw ls hl
  obtain ⟨hx, hb, hml, hown, hts, hr, hlo, hK, hA, hX⟩ := id K
  unfold m_X8_canSplit at hm
  refine lv_iload_n hx hb dX8_canSplit_0 rfl (lv_at hl 2 rfl) ?_
  refine lv_istore_n (lv' := [(3, .int x2), (0, .ref (ad 0 0)), (1, .int x1), (2, .int x2)]) hx hb dX8_canSplit_1 rfl hl (by decide) rfl (fun ls hl => ?_)
  refine lv_iconst (v := 0) hx hb dX8_canSplit_2 (by decide) ?_
  refine lv_istore (lv' := [(4, .int 0), (3, .int x2), (0, .ref (ad 0 0)), (1, .int x1), (2, .int x2)]) hx hb dX8_canSplit_3 hl (by decide) rfl (fun ls hl => ?_)
  obtain ⟨z78, hz79, hm⟩ := bindS hm
  refine t_X8_canSplit_L5 K n S x1 z78 (fun w80 hww80 => ?_) (fun w81 hww81 => ?_) ((x2, 0)) hz79 H locs hw ls (lv_sub hl [2, 3, 1, 0] rfl)
  · intro H locs hw ls hl 
    subst hww80
    replace hm := (sumL _ _ _).symm.trans hm
    refine lv_iconst (v := 0) hx hb dX8_canSplit_125 (by decide) ?_
    exact g_zret (GG := GM cy ad) K hw rfl ⟨(Option.some.inj hm).symm, rfl⟩ dX8_canSplit_126
  · intro H locs hw ls hl 
    subst hww81
    replace hm := (sumR _ _ _).symm.trans hm
    refine lv_iload_n hx hb dX8_canSplit_152 rfl (lv_at hl 2 rfl) ?_
    refine lv_if_ne (tgt := 195) hx hb dX8_canSplit_153 (by decide) (fun c82 => ?_) (fun c82 => ?_)
    · replace hm := (if_pos c82).symm.trans hm
      refine lv_iconst (v := 0) hx hb dX8_canSplit_195 (by decide) ?_
      exact g_zret (GG := GM cy ad) K hw rfl ⟨(Option.some.inj hm).symm, rfl⟩ dX8_canSplit_196
    · replace hm := (if_neg (fun h => h c82)).symm.trans hm
      refine lv_iload_n hx hb dX8_canSplit_156 rfl (lv_at hl 1 rfl) ?_
      refine lv_aload_n hx hb dX8_canSplit_157 rfl (lv_at hl 0 rfl) ?_
      refine g_get (ref := "MigrantHeapModel") (C := RX8) (T := TX8) (N := 44) (ci := 8) K in_X8_canSplit_X8 hw 0 rfl (by decide : 0 < 1) rfl rfl 27 (by decide) (List.mem_of_getElem? (i := 8) rfl) rfl rfl dX8_canSplit_158 ?_
      refine lv_icmp_eq (tgt := 195) hx hb dX8_canSplit_161 (by decide) (fun c83 => ?_) (fun c83 => ?_)
      · replace hm := (if_pos c83).symm.trans hm
        refine lv_iconst (v := 0) hx hb dX8_canSplit_195 (by decide) ?_
        exact g_zret (GG := GM cy ad) K hw rfl ⟨(Option.some.inj hm).symm, rfl⟩ dX8_canSplit_196
      · replace hm := (if_neg c83).symm.trans hm
        refine lv_aload_n hx hb dX8_canSplit_164 rfl (lv_at hl 0 rfl) ?_
        refine lv_iload_n hx hb dX8_canSplit_165 rfl (lv_at hl 1 rfl) ?_
        obtain ⟨z85, hc84, hm⟩ := bindS hm
        refine g_calli (GG := GM cy ad) K hw (va_runV (As := [.int x1]) (rest := []) (g_fix K) (c_X8_hasNumbersAlone l D cy ad H.size n S x1  hc84) (cwV 1 (g_hts K) gX8_canSplit_X8_hasNumbersAlone rfl rfl rfl (by decide +kernel) ⟨Nat.le_of_ble_eq_true rfl, Nat.le_of_ble_eq_true rfl⟩) ⟨g_blind rides_none, g_recv K hw 0 rfl (by decide : 0 < 1) rfl rfl, g_pre (X2 := fun _ _ => True) K hw (fun _ _ _ => trivial)⟩ rfl rfl hl.1 rfl (lv_room (Nat.le_of_ble_eq_true rfl)) dX8_canSplit_166 ⟨Nat.le_of_ble_eq_true rfl, Nat.le_of_ble_eq_true rfl⟩) (fun r u H locs hp hw => ?_)
        obtain ⟨rfl, hu⟩ := hp
        rw [hu] at hw
        refine lv_if_eq (tgt := 195) hx hb dX8_canSplit_169 (by decide) (fun c86 => ?_) (fun c86 => ?_)
        · replace hm := (if_pos c86).symm.trans hm
          refine lv_iconst (v := 0) hx hb dX8_canSplit_195 (by decide) ?_
          exact g_zret (GG := GM cy ad) K hw rfl ⟨(Option.some.inj hm).symm, rfl⟩ dX8_canSplit_196
        · replace hm := (if_neg c86).symm.trans hm
          refine lv_aload_n hx hb dX8_canSplit_172 rfl (lv_at hl 0 rfl) ?_
          refine lv_iconst (v := (-1)) hx hb dX8_canSplit_173 (by decide) ?_
          obtain ⟨z88, hc87, hm⟩ := bindS hm
          refine g_calli (GG := GM cy ad) K hw (va_runV (As := [.int (-1)]) (rest := []) (g_fix K) (c_X8_records l D cy ad H.size n S (-1)  hc87) (cwV 1 (g_hts K) gX8_canSplit_X8_records rfl rfl rfl (by decide +kernel) ⟨Nat.le_of_ble_eq_true rfl, Nat.le_of_ble_eq_true rfl⟩) ⟨g_blind rides_none, g_recv K hw 0 rfl (by decide : 0 < 1) rfl rfl, g_pre (X2 := fun _ _ => True) K hw (fun _ _ _ => trivial)⟩ rfl rfl hl.1 rfl (lv_room (Nat.le_of_ble_eq_true rfl)) dX8_canSplit_174 ⟨Nat.le_of_ble_eq_true rfl, Nat.le_of_ble_eq_true rfl⟩) (fun r u H locs hp hw => ?_)
          obtain ⟨rfl, hu⟩ := hp
          rw [hu] at hw
          refine lv_aload_n hx hb dX8_canSplit_177 rfl (lv_at hl 0 rfl) ?_
          refine lv_aload_n hx hb dX8_canSplit_178 rfl (lv_at hl 0 rfl) ?_
          refine g_get (ref := "MigrantHeapModel") (C := RX8) (T := TX8) (N := 44) (ci := 8) K in_X8_canSplit_X8 hw 0 rfl (by decide : 0 < 1) rfl rfl 27 (by decide) (List.mem_of_getElem? (i := 8) rfl) rfl rfl dX8_canSplit_179 ?_
          obtain ⟨z90, hc89, hm⟩ := bindS hm
          refine g_calli (GG := GM cy ad) K hw (va_runV (As := [.int (S.1 27 0)]) (rest := [.int z88]) (g_fix K) (c_X8_records l D cy ad H.size n S (S.1 27 0)  hc89) (cwV 1 (g_hts K) gX8_canSplit_X8_records rfl rfl rfl (by decide +kernel) ⟨Nat.le_of_ble_eq_true rfl, Nat.le_of_ble_eq_true rfl⟩) ⟨g_blind rides_none, g_recv K hw 0 rfl (by decide : 0 < 1) rfl rfl, g_pre (X2 := fun _ _ => True) K hw (fun _ _ _ => trivial)⟩ rfl rfl hl.1 rfl (lv_room (Nat.le_of_ble_eq_true rfl)) dX8_canSplit_182 ⟨Nat.le_of_ble_eq_true rfl, Nat.le_of_ble_eq_true rfl⟩) (fun r u H locs hp hw => ?_)
          obtain ⟨rfl, hu⟩ := hp
          rw [hu] at hw
          refine lv_iadd hx hb dX8_canSplit_185 ?_
          refine lv_bipush (v := 24) hx hb dX8_canSplit_186 (by decide) ?_
          refine lv_icmp_gt (tgt := 195) hx hb dX8_canSplit_188 (by decide) (fun c91 => ?_) (fun c91 => ?_)
          · replace hm := (if_pos c91).symm.trans hm
            refine lv_iconst (v := 0) hx hb dX8_canSplit_195 (by decide) ?_
            exact g_zret (GG := GM cy ad) K hw rfl ⟨(Option.some.inj hm).symm, rfl⟩ dX8_canSplit_196
          · replace hm := (if_neg c91).symm.trans hm
            refine lv_iconst (v := 1) hx hb dX8_canSplit_191 (by decide) ?_
            refine lv_goto (tgt := 196) hx hb dX8_canSplit_192 (by decide) ?_
            exact g_zret (GG := GM cy ad) K hw rfl ⟨(Option.some.inj hm).symm, rfl⟩ dX8_canSplit_196
set_option maxRecDepth 100000 in
set_option maxHeartbeats 4000000 in
theorem c_X8_canSplit (l : Launch) (D : va_G) (cy : Nat → ClassId) (ad : Nat → Nat → Nat) (sz n : Nat) (S : MSt) (x1 : Int32) (x2 : Int32)  {out : Int32} (hm : m_X8_canSplit n S x1 x2 = some out) : Met l yX8_canSplit wsX8_canSplit rm_X8_canSplit (va_Pc [.ref (ad 0 0), .int x1, .int x2] (Pre D (tysC cy) (GM cy ad S) (fun _ _ => True) sz)) (va_Qi (fun r (u : MSt) => out = r ∧ u = S) (fun u => Pst D (tysC cy) (AA (adrs (GM cy ad S)) sz) (GM cy ad u)) (AA (adrs (GM cy ad S)) sz)) 0 0 (AA (adrs (GM cy ad S)) sz) := by
  refine g_met (by decide) rfl (Nat.le_of_ble_eq_true rfl) ?_
  intro p e s m args below meth c K hw ls hl
  exact t_X8_canSplit_0 (cy := cy) K n S x1 x2  hm _ _ hw ls hl
end W_X8_canSplit
