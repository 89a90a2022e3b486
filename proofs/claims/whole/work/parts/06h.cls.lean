section W_X3_reckon_nul
variable {p : Program} {l : Launch} {e : Env} {s : State} {m : MethodId} {args : Array Value} {below : List Frame} {meth : Method} {c : Code} {D : va_G} {A : Nat → Prop} {cy : Nat → ClassId} {ad : Nat → Nat → Nat} {Q : State → Prop}
abbrev rm_X3_reckon_nul : Room := { frames := 3, cells := 0, slots := 0, locals := 82 }
theorem in_X3_reckon_X1 : ∀ w ∈ u_ws RX1 TX1 2, w ∈ wsX3_reckon := by decide +kernel
theorem in_X3_reckon_X3 : ∀ w ∈ u_ws RX3 TX3 3, w ∈ wsX3_reckon := by decide +kernel
set_option maxRecDepth 100000 in
set_option maxHeartbeats 4000000 in
theorem t_X3_reckon_nul_L11 (K : Cx p s m args meth c D A (tysC cy) RX3 cX3_reckon 7 (some .boolean) wsX3_reckon (fun _ _ => True)) (n : Nat) (x1 : Nat) (x2 : Nat) (hb_x1 : x1 < 7) (hb_x2 : x2 < 9) (z : (CSt × Int32)) (hE0 : ∀ w : (CSt × Int32), z = w → ∀ (H : Heap) (locs : List Loc), Wd D A s.heap (GC cy ad w.1) H locs → ∀ ls : Array Slot, lv_has ls 7 [(0, .ref (ad 19 0)), (4, .int w.2)] → W p l e rm_X3_reckon_nul s m args below meth c H locs 0 0 Q (F0 m 116 ls [])) : ∀ (x : (CSt × Int32 × Int32)), lpO (b_X3_reckon_nul_11 n x1 x2) n x = some z → (fun (x : (CSt × Int32 × Int32)) => ∀ (H : Heap) (locs : List Loc), Wd D A s.heap (GC cy ad x.1) H locs → ∀ ls : Array Slot, lv_has ls 7 [(0, .ref (ad 19 0)), (1, .ref (ad 15 x1)), (2, .ref (ad 3 x2)), (3, .null), (4, .int x.2.1), (5, .int x.2.2)] → W p l e rm_X3_reckon_nul s m args below meth c H locs 0 0 Q (F0 m 11 ls [])) x := by
  intro x hx0
  refine lpO_ind2 (P := fun (x : (CSt × Int32 × Int32)) => ∀ (H : Heap) (locs : List Loc), Wd D A s.heap (GC cy ad x.1) H locs → ∀ ls : Array Slot, lv_has ls 7 [(0, .ref (ad 19 0)), (1, .ref (ad 15 x1)), (2, .ref (ad 3 x2)), (3, .null), (4, .int x.2.1), (5, .int x.2.2)] → W p l e rm_X3_reckon_nul s m args below meth c H locs 0 0 Q (F0 m 11 ls [])) (z := z) ?_ n x hx0
  clear hx0 x
  intro x out hm hg H locs hw ls hl 
  obtain ⟨hx, hb, hml, hown, hts, hr, hlo, hK, hA, hX⟩ := id K
  unfold b_X3_reckon_nul_11 at hm
  refine lv_iload hx hb dX3_reckon_11 (lv_at hl 5 rfl) ?_
  refine lv_aload_n hx hb dX3_reckon_13 rfl (lv_at hl 1 rfl) ?_
  refine g_get (ref := "MigrantHeap$Formula") (C := RX1) (T := TX1) (N := 2) (ci := 1) K in_X3_reckon_X1 hw 15 rfl hb_x1 rfl rfl 0 (by decide) (List.mem_of_getElem? (i := 2) rfl) rfl rfl dX3_reckon_14 ?_
  refine lv_icmp_ge (tgt := 116) hx hb dX3_reckon_17 (by decide) (fun c49 => ?_) (fun c49 => ?_)
  · replace hm := (if_pos c49).symm.trans hm
    obtain rfl := Option.some.inj hm
    exact hE0 _ hg.symm H locs hw ls (lv_sub hl [0, 4] rfl)
  · replace hm := (if_neg c49).symm.trans hm
    refine lv_iload hx hb dX3_reckon_20 (lv_at hl 4 rfl) ?_
    refine lv_if_eq (tgt := 116) hx hb dX3_reckon_22 (by decide) (fun c50 => ?_) (fun c50 => ?_)
    · replace hm := (if_pos c50).symm.trans hm
      obtain rfl := Option.some.inj hm
      exact hE0 _ hg.symm H locs hw ls (lv_sub hl [0, 4] rfl)
    · replace hm := (if_neg c50).symm.trans hm
      refine lv_aload_n hx hb dX3_reckon_25 rfl (lv_at hl 1 rfl) ?_
      refine g_get (ref := "MigrantHeap$Formula") (C := RX1) (T := TX1) (N := 2) (ci := 1) K in_X3_reckon_X1 hw 15 rfl hb_x1 rfl rfl 1 (by decide) (List.mem_of_getElem? (i := 3) rfl) rfl rfl dX3_reckon_26 ?_
      refine lv_iload hx hb dX3_reckon_29 (lv_at hl 5 rfl) ?_
      obtain ⟨h51, hm⟩ := chkS hm
      refine g_iald K hw 16 0 rfl hb_x1 rfl rfl h51 dX3_reckon_31 ?_
      obtain ⟨x52, hx52, hm⟩ := nm_ex hm
      refine W.eq (g2 := F0 m 32 ls (.int x52 :: [])) (by rw [hx52]) ?_
      refine lv_istore (lv' := [(6, .int x52), (0, .ref (ad 19 0)), (1, .ref (ad 15 x1)), (2, .ref (ad 3 x2)), (3, .null), (4, .int x.2.1), (5, .int x.2.2)]) hx hb dX3_reckon_32 hl (by decide) rfl (fun ls hl => ?_)
      refine lv_iload hx hb dX3_reckon_34 (lv_at hl 0 rfl) ?_
      refine lv_bipush (v := 10) hx hb dX3_reckon_36 (by decide) ?_
      refine lv_icmp_ge (tgt := 58) hx hb dX3_reckon_38 (by decide) (fun c53 => ?_) (fun c53 => ?_)
      · replace hm := (if_pos c53).symm.trans hm
        refine lv_iload hx hb dX3_reckon_58 (lv_at hl 0 rfl) ?_
        refine lv_bipush (v := 100) hx hb dX3_reckon_60 (by decide) ?_
        refine lv_icmp_lt (tgt := 88) hx hb dX3_reckon_62 (by decide) (fun c54 => ?_) (fun c54 => ?_)
        · replace hm := (if_pos c54).symm.trans hm
          refine lv_iload hx hb dX3_reckon_88 (lv_at hl 0 rfl) ?_
          refine lv_bipush (v := 16) hx hb dX3_reckon_90 (by decide) ?_
          refine lv_icmp_ne (tgt := 102) hx hb dX3_reckon_92 (by decide) (fun c55 => ?_) (fun c55 => ?_)
          · replace hm := (if_pos c55).symm.trans hm
            refine lv_aload_n hx hb dX3_reckon_102 rfl (lv_at hl 1 rfl) ?_
            refine lv_iload hx hb dX3_reckon_103 (lv_at hl 0 rfl) ?_
            obtain ⟨z57, hc56, hm⟩ := bindS hm
            refine g_calli (GG := GC cy ad) K hw (va_runV (As := [.int x52]) (rest := []) (g_fix K) (c_X3_combine l D cy ad H.size n x.1 x52  hc56) (cwV 1 (g_hts K) gX3_reckon_X3_combine rfl rfl rfl (by decide +kernel) ⟨Nat.le_of_ble_eq_true rfl, Nat.le_of_ble_eq_true rfl⟩) ⟨g_blind rides_none, g_recv K hw 19 rfl (by decide : 0 < 1) rfl rfl, g_pre (X2 := fun _ _ => True) K hw (fun _ _ _ => trivial)⟩ rfl rfl hl.1 rfl (lv_room (Nat.le_of_ble_eq_true rfl)) dX3_reckon_105 ⟨Nat.le_of_ble_eq_true rfl, Nat.le_of_ble_eq_true rfl⟩) (fun r u H locs hp hw => ?_)
            obtain ⟨rfl, rfl⟩ : r = z57.1 ∧ u = z57.2 := by rw [hp]; exact ⟨rfl, rfl⟩
            refine lv_istore (lv' := [(4, .int z57.1), (6, .int x52), (0, .ref (ad 19 0)), (1, .ref (ad 15 x1)), (2, .ref (ad 3 x2)), (3, .null), (5, .int x.2.2)]) hx hb dX3_reckon_108 hl (by decide) rfl (fun ls hl => ?_)
            obtain ⟨x58, hx58, hm⟩ := nm_ex hm
            refine lv_iinc (v := x58) (lv' := [(5, .int x58), (4, .int z57.1), (6, .int x52), (0, .ref (ad 19 0)), (1, .ref (ad 15 x1)), (2, .ref (ad 3 x2)), (3, .null)]) hx hb dX3_reckon_110 hl (k := 6) rfl (by rw [hx58]; rfl) (by decide) rfl (fun ls hl => ?_)
            refine lv_goto (tgt := 11) hx hb dX3_reckon_113 (by decide) ?_
            obtain rfl := Option.some.inj hm
            exact hg H locs hw ls (lv_sub hl [3, 4, 5, 6, 1, 0] rfl)
          · replace hm := (if_neg (fun h => h c55)).symm.trans hm
            refine lv_aload_n hx hb dX3_reckon_95 rfl (lv_at hl 1 rfl) ?_
            obtain ⟨z60, hc59, hm⟩ := bindS hm
            refine g_calli (GG := GC cy ad) K hw (va_runV (As := []) (rest := []) (g_fix K) (c_X3_negate l D cy ad H.size n x.1   hc59) (cwV 0 (g_hts K) gX3_reckon_X3_negate rfl rfl rfl (by decide +kernel) ⟨Nat.le_of_ble_eq_true rfl, Nat.le_of_ble_eq_true rfl⟩) ⟨g_blind rides_none, g_recv K hw 19 rfl (by decide : 0 < 1) rfl rfl, g_pre (X2 := fun _ _ => True) K hw (fun _ _ _ => trivial)⟩ rfl rfl hl.1 rfl (lv_room (Nat.le_of_ble_eq_true rfl)) dX3_reckon_96 ⟨Nat.le_of_ble_eq_true rfl, Nat.le_of_ble_eq_true rfl⟩) (fun r u H locs hp hw => ?_)
            obtain ⟨rfl, rfl⟩ : r = z60.1 ∧ u = z60.2 := by rw [hp]; exact ⟨rfl, rfl⟩
            refine lv_goto (tgt := 108) hx hb dX3_reckon_99 (by decide) ?_
            refine lv_istore (lv' := [(4, .int z60.1), (6, .int x52), (0, .ref (ad 19 0)), (1, .ref (ad 15 x1)), (2, .ref (ad 3 x2)), (3, .null), (5, .int x.2.2)]) hx hb dX3_reckon_108 hl (by decide) rfl (fun ls hl => ?_)
            obtain ⟨x61, hx61, hm⟩ := nm_ex hm
            refine lv_iinc (v := x61) (lv' := [(5, .int x61), (4, .int z60.1), (6, .int x52), (0, .ref (ad 19 0)), (1, .ref (ad 15 x1)), (2, .ref (ad 3 x2)), (3, .null)]) hx hb dX3_reckon_110 hl (k := 6) rfl (by rw [hx61]; rfl) (by decide) rfl (fun ls hl => ?_)
            refine lv_goto (tgt := 11) hx hb dX3_reckon_113 (by decide) ?_
            obtain rfl := Option.some.inj hm
            exact hg H locs hw ls (lv_sub hl [3, 4, 5, 6, 1, 0] rfl)
        · replace hm := (if_neg c54).symm.trans hm
          refine lv_aload_n hx hb dX3_reckon_65 rfl (lv_at hl 1 rfl) ?_
          refine lv_iload hx hb dX3_reckon_66 (lv_at hl 0 rfl) ?_
          refine lv_sipush (v := 200) hx hb dX3_reckon_68 (by decide) ?_
          refine lv_isub hx hb dX3_reckon_71 ?_
          refine lv_i2l hx hb dX3_reckon_72 rfl ?_
          refine lv_iload hx hb dX3_reckon_73 (lv_at hl 0 rfl) ?_
          refine lv_sipush (v := 200) hx hb dX3_reckon_75 (by decide) ?_
          refine lv_isub hx hb dX3_reckon_78 ?_
          refine lv_i2l hx hb dX3_reckon_79 rfl ?_
          obtain ⟨z63, hc62, hm⟩ := bindS hm
          refine g_calli (GG := GC cy ad) K hw (va_runV (As := [.long ((x52 - 200).toInt64), .long ((x52 - 200).toInt64)]) (rest := []) (g_fix K) (c_X3_lay l D cy ad H.size n x.1 ((x52 - 200).toInt64) ((x52 - 200).toInt64)  hc62) (cwV 2 (g_hts K) gX3_reckon_X3_lay rfl rfl rfl (by decide +kernel) ⟨Nat.le_of_ble_eq_true rfl, Nat.le_of_ble_eq_true rfl⟩) ⟨g_blind rides_none, g_recv K hw 19 rfl (by decide : 0 < 1) rfl rfl, g_pre (X2 := fun _ _ => True) K hw (fun _ _ _ => trivial)⟩ rfl rfl hl.1 rfl (lv_room (Nat.le_of_ble_eq_true rfl)) dX3_reckon_80 ⟨Nat.le_of_ble_eq_true rfl, Nat.le_of_ble_eq_true rfl⟩) (fun r u H locs hp hw => ?_)
          obtain ⟨rfl, rfl⟩ : r = z63.1 ∧ u = z63.2 := by rw [hp]; exact ⟨rfl, rfl⟩
          refine lv_istore (lv' := [(4, .int z63.1), (6, .int x52), (0, .ref (ad 19 0)), (1, .ref (ad 15 x1)), (2, .ref (ad 3 x2)), (3, .null), (5, .int x.2.2)]) hx hb dX3_reckon_83 hl (by decide) rfl (fun ls hl => ?_)
          refine lv_goto (tgt := 110) hx hb dX3_reckon_85 (by decide) ?_
          obtain ⟨x64, hx64, hm⟩ := nm_ex hm
          refine lv_iinc (v := x64) (lv' := [(5, .int x64), (4, .int z63.1), (6, .int x52), (0, .ref (ad 19 0)), (1, .ref (ad 15 x1)), (2, .ref (ad 3 x2)), (3, .null)]) hx hb dX3_reckon_110 hl (k := 6) rfl (by rw [hx64]; rfl) (by decide) rfl (fun ls hl => ?_)
          refine lv_goto (tgt := 11) hx hb dX3_reckon_113 (by decide) ?_
          obtain rfl := Option.some.inj hm
          exact hg H locs hw ls (lv_sub hl [3, 4, 5, 6, 1, 0] rfl)
      · replace hm := (if_neg c53).symm.trans hm
        refine lv_aload_n hx hb dX3_reckon_41 rfl (lv_at hl 1 rfl) ?_
        refine lv_aload_n hx hb dX3_reckon_42 rfl (lv_at hl 3 rfl) ?_
        refine lv_aload_n hx hb dX3_reckon_43 rfl (lv_at hl 3 rfl) ?_
        refine lv_iload hx hb dX3_reckon_44 (lv_at hl 0 rfl) ?_
        obtain ⟨z66, hc65, hm⟩ := bindS hm
        refine g_calli (GG := GC cy ad) K hw (va_runV (As := [.int x52]) (rest := [.ref (ad 3 x2), .ref (ad 19 0)]) (g_fix K) (c_X4_placeOf l D cy ad H.size n x.1 x2 x52 hb_x2 hc65) (cwV 1 (g_hts K) gX3_reckon_X4_placeOf rfl rfl rfl (by decide +kernel) ⟨Nat.le_of_ble_eq_true rfl, Nat.le_of_ble_eq_true rfl⟩) ⟨g_blind rides_none, g_recv K hw 3 rfl hb_x2 rfl rfl, g_pre (X2 := fun _ _ => True) K hw (fun _ _ _ => trivial)⟩ rfl rfl hl.1 rfl (lv_room (Nat.le_of_ble_eq_true rfl)) dX3_reckon_46 ⟨Nat.le_of_ble_eq_true rfl, Nat.le_of_ble_eq_true rfl⟩) (fun r u H locs hp hw => ?_)
        obtain ⟨rfl, hu⟩ := hp
        rw [hu] at hw
        refine lv_aload_nN hx hb dX3_reckon_49 rfl (lv_at hl 4 rfl) ?_
        obtain ⟨z68, hc67, hm⟩ := bindS hm
        refine g_calli (GG := GC cy ad) K hw (va_runV (As := [.ref (ad 3 x2), .int z66, .null]) (rest := []) (g_fix K) (c_X3_layField_nul l D cy ad H.size n x.1 x2 z66 hb_x2 hc67) (cwV 3 (g_hts K) gX3_reckon_X3_layField rfl rfl rfl (by decide +kernel) ⟨Nat.le_of_ble_eq_true rfl, Nat.le_of_ble_eq_true rfl⟩) ⟨g_blind rides_none, g_recv K hw 19 rfl (by decide : 0 < 1) rfl rfl, g_pre (X2 := fun _ _ => True) K hw (fun _ _ _ => trivial)⟩ rfl rfl hl.1 rfl (lv_room (Nat.le_of_ble_eq_true rfl)) dX3_reckon_50 ⟨Nat.le_of_ble_eq_true rfl, Nat.le_of_ble_eq_true rfl⟩) (fun r u H locs hp hw => ?_)
        obtain ⟨rfl, rfl⟩ : r = z68.1 ∧ u = z68.2 := by rw [hp]; exact ⟨rfl, rfl⟩
        refine lv_istore (lv' := [(4, .int z68.1), (6, .int x52), (0, .ref (ad 19 0)), (1, .ref (ad 15 x1)), (2, .ref (ad 3 x2)), (3, .null), (5, .int x.2.2)]) hx hb dX3_reckon_53 hl (by decide) rfl (fun ls hl => ?_)
        refine lv_goto (tgt := 110) hx hb dX3_reckon_55 (by decide) ?_
        obtain ⟨x69, hx69, hm⟩ := nm_ex hm
        refine lv_iinc (v := x69) (lv' := [(5, .int x69), (4, .int z68.1), (6, .int x52), (0, .ref (ad 19 0)), (1, .ref (ad 15 x1)), (2, .ref (ad 3 x2)), (3, .null)]) hx hb dX3_reckon_110 hl (k := 6) rfl (by rw [hx69]; rfl) (by decide) rfl (fun ls hl => ?_)
        refine lv_goto (tgt := 11) hx hb dX3_reckon_113 (by decide) ?_
        obtain rfl := Option.some.inj hm
        exact hg H locs hw ls (lv_sub hl [3, 4, 5, 6, 1, 0] rfl)
set_option maxRecDepth 100000 in
set_option maxHeartbeats 4000000 in
theorem t_X3_reckon_nul_0 (K : Cx p s m args meth c D A (tysC cy) RX3 cX3_reckon 7 (some .boolean) wsX3_reckon (fun _ _ => True)) (n : Nat) (S : CSt) (x1 : Nat) (x2 : Nat) (hb_x1 : x1 < 7) (hb_x2 : x2 < 9) {out : Int32 × CSt} (hm : m_X3_reckon_nul n S x1 x2 = some out) : ∀ (H : Heap) (locs : List Loc), Wd D A s.heap (GC cy ad S) H locs → ∀ ls : Array Slot, lv_has ls 7 [(0, .ref (ad 19 0)), (1, .ref (ad 15 x1)), (2, .ref (ad 3 x2)), (3, .null)] → W p l e rm_X3_reckon_nul s m args below meth c H locs 0 0 (MQ below (va_Qi (fun r (u : CSt) => out = (r, u)) (fun u => Pst D (tysC cy) A (GC cy ad u)) A) args s 0 0 A) (F0 m 0 ls []) := by
  intro H locs hw ls hl
  obtain ⟨hx, hb, hml, hown, hts, hr, hlo, hK, hA, hX⟩ := id K
  unfold m_X3_reckon_nul at hm
  refine lv_aload_n hx hb dX3_reckon_0 rfl (lv_at hl 0 rfl) ?_
  refine lv_iconst (v := 0) hx hb dX3_reckon_1 (by decide) ?_
  refine g_put (v := .int 0) (ty := .int) (ref := "MigrantHeap$Pile") (C := RX3) (T := TX3) (N := 3) (ci := 3) K in_X3_reckon_X3 tyX3 tyX3_ok nmX3 hw 19 rfl (by decide : 0 < 1) rfl rfl 0 (by decide) (List.mem_of_getElem? (i := 1) rfl) rfl rfl (by decide +kernel) rfl rfl (Nat.le_of_ble_eq_true rfl) dX3_reckon_2 (eC_27 cy ad S 0 0) (fun H locs hw => ?_)
  obtain ⟨S70, hS70, hm⟩ := nm_ex hm
  rw [← hS70] at hw
  refine lv_iconst (v := 1) hx hb dX3_reckon_5 (by decide) ?_
  refine lv_istore (lv' := [(4, .int 1), (0, .ref (ad 19 0)), (1, .ref (ad 15 x1)), (2, .ref (ad 3 x2)), (3, .null)]) hx hb dX3_reckon_6 hl (by decide) rfl (fun ls hl => ?_)
  refine lv_iconst (v := 0) hx hb dX3_reckon_8 (by decide) ?_
  refine lv_istore (lv' := [(5, .int 0), (4, .int 1), (0, .ref (ad 19 0)), (1, .ref (ad 15 x1)), (2, .ref (ad 3 x2)), (3, .null)]) hx hb dX3_reckon_9 hl (by decide) rfl (fun ls hl => ?_)
  obtain ⟨z71, hz72, hm⟩ := bindS hm
  refine t_X3_reckon_nul_L11 K n x1 x2 hb_x1 hb_x2 z71 (fun w73 hww73 => ?_) ((S70, 1, 0)) hz72 H locs hw ls (lv_sub hl [2, 3, 4, 5, 1, 0] rfl)
  · intro H locs hw ls hl 
    try rw [hww73] at hm
    refine lv_iload hx hb dX3_reckon_116 (lv_at hl 1 rfl) ?_
    refine lv_if_eq (tgt := 133) hx hb dX3_reckon_118 (by decide) (fun c74 => ?_) (fun c74 => ?_)
    · replace hm := (if_pos c74).symm.trans hm
      refine lv_iconst (v := 0) hx hb dX3_reckon_133 (by decide) ?_
      exact g_zret (GG := GC cy ad) K hw rfl (Option.some.inj hm).symm dX3_reckon_134
    · replace hm := (if_neg c74).symm.trans hm
      refine lv_aload_n hx hb dX3_reckon_121 rfl (lv_at hl 0 rfl) ?_
      refine g_get (ref := "MigrantHeap$Pile") (C := RX3) (T := TX3) (N := 3) (ci := 3) K in_X3_reckon_X3 hw 19 rfl (by decide : 0 < 1) rfl rfl 0 (by decide) (List.mem_of_getElem? (i := 1) rfl) rfl rfl dX3_reckon_122 ?_
      refine lv_iconst (v := 1) hx hb dX3_reckon_125 (by decide) ?_
      refine lv_icmp_ne (tgt := 133) hx hb dX3_reckon_126 (by decide) (fun c75 => ?_) (fun c75 => ?_)
      · replace hm := (if_pos c75).symm.trans hm
        refine lv_iconst (v := 0) hx hb dX3_reckon_133 (by decide) ?_
        exact g_zret (GG := GC cy ad) K hw rfl (Option.some.inj hm).symm dX3_reckon_134
      · replace hm := (if_neg (fun h => h c75)).symm.trans hm
        refine lv_iconst (v := 1) hx hb dX3_reckon_129 (by decide) ?_
        refine lv_goto (tgt := 134) hx hb dX3_reckon_130 (by decide) ?_
        exact g_zret (GG := GC cy ad) K hw rfl (Option.some.inj hm).symm dX3_reckon_134
set_option maxRecDepth 100000 in
set_option maxHeartbeats 4000000 in
theorem c_X3_reckon_nul (l : Launch) (D : va_G) (cy : Nat → ClassId) (ad : Nat → Nat → Nat) (sz n : Nat) (S : CSt) (x1 : Nat) (x2 : Nat) (hb_x1 : x1 < 7) (hb_x2 : x2 < 9) {out : Int32 × CSt} (hm : m_X3_reckon_nul n S x1 x2 = some out) : Met l yX3_reckon wsX3_reckon rm_X3_reckon_nul (va_Pc [.ref (ad 19 0), .ref (ad 15 x1), .ref (ad 3 x2), .null] (Pre D (tysC cy) (GC cy ad S) (fun _ _ => True) sz)) (va_Qi (fun r (u : CSt) => out = (r, u)) (fun u => Pst D (tysC cy) (AA (adrs (GC cy ad S)) sz) (GC cy ad u)) (AA (adrs (GC cy ad S)) sz)) 0 0 (AA (adrs (GC cy ad S)) sz) := by
  refine g_met (by decide) rfl (Nat.le_of_ble_eq_true rfl) ?_
  intro p e s m args below meth c K hw ls hl
  exact t_X3_reckon_nul_0 (cy := cy) K n S x1 x2 hb_x1 hb_x2 hm _ _ hw ls hl
end W_X3_reckon_nul
section W_X7_formulaFits
variable {p : Program} {l : Launch} {e : Env} {s : State} {m : MethodId} {args : Array Value} {below : List Frame} {meth : Method} {c : Code} {D : va_G} {A : Nat → Prop} {cy : Nat → ClassId} {ad : Nat → Nat → Nat} {Q : State → Prop}
abbrev rm_X7_formulaFits : Room := { frames := 4, cells := 0, slots := 0, locals := 108 }
theorem in_X7_formulaFits_X3 : ∀ w ∈ u_ws RX3 TX3 3, w ∈ wsX7_formulaFits := by decide +kernel
theorem in_X7_formulaFits_X5 : ∀ w ∈ u_ws RX5 TX5 6, w ∈ wsX7_formulaFits := by decide +kernel
theorem in_X7_formulaFits_X7 : ∀ w ∈ u_ws RX7 TX7 11, w ∈ wsX7_formulaFits := by decide +kernel
set_option maxRecDepth 100000 in
set_option maxHeartbeats 4000000 in
theorem t_X7_formulaFits_0 (K : Cx p s m args meth c D A (tysC cy) RX7 cX7_formulaFits 3 (some .boolean) wsX7_formulaFits (fun _ _ => True)) (n : Nat) (S : CSt) (x1 : Nat) (x2 : Nat) (hb_x1 : x1 < 6) (hb_x2 : x2 < 9) {out : Int32 × CSt} (hm : m_X7_formulaFits n S x1 x2 = some out) : ∀ (H : Heap) (locs : List Loc), Wd D A s.heap (GC cy ad S) H locs → ∀ ls : Array Slot, lv_has ls 3 [(0, .ref (ad 0 0)), (1, .ref (ad 18 x1)), (2, .ref (ad 3 x2))] → W p l e rm_X7_formulaFits s m args below meth c H locs 0 0 (MQ below (va_Qi (fun r (u : CSt) => out = (r, u)) (fun u => Pst D (tysC cy) A (GC cy ad u)) A) args s 0 0 A) (F0 m 0 ls []) := by
  intro H locs hw ls hl
  obtain ⟨hx, hb, hml, hown, hts, hr, hlo, hK, hA, hX⟩ := id K
  unfold m_X7_formulaFits at hm
  refine lv_aload_n hx hb dX7_formulaFits_0 rfl (lv_at hl 0 rfl) ?_
  refine g_get (ref := "MigrantHeap") (C := RX7) (T := TX7) (N := 11) (ci := 7) K in_X7_formulaFits_X7 hw 0 rfl (by decide : 0 < 1) rfl rfl 9 (by decide) (List.mem_of_getElem? (i := 1) rfl) rfl rfl dX7_formulaFits_1 ?_
  refine lv_aload_n hx hb dX7_formulaFits_4 rfl (lv_at hl 1 rfl) ?_
  refine g_get (ref := "MigrantHeap$Step") (C := RX5) (T := TX5) (N := 6) (ci := 5) K in_X7_formulaFits_X5 hw 18 rfl hb_x1 rfl rfl 5 (by decide) (List.mem_of_getElem? (i := 2) rfl) rfl rfl dX7_formulaFits_5 ?_
  refine lv_aload_n hx hb dX7_formulaFits_8 rfl (lv_at hl 2 rfl) ?_
  refine lv_null hx hb dX7_formulaFits_9 ?_
  obtain ⟨z10, hc9, hm⟩ := bindS hm
  refine g_calli (GG := GC cy ad) K hw (va_runV (As := [.ref (ad 15 x1), .ref (ad 3 x2), .null]) (rest := []) (g_fix K) (c_X3_reckon_nul l D cy ad H.size n S x1 x2 (by have := hb_x1; omega : x1 < 7) hb_x2 hc9) (cwV 3 (g_hts K) gX7_formulaFits_X3_reckon rfl rfl rfl (by decide +kernel) ⟨Nat.le_of_ble_eq_true rfl, Nat.le_of_ble_eq_true rfl⟩) ⟨g_blind rides_none, g_recv K hw 19 rfl (by decide : 0 < 1) rfl rfl, g_pre (X2 := fun _ _ => True) K hw (fun _ _ _ => trivial)⟩ rfl rfl hl.1 rfl (lv_room (Nat.le_of_ble_eq_true rfl)) dX7_formulaFits_10 ⟨Nat.le_of_ble_eq_true rfl, Nat.le_of_ble_eq_true rfl⟩) (fun r u H locs hp hw => ?_)
  obtain ⟨rfl, rfl⟩ : r = z10.1 ∧ u = z10.2 := by rw [hp]; exact ⟨rfl, rfl⟩
  refine lv_if_eq (tgt := 56) hx hb dX7_formulaFits_13 (by decide) (fun c11 => ?_) (fun c11 => ?_)
  · replace hm := (if_pos c11).symm.trans hm
    refine lv_iconst (v := 0) hx hb dX7_formulaFits_56 (by decide) ?_
    exact g_zret (GG := GC cy ad) K hw rfl (Option.some.inj hm).symm dX7_formulaFits_57
  · replace hm := (if_neg c11).symm.trans hm
    refine lv_aload_n hx hb dX7_formulaFits_16 rfl (lv_at hl 0 rfl) ?_
    refine g_get (ref := "MigrantHeap") (C := RX7) (T := TX7) (N := 11) (ci := 7) K in_X7_formulaFits_X7 hw 0 rfl (by decide : 0 < 1) rfl rfl 9 (by decide) (List.mem_of_getElem? (i := 1) rfl) rfl rfl dX7_formulaFits_17 ?_
    refine g_get (ref := "MigrantHeap$Pile") (C := RX3) (T := TX3) (N := 3) (ci := 3) K in_X7_formulaFits_X3 hw 19 rfl (by decide : 0 < 1) rfl rfl 1 (by decide) (List.mem_of_getElem? (i := 3) rfl) rfl rfl dX7_formulaFits_20 ?_
    refine lv_iconst (v := 0) hx hb dX7_formulaFits_23 (by decide) ?_
    obtain ⟨h12, hm⟩ := chkS hm
    refine g_lald K hw 20 1 rfl (by decide) rfl rfl h12 dX7_formulaFits_24 ?_
    refine lv_aload_n hx hb dX7_formulaFits_25 rfl (lv_at hl 1 rfl) ?_
    refine g_get (ref := "MigrantHeap$Step") (C := RX5) (T := TX5) (N := 6) (ci := 5) K in_X7_formulaFits_X5 hw 18 rfl hb_x1 rfl rfl 2 (by decide) (List.mem_of_getElem? (i := 4) rfl) rfl rfl dX7_formulaFits_26 ?_
    refine lv_i2l hx hb dX7_formulaFits_29 rfl ?_
    refine W.lcmp hx hb dX7_formulaFits_30 ?_
    refine lv_if_lt (tgt := 56) hx hb dX7_formulaFits_31 (by decide) (fun c13 => ?_) (fun c13 => ?_)
    · replace hm := (if_pos c13).symm.trans hm
      refine lv_iconst (v := 0) hx hb dX7_formulaFits_56 (by decide) ?_
      exact g_zret (GG := GC cy ad) K hw rfl (Option.some.inj hm).symm dX7_formulaFits_57
    · replace hm := (if_neg c13).symm.trans hm
      refine lv_aload_n hx hb dX7_formulaFits_34 rfl (lv_at hl 0 rfl) ?_
      refine g_get (ref := "MigrantHeap") (C := RX7) (T := TX7) (N := 11) (ci := 7) K in_X7_formulaFits_X7 hw 0 rfl (by decide : 0 < 1) rfl rfl 9 (by decide) (List.mem_of_getElem? (i := 1) rfl) rfl rfl dX7_formulaFits_35 ?_
      refine g_get (ref := "MigrantHeap$Pile") (C := RX3) (T := TX3) (N := 3) (ci := 3) K in_X7_formulaFits_X3 hw 19 rfl (by decide : 0 < 1) rfl rfl 2 (by decide) (List.mem_of_getElem? (i := 5) rfl) rfl rfl dX7_formulaFits_38 ?_
      refine lv_iconst (v := 0) hx hb dX7_formulaFits_41 (by decide) ?_
      obtain ⟨h14, hm⟩ := chkS hm
      refine g_lald K hw 21 1 rfl (by decide) rfl rfl h14 dX7_formulaFits_42 ?_
      refine lv_aload_n hx hb dX7_formulaFits_43 rfl (lv_at hl 1 rfl) ?_
      refine g_get (ref := "MigrantHeap$Step") (C := RX5) (T := TX5) (N := 6) (ci := 5) K in_X7_formulaFits_X5 hw 18 rfl hb_x1 rfl rfl 3 (by decide) (List.mem_of_getElem? (i := 6) rfl) rfl rfl dX7_formulaFits_44 ?_
      refine lv_i2l hx hb dX7_formulaFits_47 rfl ?_
      refine W.lcmp hx hb dX7_formulaFits_48 ?_
      refine lv_if_gt (tgt := 56) hx hb dX7_formulaFits_49 (by decide) (fun c15 => ?_) (fun c15 => ?_)
      · replace hm := (if_pos c15).symm.trans hm
        refine lv_iconst (v := 0) hx hb dX7_formulaFits_56 (by decide) ?_
        exact g_zret (GG := GC cy ad) K hw rfl (Option.some.inj hm).symm dX7_formulaFits_57
      · replace hm := (if_neg c15).symm.trans hm
        refine lv_iconst (v := 1) hx hb dX7_formulaFits_52 (by decide) ?_
        refine lv_goto (tgt := 57) hx hb dX7_formulaFits_53 (by decide) ?_
        exact g_zret (GG := GC cy ad) K hw rfl (Option.some.inj hm).symm dX7_formulaFits_57
set_option maxRecDepth 100000 in
set_option maxHeartbeats 4000000 in
theorem c_X7_formulaFits (l : Launch) (D : va_G) (cy : Nat → ClassId) (ad : Nat → Nat → Nat) (sz n : Nat) (S : CSt) (x1 : Nat) (x2 : Nat) (hb_x1 : x1 < 6) (hb_x2 : x2 < 9) {out : Int32 × CSt} (hm : m_X7_formulaFits n S x1 x2 = some out) : Met l yX7_formulaFits wsX7_formulaFits rm_X7_formulaFits (va_Pc [.ref (ad 0 0), .ref (ad 18 x1), .ref (ad 3 x2)] (Pre D (tysC cy) (GC cy ad S) (fun _ _ => True) sz)) (va_Qi (fun r (u : CSt) => out = (r, u)) (fun u => Pst D (tysC cy) (AA (adrs (GC cy ad S)) sz) (GC cy ad u)) (AA (adrs (GC cy ad S)) sz)) 0 0 (AA (adrs (GC cy ad S)) sz) := by
  refine g_met (by decide) rfl (Nat.le_of_ble_eq_true rfl) ?_
  intro p e s m args below meth c K hw ls hl
  exact t_X7_formulaFits_0 (cy := cy) K n S x1 x2 hb_x1 hb_x2 hm _ _ hw ls hl
end W_X7_formulaFits
section W_X7_canDo
variable {p : Program} {l : Launch} {e : Env} {s : State} {m : MethodId} {args : Array Value} {below : List Frame} {meth : Method} {c : Code} {D : va_G} {A : Nat → Prop} {cy : Nat → ClassId} {ad : Nat → Nat → Nat} {Q : State → Prop}
abbrev rm_X7_canDo : Room := { frames := 5, cells := 0, slots := 0, locals := 130 }
theorem in_X7_canDo_X2 : ∀ w ∈ u_ws RX2 TX2 4, w ∈ wsX7_canDo := by decide +kernel
theorem in_X7_canDo_X4 : ∀ w ∈ u_ws RX4 TX4 6, w ∈ wsX7_canDo := by decide +kernel
theorem in_X7_canDo_X5 : ∀ w ∈ u_ws RX5 TX5 6, w ∈ wsX7_canDo := by decide +kernel
theorem in_X7_canDo_X7 : ∀ w ∈ u_ws RX7 TX7 11, w ∈ wsX7_canDo := by decide +kernel
set_option maxRecDepth 100000 in
set_option maxHeartbeats 4000000 in
theorem t_X7_canDo_0 (K : Cx p s m args meth c D A (tysC cy) RX7 cX7_canDo 5 (some .boolean) wsX7_canDo (fun _ _ => True)) (n : Nat) (S : CSt) (x1 : Nat) (x2 : Int32) (x3 : Int32) (hb_x1 : x1 < 6) {out : Int32 × CSt} (hm : m_X7_canDo n S x1 x2 x3 = some out) : ∀ (H : Heap) (locs : List Loc), Wd D A s.heap (GC cy ad S) H locs → ∀ ls : Array Slot, lv_has ls 5 [(0, .ref (ad 0 0)), (1, .ref (ad 18 x1)), (2, .int x2), (3, .int x3)] → W p l e rm_X7_canDo s m args below meth c H locs 0 0 (MQ below (va_Qi (fun r (u : CSt) => out = (r, u)) (fun u => Pst D (tysC cy) A (GC cy ad u)) A) args s 0 0 A) (F0 m 0 ls []) := by
  intro H locs hw ls hl
  obtain ⟨hx, hb, hml, hown, hts, hr, hlo, hK, hA, hX⟩ := id K
  unfold m_X7_canDo at hm
  refine lv_aload_n hx hb dX7_canDo_0 rfl (lv_at hl 0 rfl) ?_
  refine g_get (ref := "MigrantHeap") (C := RX7) (T := TX7) (N := 11) (ci := 7) K in_X7_canDo_X7 hw 0 rfl (by decide : 0 < 1) rfl rfl 8 (by decide) (List.mem_of_getElem? (i := 1) rfl) rfl rfl dX7_canDo_1 ?_
  refine lv_aload_n hx hb dX7_canDo_4 rfl (lv_at hl 1 rfl) ?_
  refine g_get (ref := "MigrantHeap$Step") (C := RX5) (T := TX5) (N := 6) (ci := 5) K in_X7_canDo_X5 hw 18 rfl hb_x1 rfl rfl 1 (by decide) (List.mem_of_getElem? (i := 2) rfl) rfl rfl dX7_canDo_5 ?_
  obtain ⟨z58, hc57, hm⟩ := bindS hm
  refine g_calli (GG := GC cy ad) K hw (va_runV (As := [.int (S.1 23 x1 0)]) (rest := []) (g_fix K) (c_X4_placeOf l D cy ad H.size n S 8 (S.1 23 x1 0) (by decide : 8 < 9) hc57) (cwV 1 (g_hts K) gX7_canDo_X4_placeOf rfl rfl rfl (by decide +kernel) ⟨Nat.le_of_ble_eq_true rfl, Nat.le_of_ble_eq_true rfl⟩) ⟨g_blind rides_none, g_recv K hw 3 rfl (by decide : 8 < 9) rfl rfl, g_pre (X2 := fun _ _ => True) K hw (fun _ _ _ => trivial)⟩ rfl rfl hl.1 rfl (lv_room (Nat.le_of_ble_eq_true rfl)) dX7_canDo_8 ⟨Nat.le_of_ble_eq_true rfl, Nat.le_of_ble_eq_true rfl⟩) (fun r u H locs hp hw => ?_)
  obtain ⟨rfl, hu⟩ := hp
  rw [hu] at hw
  refine lv_istore (lv' := [(4, .int z58), (0, .ref (ad 0 0)), (1, .ref (ad 18 x1)), (2, .int x2), (3, .int x3)]) hx hb dX7_canDo_11 hl (by decide) rfl (fun ls hl => ?_)
  refine lv_aload_n hx hb dX7_canDo_13 rfl (lv_at hl 2 rfl) ?_
  refine g_get (ref := "MigrantHeap$Step") (C := RX5) (T := TX5) (N := 6) (ci := 5) K in_X7_canDo_X5 hw 18 rfl hb_x1 rfl rfl 0 (by decide) (List.mem_of_getElem? (i := 3) rfl) rfl rfl dX7_canDo_14 ?_
  by_cases c59 : (S.1 22 x1 0) = 0
  · replace hm := (if_pos c59).symm.trans hm
    refine lv_tableIn (off := 43) (tgt := 60) hx hb dX7_canDo_17 (by rw [c59]; decide) (by rw [c59]; decide) (by rw [c59]; rfl) (by decide) ?_
    refine lv_iload hx hb dX7_canDo_60 (lv_at hl 0 rfl) ?_
    refine lv_iconst (v := (-1)) hx hb dX7_canDo_62 (by decide) ?_
    refine lv_icmp_eq (tgt := 82) hx hb dX7_canDo_63 (by decide) (fun c60 => ?_) (fun c60 => ?_)
    · replace hm := (if_pos c60).symm.trans hm
      refine lv_iconst (v := 0) hx hb dX7_canDo_82 (by decide) ?_
      exact g_zret (GG := GC cy ad) K hw rfl (Option.some.inj hm).symm dX7_canDo_83
    · replace hm := (if_neg c60).symm.trans hm
      refine lv_aload_n hx hb dX7_canDo_66 rfl (lv_at hl 1 rfl) ?_
      refine g_get (ref := "MigrantHeap") (C := RX7) (T := TX7) (N := 11) (ci := 7) K in_X7_canDo_X7 hw 0 rfl (by decide : 0 < 1) rfl rfl 8 (by decide) (List.mem_of_getElem? (i := 1) rfl) rfl rfl dX7_canDo_67 ?_
      refine lv_iload hx hb dX7_canDo_70 (lv_at hl 0 rfl) ?_
      obtain ⟨z62, hc61, hm⟩ := bindS hm
      refine g_calli (GG := GC cy ad) K hw (va_runV (As := [.int z58]) (rest := []) (g_fix K) (c_X4_isOwning l D cy ad H.size n S 8 z58 (by decide : 8 < 9) hc61) (cwV 1 (g_hts K) gX7_canDo_X4_isOwning rfl rfl rfl (by decide +kernel) ⟨Nat.le_of_ble_eq_true rfl, Nat.le_of_ble_eq_true rfl⟩) ⟨g_blind rides_none, g_recv K hw 3 rfl (by decide : 8 < 9) rfl rfl, g_pre (X2 := fun _ _ => True) K hw (fun _ _ _ => trivial)⟩ rfl rfl hl.1 rfl (lv_room (Nat.le_of_ble_eq_true rfl)) dX7_canDo_72 ⟨Nat.le_of_ble_eq_true rfl, Nat.le_of_ble_eq_true rfl⟩) (fun r u H locs hp hw => ?_)
      obtain ⟨rfl, hu⟩ := hp
      rw [hu] at hw
      refine lv_if_ne (tgt := 82) hx hb dX7_canDo_75 (by decide) (fun c63 => ?_) (fun c63 => ?_)
      · replace hm := (if_pos c63).symm.trans hm
        refine lv_iconst (v := 0) hx hb dX7_canDo_82 (by decide) ?_
        exact g_zret (GG := GC cy ad) K hw rfl (Option.some.inj hm).symm dX7_canDo_83
      · replace hm := (if_neg (fun h => h c63)).symm.trans hm
        refine lv_iconst (v := 1) hx hb dX7_canDo_78 (by decide) ?_
        refine lv_goto (tgt := 83) hx hb dX7_canDo_79 (by decide) ?_
        exact g_zret (GG := GC cy ad) K hw rfl (Option.some.inj hm).symm dX7_canDo_83
  · replace hm := (if_neg c59).symm.trans hm
    by_cases c64 : (S.1 22 x1 0) = 1
    · replace hm := (if_pos c64).symm.trans hm
      refine lv_tableIn (off := 67) (tgt := 84) hx hb dX7_canDo_17 (by rw [c64]; decide) (by rw [c64]; decide) (by rw [c64]; rfl) (by decide) ?_
      refine lv_iload hx hb dX7_canDo_84 (lv_at hl 0 rfl) ?_
      refine lv_iconst (v := (-1)) hx hb dX7_canDo_86 (by decide) ?_
      refine lv_icmp_eq (tgt := 109) hx hb dX7_canDo_87 (by decide) (fun c65 => ?_) (fun c65 => ?_)
      · replace hm := (if_pos c65).symm.trans hm
        refine lv_iconst (v := 0) hx hb dX7_canDo_109 (by decide) ?_
        exact g_zret (GG := GC cy ad) K hw rfl (Option.some.inj hm).symm dX7_canDo_110
      · replace hm := (if_neg c65).symm.trans hm
        refine lv_aload_n hx hb dX7_canDo_90 rfl (lv_at hl 1 rfl) ?_
        refine g_get (ref := "MigrantHeap") (C := RX7) (T := TX7) (N := 11) (ci := 7) K in_X7_canDo_X7 hw 0 rfl (by decide : 0 < 1) rfl rfl 8 (by decide) (List.mem_of_getElem? (i := 1) rfl) rfl rfl dX7_canDo_91 ?_
        refine lv_aload_n hx hb dX7_canDo_94 rfl (lv_at hl 2 rfl) ?_
        refine g_get (ref := "MigrantHeap$Step") (C := RX5) (T := TX5) (N := 6) (ci := 5) K in_X7_canDo_X5 hw 18 rfl hb_x1 rfl rfl 2 (by decide) (List.mem_of_getElem? (i := 4) rfl) rfl rfl dX7_canDo_95 ?_
        obtain ⟨z67, hc66, hm⟩ := bindS hm
        refine g_calli (GG := GC cy ad) K hw (va_runV (As := [.int (S.1 24 x1 0)]) (rest := []) (g_fix K) (c_X4_placeOf l D cy ad H.size n S 8 (S.1 24 x1 0) (by decide : 8 < 9) hc66) (cwV 1 (g_hts K) gX7_canDo_X4_placeOf rfl rfl rfl (by decide +kernel) ⟨Nat.le_of_ble_eq_true rfl, Nat.le_of_ble_eq_true rfl⟩) ⟨g_blind rides_none, g_recv K hw 3 rfl (by decide : 8 < 9) rfl rfl, g_pre (X2 := fun _ _ => True) K hw (fun _ _ _ => trivial)⟩ rfl rfl hl.1 rfl (lv_room (Nat.le_of_ble_eq_true rfl)) dX7_canDo_98 ⟨Nat.le_of_ble_eq_true rfl, Nat.le_of_ble_eq_true rfl⟩) (fun r u H locs hp hw => ?_)
        obtain ⟨rfl, hu⟩ := hp
        rw [hu] at hw
        refine lv_iconst (v := (-1)) hx hb dX7_canDo_101 (by decide) ?_
        refine lv_icmp_ne (tgt := 109) hx hb dX7_canDo_102 (by decide) (fun c68 => ?_) (fun c68 => ?_)
        · replace hm := (if_pos c68).symm.trans hm
          refine lv_iconst (v := 0) hx hb dX7_canDo_109 (by decide) ?_
          exact g_zret (GG := GC cy ad) K hw rfl (Option.some.inj hm).symm dX7_canDo_110
        · replace hm := (if_neg (fun h => h c68)).symm.trans hm
          refine lv_iconst (v := 1) hx hb dX7_canDo_105 (by decide) ?_
          refine lv_goto (tgt := 110) hx hb dX7_canDo_106 (by decide) ?_
          exact g_zret (GG := GC cy ad) K hw rfl (Option.some.inj hm).symm dX7_canDo_110
    · replace hm := (if_neg c64).symm.trans hm
      by_cases c69 : (S.1 22 x1 0) = 2
      · replace hm := (if_pos c69).symm.trans hm
        refine lv_tableIn (off := 94) (tgt := 111) hx hb dX7_canDo_17 (by rw [c69]; decide) (by rw [c69]; decide) (by rw [c69]; rfl) (by decide) ?_
        refine lv_iload hx hb dX7_canDo_111 (lv_at hl 0 rfl) ?_
        refine lv_iconst (v := (-1)) hx hb dX7_canDo_113 (by decide) ?_
        refine lv_icmp_ne (tgt := 150) hx hb dX7_canDo_114 (by decide) (fun c70 => ?_) (fun c70 => ?_)
        · replace hm := (if_pos c70).symm.trans hm
          refine lv_iconst (v := 0) hx hb dX7_canDo_150 (by decide) ?_
          exact g_zret (GG := GC cy ad) K hw rfl (Option.some.inj hm).symm dX7_canDo_151
        · replace hm := (if_neg (fun h => h c70)).symm.trans hm
          refine lv_aload_n hx hb dX7_canDo_117 rfl (lv_at hl 1 rfl) ?_
          refine g_get (ref := "MigrantHeap") (C := RX7) (T := TX7) (N := 11) (ci := 7) K in_X7_canDo_X7 hw 0 rfl (by decide : 0 < 1) rfl rfl 8 (by decide) (List.mem_of_getElem? (i := 1) rfl) rfl rfl dX7_canDo_118 ?_
          refine g_get (ref := "MigrantHeap$Shape") (C := RX4) (T := TX4) (N := 6) (ci := 4) K in_X7_canDo_X4 hw 3 rfl (by decide : 8 < 9) rfl rfl 0 (by decide) (List.mem_of_getElem? (i := 5) rfl) rfl rfl dX7_canDo_121 ?_
          refine lv_bipush (v := 6) hx hb dX7_canDo_124 (by decide) ?_
          refine lv_icmp_ge (tgt := 150) hx hb dX7_canDo_126 (by decide) (fun c71 => ?_) (fun c71 => ?_)
          · replace hm := (if_pos c71).symm.trans hm
            refine lv_iconst (v := 0) hx hb dX7_canDo_150 (by decide) ?_
            exact g_zret (GG := GC cy ad) K hw rfl (Option.some.inj hm).symm dX7_canDo_151
          · replace hm := (if_neg c71).symm.trans hm
            refine lv_aload_n hx hb dX7_canDo_129 rfl (lv_at hl 1 rfl) ?_
            refine lv_aload_n hx hb dX7_canDo_130 rfl (lv_at hl 2 rfl) ?_
            refine lv_aload_n hx hb dX7_canDo_131 rfl (lv_at hl 1 rfl) ?_
            refine g_get (ref := "MigrantHeap") (C := RX7) (T := TX7) (N := 11) (ci := 7) K in_X7_canDo_X7 hw 0 rfl (by decide : 0 < 1) rfl rfl 0 (by decide) (List.mem_of_getElem? (i := 6) rfl) rfl rfl dX7_canDo_132 ?_
            refine lv_iload_n hx hb dX7_canDo_135 rfl (lv_at hl 3 rfl) ?_
            obtain ⟨h72, hm⟩ := chkS hm
            refine g_aald K hw 1 4 rfl (by decide) rfl rfl h72 dX7_canDo_136 ?_
            refine g_get (ref := "MigrantHeap$Kind") (C := RX2) (T := TX2) (N := 4) (ci := 2) K in_X7_canDo_X2 hw 2 rfl (inB_lt h72) rfl rfl 2 (by decide) (List.mem_of_getElem? (i := 7) rfl) rfl rfl dX7_canDo_137 ?_
            obtain ⟨z74, hc73, hm⟩ := bindS hm
            refine g_calli (GG := GC cy ad) K hw (va_runV (As := [.ref (ad 18 x1), .ref (ad 3 (2 * x2.toNatClampNeg))]) (rest := []) (g_fix K) (c_X7_formulaFits l D cy ad H.size n S x1 (2 * x2.toNatClampNeg) hb_x1 (by have := (inB_lt h72); omega : (2 * x2.toNatClampNeg) < 9) hc73) (cwV 2 (g_hts K) gX7_canDo_X7_formulaFits rfl rfl rfl (by decide +kernel) ⟨Nat.le_of_ble_eq_true rfl, Nat.le_of_ble_eq_true rfl⟩) ⟨g_blind rides_none, g_recv K hw 0 rfl (by decide : 0 < 1) rfl rfl, g_pre (X2 := fun _ _ => True) K hw (fun _ _ _ => trivial)⟩ rfl rfl hl.1 rfl (lv_room (Nat.le_of_ble_eq_true rfl)) dX7_canDo_140 ⟨Nat.le_of_ble_eq_true rfl, Nat.le_of_ble_eq_true rfl⟩) (fun r u H locs hp hw => ?_)
            obtain ⟨rfl, rfl⟩ : r = z74.1 ∧ u = z74.2 := by rw [hp]; exact ⟨rfl, rfl⟩
            refine lv_if_eq (tgt := 150) hx hb dX7_canDo_143 (by decide) (fun c75 => ?_) (fun c75 => ?_)
            · replace hm := (if_pos c75).symm.trans hm
              refine lv_iconst (v := 0) hx hb dX7_canDo_150 (by decide) ?_
              exact g_zret (GG := GC cy ad) K hw rfl (Option.some.inj hm).symm dX7_canDo_151
            · replace hm := (if_neg c75).symm.trans hm
              refine lv_iconst (v := 1) hx hb dX7_canDo_146 (by decide) ?_
              refine lv_goto (tgt := 151) hx hb dX7_canDo_147 (by decide) ?_
              exact g_zret (GG := GC cy ad) K hw rfl (Option.some.inj hm).symm dX7_canDo_151
      · replace hm := (if_neg c69).symm.trans hm
        by_cases c76 : (S.1 22 x1 0) = 3
        · replace hm := (if_pos c76).symm.trans hm
          refine lv_tableIn (off := 135) (tgt := 152) hx hb dX7_canDo_17 (by rw [c76]; decide) (by rw [c76]; decide) (by rw [c76]; rfl) (by decide) ?_
          refine lv_aload_n hx hb dX7_canDo_152 rfl (lv_at hl 1 rfl) ?_
          refine g_get (ref := "MigrantHeap") (C := RX7) (T := TX7) (N := 11) (ci := 7) K in_X7_canDo_X7 hw 0 rfl (by decide : 0 < 1) rfl rfl 8 (by decide) (List.mem_of_getElem? (i := 1) rfl) rfl rfl dX7_canDo_153 ?_
          refine lv_iload hx hb dX7_canDo_156 (lv_at hl 0 rfl) ?_
          obtain ⟨z78, hc77, hm⟩ := bindS hm
          refine g_calli (GG := GC cy ad) K hw (va_runV (As := [.int z58]) (rest := []) (g_fix K) (c_X4_isNumber l D cy ad H.size n S 8 z58 (by decide : 8 < 9) hc77) (cwV 1 (g_hts K) gX7_canDo_X4_isNumber rfl rfl rfl (by decide +kernel) ⟨Nat.le_of_ble_eq_true rfl, Nat.le_of_ble_eq_true rfl⟩) ⟨g_blind rides_none, g_recv K hw 3 rfl (by decide : 8 < 9) rfl rfl, g_pre (X2 := fun _ _ => True) K hw (fun _ _ _ => trivial)⟩ rfl rfl hl.1 rfl (lv_room (Nat.le_of_ble_eq_true rfl)) dX7_canDo_158 ⟨Nat.le_of_ble_eq_true rfl, Nat.le_of_ble_eq_true rfl⟩) (fun r u H locs hp hw => ?_)
          obtain ⟨rfl, hu⟩ := hp
          rw [hu] at hw
          refine lv_if_eq (tgt := 196) hx hb dX7_canDo_161 (by decide) (fun c79 => ?_) (fun c79 => ?_)
          · replace hm := (if_pos c79).symm.trans hm
            refine lv_iconst (v := 0) hx hb dX7_canDo_196 (by decide) ?_
            exact g_zret (GG := GC cy ad) K hw rfl (Option.some.inj hm).symm dX7_canDo_197
          · replace hm := (if_neg c79).symm.trans hm
            refine lv_aload_n hx hb dX7_canDo_164 rfl (lv_at hl 2 rfl) ?_
            refine g_get (ref := "MigrantHeap$Step") (C := RX5) (T := TX5) (N := 6) (ci := 5) K in_X7_canDo_X5 hw 18 rfl hb_x1 rfl rfl 4 (by decide) (List.mem_of_getElem? (i := 8) rfl) rfl rfl dX7_canDo_165 ?_
            refine lv_iconst (v := 1) hx hb dX7_canDo_168 (by decide) ?_
            refine lv_icmp_eq (tgt := 192) hx hb dX7_canDo_169 (by decide) (fun c80 => ?_) (fun c80 => ?_)
            · replace hm := (if_pos c80).symm.trans hm
              refine lv_iconst (v := 1) hx hb dX7_canDo_192 (by decide) ?_
              refine lv_goto (tgt := 197) hx hb dX7_canDo_193 (by decide) ?_
              exact g_zret (GG := GC cy ad) K hw rfl (Option.some.inj hm).symm dX7_canDo_197
            · replace hm := (if_neg c80).symm.trans hm
              refine lv_aload_n hx hb dX7_canDo_172 rfl (lv_at hl 1 rfl) ?_
              refine g_get (ref := "MigrantHeap") (C := RX7) (T := TX7) (N := 11) (ci := 7) K in_X7_canDo_X7 hw 0 rfl (by decide : 0 < 1) rfl rfl 8 (by decide) (List.mem_of_getElem? (i := 1) rfl) rfl rfl dX7_canDo_173 ?_
              refine lv_iload hx hb dX7_canDo_176 (lv_at hl 0 rfl) ?_
              refine lv_aload_n hx hb dX7_canDo_178 rfl (lv_at hl 2 rfl) ?_
              refine g_get (ref := "MigrantHeap$Step") (C := RX5) (T := TX5) (N := 6) (ci := 5) K in_X7_canDo_X5 hw 18 rfl hb_x1 rfl rfl 2 (by decide) (List.mem_of_getElem? (i := 4) rfl) rfl rfl dX7_canDo_179 ?_
              refine lv_aload_n hx hb dX7_canDo_182 rfl (lv_at hl 2 rfl) ?_
              refine g_get (ref := "MigrantHeap$Step") (C := RX5) (T := TX5) (N := 6) (ci := 5) K in_X7_canDo_X5 hw 18 rfl hb_x1 rfl rfl 3 (by decide) (List.mem_of_getElem? (i := 9) rfl) rfl rfl dX7_canDo_183 ?_
              obtain ⟨z82, hc81, hm⟩ := bindS hm
              refine g_calli (GG := GC cy ad) K hw (va_runV (As := [.int z58, .int (S.1 24 x1 0), .int (S.1 25 x1 0)]) (rest := []) (g_fix K) (c_X4_rangeIsWithin l D cy ad H.size n S 8 z58 (S.1 24 x1 0) (S.1 25 x1 0) (by decide : 8 < 9) hc81) (cwV 3 (g_hts K) gX7_canDo_X4_rangeIsWithin rfl rfl rfl (by decide +kernel) ⟨Nat.le_of_ble_eq_true rfl, Nat.le_of_ble_eq_true rfl⟩) ⟨g_blind rides_none, g_recv K hw 3 rfl (by decide : 8 < 9) rfl rfl, g_pre (X2 := fun _ _ => True) K hw (fun _ _ _ => trivial)⟩ rfl rfl hl.1 rfl (lv_room (Nat.le_of_ble_eq_true rfl)) dX7_canDo_186 ⟨Nat.le_of_ble_eq_true rfl, Nat.le_of_ble_eq_true rfl⟩) (fun r u H locs hp hw => ?_)
              obtain ⟨rfl, hu⟩ := hp
              rw [hu] at hw
              refine lv_if_eq (tgt := 196) hx hb dX7_canDo_189 (by decide) (fun c83 => ?_) (fun c83 => ?_)
              · replace hm := (if_pos c83).symm.trans hm
                refine lv_iconst (v := 0) hx hb dX7_canDo_196 (by decide) ?_
                exact g_zret (GG := GC cy ad) K hw rfl (Option.some.inj hm).symm dX7_canDo_197
              · replace hm := (if_neg c83).symm.trans hm
                refine lv_iconst (v := 1) hx hb dX7_canDo_192 (by decide) ?_
                refine lv_goto (tgt := 197) hx hb dX7_canDo_193 (by decide) ?_
                exact g_zret (GG := GC cy ad) K hw rfl (Option.some.inj hm).symm dX7_canDo_197
        · replace hm := (if_neg c76).symm.trans hm
          by_cases c84 : (S.1 22 x1 0) = 4
          · replace hm := (if_pos c84).symm.trans hm
            refine lv_tableIn (off := 181) (tgt := 198) hx hb dX7_canDo_17 (by rw [c84]; decide) (by rw [c84]; decide) (by rw [c84]; rfl) (by decide) ?_
            refine lv_iload hx hb dX7_canDo_198 (lv_at hl 0 rfl) ?_
            refine lv_iconst (v := (-1)) hx hb dX7_canDo_200 (by decide) ?_
            refine lv_icmp_ne (tgt := 220) hx hb dX7_canDo_201 (by decide) (fun c85 => ?_) (fun c85 => ?_)
            · replace hm := (if_pos c85).symm.trans hm
              refine lv_iconst (v := 0) hx hb dX7_canDo_220 (by decide) ?_
              exact g_zret (GG := GC cy ad) K hw rfl (Option.some.inj hm).symm dX7_canDo_221
            · replace hm := (if_neg (fun h => h c85)).symm.trans hm
              refine lv_aload_n hx hb dX7_canDo_204 rfl (lv_at hl 1 rfl) ?_
              refine g_get (ref := "MigrantHeap") (C := RX7) (T := TX7) (N := 11) (ci := 7) K in_X7_canDo_X7 hw 0 rfl (by decide : 0 < 1) rfl rfl 8 (by decide) (List.mem_of_getElem? (i := 1) rfl) rfl rfl dX7_canDo_205 ?_
              refine g_get (ref := "MigrantHeap$Shape") (C := RX4) (T := TX4) (N := 6) (ci := 4) K in_X7_canDo_X4 hw 3 rfl (by decide : 8 < 9) rfl rfl 0 (by decide) (List.mem_of_getElem? (i := 5) rfl) rfl rfl dX7_canDo_208 ?_
              refine lv_bipush (v := 6) hx hb dX7_canDo_211 (by decide) ?_
              refine lv_icmp_ge (tgt := 220) hx hb dX7_canDo_213 (by decide) (fun c86 => ?_) (fun c86 => ?_)
              · replace hm := (if_pos c86).symm.trans hm
                refine lv_iconst (v := 0) hx hb dX7_canDo_220 (by decide) ?_
                exact g_zret (GG := GC cy ad) K hw rfl (Option.some.inj hm).symm dX7_canDo_221
              · replace hm := (if_neg c86).symm.trans hm
                refine lv_iconst (v := 1) hx hb dX7_canDo_216 (by decide) ?_
                refine lv_goto (tgt := 221) hx hb dX7_canDo_217 (by decide) ?_
                exact g_zret (GG := GC cy ad) K hw rfl (Option.some.inj hm).symm dX7_canDo_221
          · replace hm := (if_neg c84).symm.trans hm
            by_cases c87 : (S.1 22 x1 0) = 5
            · replace hm := (if_pos c87).symm.trans hm
              refine lv_tableIn (off := 205) (tgt := 222) hx hb dX7_canDo_17 (by rw [c87]; decide) (by rw [c87]; decide) (by rw [c87]; rfl) (by decide) ?_
              refine lv_aload_n hx hb dX7_canDo_222 rfl (lv_at hl 2 rfl) ?_
              refine g_get (ref := "MigrantHeap$Step") (C := RX5) (T := TX5) (N := 6) (ci := 5) K in_X7_canDo_X5 hw 18 rfl hb_x1 rfl rfl 2 (by decide) (List.mem_of_getElem? (i := 4) rfl) rfl rfl dX7_canDo_223 ?_
              refine lv_iload_n hx hb dX7_canDo_226 rfl (lv_at hl 3 rfl) ?_
              refine lv_icmp_eq (tgt := 269) hx hb dX7_canDo_227 (by decide) (fun c88 => ?_) (fun c88 => ?_)
              · replace hm := (if_pos c88).symm.trans hm
                refine lv_iconst (v := 0) hx hb dX7_canDo_269 (by decide) ?_
                exact g_zret (GG := GC cy ad) K hw rfl (Option.some.inj hm).symm dX7_canDo_270
              · replace hm := (if_neg c88).symm.trans hm
                refine lv_aload_n hx hb dX7_canDo_230 rfl (lv_at hl 1 rfl) ?_
                refine lv_aload_n hx hb dX7_canDo_231 rfl (lv_at hl 2 rfl) ?_
                refine lv_aload_n hx hb dX7_canDo_232 rfl (lv_at hl 1 rfl) ?_
                refine g_get (ref := "MigrantHeap") (C := RX7) (T := TX7) (N := 11) (ci := 7) K in_X7_canDo_X7 hw 0 rfl (by decide : 0 < 1) rfl rfl 0 (by decide) (List.mem_of_getElem? (i := 6) rfl) rfl rfl dX7_canDo_233 ?_
                refine lv_aload_n hx hb dX7_canDo_236 rfl (lv_at hl 2 rfl) ?_
                refine g_get (ref := "MigrantHeap$Step") (C := RX5) (T := TX5) (N := 6) (ci := 5) K in_X7_canDo_X5 hw 18 rfl hb_x1 rfl rfl 2 (by decide) (List.mem_of_getElem? (i := 4) rfl) rfl rfl dX7_canDo_237 ?_
                obtain ⟨h89, hm⟩ := chkS hm
                refine g_aald K hw 1 4 rfl (by decide) rfl rfl h89 dX7_canDo_240 ?_
                refine g_get (ref := "MigrantHeap$Kind") (C := RX2) (T := TX2) (N := 4) (ci := 2) K in_X7_canDo_X2 hw 2 rfl (inB_lt h89) rfl rfl 2 (by decide) (List.mem_of_getElem? (i := 7) rfl) rfl rfl dX7_canDo_241 ?_
                obtain ⟨z91, hc90, hm⟩ := bindS hm
                refine g_calli (GG := GC cy ad) K hw (va_runV (As := [.ref (ad 18 x1), .ref (ad 3 (2 * (S.1 24 x1 0).toNatClampNeg))]) (rest := []) (g_fix K) (c_X7_canSplit l D cy ad H.size n S x1 (2 * (S.1 24 x1 0).toNatClampNeg) hb_x1 (by have := (inB_lt h89); omega : (2 * (S.1 24 x1 0).toNatClampNeg) < 9) hc90) (cwV 2 (g_hts K) gX7_canDo_X7_canSplit rfl rfl rfl (by decide +kernel) ⟨Nat.le_of_ble_eq_true rfl, Nat.le_of_ble_eq_true rfl⟩) ⟨g_blind rides_none, g_recv K hw 0 rfl (by decide : 0 < 1) rfl rfl, g_pre (X2 := fun _ _ => True) K hw (fun _ _ _ => trivial)⟩ rfl rfl hl.1 rfl (lv_room (Nat.le_of_ble_eq_true rfl)) dX7_canDo_244 ⟨Nat.le_of_ble_eq_true rfl, Nat.le_of_ble_eq_true rfl⟩) (fun r u H locs hp hw => ?_)
                obtain ⟨rfl, hu⟩ := hp
                rw [hu] at hw
                refine lv_if_eq (tgt := 269) hx hb dX7_canDo_247 (by decide) (fun c92 => ?_) (fun c92 => ?_)
                · replace hm := (if_pos c92).symm.trans hm
                  refine lv_iconst (v := 0) hx hb dX7_canDo_269 (by decide) ?_
                  exact g_zret (GG := GC cy ad) K hw rfl (Option.some.inj hm).symm dX7_canDo_270
                · replace hm := (if_neg c92).symm.trans hm
                  refine lv_iload_n hx hb dX7_canDo_250 rfl (lv_at hl 4 rfl) ?_
                  refine lv_aload_n hx hb dX7_canDo_251 rfl (lv_at hl 1 rfl) ?_
                  refine g_get (ref := "MigrantHeap") (C := RX7) (T := TX7) (N := 11) (ci := 7) K in_X7_canDo_X7 hw 0 rfl (by decide : 0 < 1) rfl rfl 2 (by decide) (List.mem_of_getElem? (i := 10) rfl) rfl rfl dX7_canDo_252 ?_
                  refine lv_iload_n hx hb dX7_canDo_255 rfl (lv_at hl 3 rfl) ?_
                  obtain ⟨z94, hc93, hm⟩ := bindS hm
                  refine g_calli (GG := GC cy ad) K hw (va_runV (As := [.int x2]) (rest := [.int x3]) (g_fix K) (c_X6_countOf l D cy ad H.size n S x2  hc93) (cwV 1 (g_hts K) gX7_canDo_X6_countOf rfl rfl rfl (by decide +kernel) ⟨Nat.le_of_ble_eq_true rfl, Nat.le_of_ble_eq_true rfl⟩) ⟨g_blind rides_none, g_recv K hw 9 rfl (by decide : 0 < 1) rfl rfl, g_pre (X2 := fun _ _ => True) K hw (fun _ _ _ => trivial)⟩ rfl rfl hl.1 rfl (lv_room (Nat.le_of_ble_eq_true rfl)) dX7_canDo_256 ⟨Nat.le_of_ble_eq_true rfl, Nat.le_of_ble_eq_true rfl⟩) (fun r u H locs hp hw => ?_)
                  obtain ⟨rfl, hu⟩ := hp
                  rw [hu] at hw
                  refine lv_iadd hx hb dX7_canDo_259 ?_
                  refine lv_bipush (v := 24) hx hb dX7_canDo_260 (by decide) ?_
                  refine lv_icmp_gt (tgt := 269) hx hb dX7_canDo_262 (by decide) (fun c95 => ?_) (fun c95 => ?_)
                  · replace hm := (if_pos c95).symm.trans hm
                    refine lv_iconst (v := 0) hx hb dX7_canDo_269 (by decide) ?_
                    exact g_zret (GG := GC cy ad) K hw rfl (Option.some.inj hm).symm dX7_canDo_270
                  · replace hm := (if_neg c95).symm.trans hm
                    refine lv_iconst (v := 1) hx hb dX7_canDo_265 (by decide) ?_
                    refine lv_goto (tgt := 270) hx hb dX7_canDo_266 (by decide) ?_
                    exact g_zret (GG := GC cy ad) K hw rfl (Option.some.inj hm).symm dX7_canDo_270
            · replace hm := (if_neg c87).symm.trans hm
              by_cases c96 : (S.1 22 x1 0) = 6
              · replace hm := (if_pos c96).symm.trans hm
                refine lv_tableIn (off := 254) (tgt := 271) hx hb dX7_canDo_17 (by rw [c96]; decide) (by rw [c96]; decide) (by rw [c96]; rfl) (by decide) ?_
                refine lv_aload_n hx hb dX7_canDo_271 rfl (lv_at hl 1 rfl) ?_
                refine g_get (ref := "MigrantHeap") (C := RX7) (T := TX7) (N := 11) (ci := 7) K in_X7_canDo_X7 hw 0 rfl (by decide : 0 < 1) rfl rfl 8 (by decide) (List.mem_of_getElem? (i := 1) rfl) rfl rfl dX7_canDo_272 ?_
                refine lv_iload hx hb dX7_canDo_275 (lv_at hl 0 rfl) ?_
                obtain ⟨z98, hc97, hm⟩ := bindS hm
                refine g_calli (GG := GC cy ad) K hw (va_runV (As := [.int z58]) (rest := []) (g_fix K) (c_X4_isOwning l D cy ad H.size n S 8 z58 (by decide : 8 < 9) hc97) (cwV 1 (g_hts K) gX7_canDo_X4_isOwning rfl rfl rfl (by decide +kernel) ⟨Nat.le_of_ble_eq_true rfl, Nat.le_of_ble_eq_true rfl⟩) ⟨g_blind rides_none, g_recv K hw 3 rfl (by decide : 8 < 9) rfl rfl, g_pre (X2 := fun _ _ => True) K hw (fun _ _ _ => trivial)⟩ rfl rfl hl.1 rfl (lv_room (Nat.le_of_ble_eq_true rfl)) dX7_canDo_277 ⟨Nat.le_of_ble_eq_true rfl, Nat.le_of_ble_eq_true rfl⟩) (fun r u H locs hp hw => ?_)
                obtain ⟨rfl, hu⟩ := hp
                rw [hu] at hw
                refine lv_if_eq (tgt := 346) hx hb dX7_canDo_280 (by decide) (fun c99 => ?_) (fun c99 => ?_)
                · replace hm := (if_pos c99).symm.trans hm
                  refine lv_iconst (v := 0) hx hb dX7_canDo_346 (by decide) ?_
                  exact g_zret (GG := GC cy ad) K hw rfl (Option.some.inj hm).symm dX7_canDo_347
                · replace hm := (if_neg c99).symm.trans hm
                  refine lv_aload_n hx hb dX7_canDo_283 rfl (lv_at hl 1 rfl) ?_
                  refine g_get (ref := "MigrantHeap") (C := RX7) (T := TX7) (N := 11) (ci := 7) K in_X7_canDo_X7 hw 0 rfl (by decide : 0 < 1) rfl rfl 8 (by decide) (List.mem_of_getElem? (i := 1) rfl) rfl rfl dX7_canDo_284 ?_
                  refine g_get (ref := "MigrantHeap$Shape") (C := RX4) (T := TX4) (N := 6) (ci := 4) K in_X7_canDo_X4 hw 3 rfl (by decide : 8 < 9) rfl rfl 5 (by decide) (List.mem_of_getElem? (i := 11) rfl) rfl rfl dX7_canDo_287 ?_
                  refine lv_iload hx hb dX7_canDo_290 (lv_at hl 0 rfl) ?_
                  obtain ⟨h100, hm⟩ := chkS hm
                  refine g_iald K hw 8 0 rfl (by decide : 8 < 9) rfl rfl h100 dX7_canDo_292 ?_
                  refine lv_iconst (v := (-1)) hx hb dX7_canDo_293 (by decide) ?_
                  refine lv_icmp_eq (tgt := 346) hx hb dX7_canDo_294 (by decide) (fun c101 => ?_) (fun c101 => ?_)
                  · replace hm := (if_pos c101).symm.trans hm
                    refine lv_iconst (v := 0) hx hb dX7_canDo_346 (by decide) ?_
                    exact g_zret (GG := GC cy ad) K hw rfl (Option.some.inj hm).symm dX7_canDo_347
                  · replace hm := (if_neg c101).symm.trans hm
                    refine lv_aload_n hx hb dX7_canDo_297 rfl (lv_at hl 1 rfl) ?_
                    refine lv_iload hx hb dX7_canDo_298 (lv_at hl 0 rfl) ?_
                    refine lv_aload_n hx hb dX7_canDo_300 rfl (lv_at hl 1 rfl) ?_
                    refine g_get (ref := "MigrantHeap") (C := RX7) (T := TX7) (N := 11) (ci := 7) K in_X7_canDo_X7 hw 0 rfl (by decide : 0 < 1) rfl rfl 0 (by decide) (List.mem_of_getElem? (i := 6) rfl) rfl rfl dX7_canDo_301 ?_
                    refine lv_aload_n hx hb dX7_canDo_304 rfl (lv_at hl 1 rfl) ?_
                    refine g_get (ref := "MigrantHeap") (C := RX7) (T := TX7) (N := 11) (ci := 7) K in_X7_canDo_X7 hw 0 rfl (by decide : 0 < 1) rfl rfl 8 (by decide) (List.mem_of_getElem? (i := 1) rfl) rfl rfl dX7_canDo_305 ?_
                    refine g_get (ref := "MigrantHeap$Shape") (C := RX4) (T := TX4) (N := 6) (ci := 4) K in_X7_canDo_X4 hw 3 rfl (by decide : 8 < 9) rfl rfl 3 (by decide) (List.mem_of_getElem? (i := 12) rfl) rfl rfl dX7_canDo_308 ?_
                    refine lv_iload hx hb dX7_canDo_311 (lv_at hl 0 rfl) ?_
                    obtain ⟨h102, hm⟩ := chkS hm
                    refine g_iald K hw 6 0 rfl (by decide : 8 < 9) rfl rfl h102 dX7_canDo_313 ?_
                    obtain ⟨h103, hm⟩ := chkS hm
                    refine g_aald K hw 1 4 rfl (by decide) rfl rfl h103 dX7_canDo_314 ?_
                    refine g_get (ref := "MigrantHeap$Kind") (C := RX2) (T := TX2) (N := 4) (ci := 2) K in_X7_canDo_X2 hw 2 rfl (inB_lt h103) rfl rfl 2 (by decide) (List.mem_of_getElem? (i := 7) rfl) rfl rfl dX7_canDo_315 ?_
                    obtain ⟨z105, hc104, hm⟩ := bindS hm
                    refine g_calli (GG := GC cy ad) K hw (va_runV (As := [.int z58, .ref (ad 3 (2 * (S.1 8 8 z58.toNatClampNeg).toNatClampNeg))]) (rest := []) (g_fix K) (c_X7_canJoin l D cy ad H.size n S z58 (2 * (S.1 8 8 z58.toNatClampNeg).toNatClampNeg) (by have := (inB_lt h103); omega : (2 * (S.1 8 8 z58.toNatClampNeg).toNatClampNeg) < 9) hc104) (cwV 2 (g_hts K) gX7_canDo_X7_canJoin rfl rfl rfl (by decide +kernel) ⟨Nat.le_of_ble_eq_true rfl, Nat.le_of_ble_eq_true rfl⟩) ⟨g_blind rides_none, g_recv K hw 0 rfl (by decide : 0 < 1) rfl rfl, g_pre (X2 := fun _ _ => True) K hw (fun _ _ _ => trivial)⟩ rfl rfl hl.1 rfl (lv_room (Nat.le_of_ble_eq_true rfl)) dX7_canDo_318 ⟨Nat.le_of_ble_eq_true rfl, Nat.le_of_ble_eq_true rfl⟩) (fun r u H locs hp hw => ?_)
                    obtain ⟨rfl, hu⟩ := hp
                    rw [hu] at hw
                    refine lv_if_eq (tgt := 346) hx hb dX7_canDo_321 (by decide) (fun c106 => ?_) (fun c106 => ?_)
                    · replace hm := (if_pos c106).symm.trans hm
                      refine lv_iconst (v := 0) hx hb dX7_canDo_346 (by decide) ?_
                      exact g_zret (GG := GC cy ad) K hw rfl (Option.some.inj hm).symm dX7_canDo_347
                    · replace hm := (if_neg c106).symm.trans hm
                      refine lv_aload_n hx hb dX7_canDo_324 rfl (lv_at hl 1 rfl) ?_
                      refine lv_iload_n hx hb dX7_canDo_325 rfl (lv_at hl 3 rfl) ?_
                      refine lv_aload_n hx hb dX7_canDo_326 rfl (lv_at hl 1 rfl) ?_
                      refine g_get (ref := "MigrantHeap") (C := RX7) (T := TX7) (N := 11) (ci := 7) K in_X7_canDo_X7 hw 0 rfl (by decide : 0 < 1) rfl rfl 8 (by decide) (List.mem_of_getElem? (i := 1) rfl) rfl rfl dX7_canDo_327 ?_
                      refine g_get (ref := "MigrantHeap$Shape") (C := RX4) (T := TX4) (N := 6) (ci := 4) K in_X7_canDo_X4 hw 3 rfl (by decide : 8 < 9) rfl rfl 5 (by decide) (List.mem_of_getElem? (i := 11) rfl) rfl rfl dX7_canDo_330 ?_
                      refine lv_iload hx hb dX7_canDo_333 (lv_at hl 0 rfl) ?_
                      obtain ⟨h107, hm⟩ := chkS hm
                      refine g_iald K hw 8 0 rfl (by decide : 8 < 9) rfl rfl h107 dX7_canDo_335 ?_
                      obtain ⟨z109, hc108, hm⟩ := bindS hm
                      refine g_calli (GG := GC cy ad) K hw (va_runV (As := [.int x2, .int (S.1 10 8 z58.toNatClampNeg)]) (rest := []) (g_fix K) (c_X7_someRootHolds l D cy ad H.size n S x2 (S.1 10 8 z58.toNatClampNeg)  hc108) (cwV 2 (g_hts K) gX7_canDo_X7_someRootHolds rfl rfl rfl (by decide +kernel) ⟨Nat.le_of_ble_eq_true rfl, Nat.le_of_ble_eq_true rfl⟩) ⟨g_blind rides_none, g_recv K hw 0 rfl (by decide : 0 < 1) rfl rfl, g_pre (X2 := fun _ _ => True) K hw (fun _ _ _ => trivial)⟩ rfl rfl hl.1 rfl (lv_room (Nat.le_of_ble_eq_true rfl)) dX7_canDo_336 ⟨Nat.le_of_ble_eq_true rfl, Nat.le_of_ble_eq_true rfl⟩) (fun r u H locs hp hw => ?_)
                      obtain ⟨rfl, hu⟩ := hp
                      rw [hu] at hw
                      refine lv_if_ne (tgt := 346) hx hb dX7_canDo_339 (by decide) (fun c110 => ?_) (fun c110 => ?_)
                      · replace hm := (if_pos c110).symm.trans hm
                        refine lv_iconst (v := 0) hx hb dX7_canDo_346 (by decide) ?_
                        exact g_zret (GG := GC cy ad) K hw rfl (Option.some.inj hm).symm dX7_canDo_347
                      · replace hm := (if_neg (fun h => h c110)).symm.trans hm
                        refine lv_iconst (v := 1) hx hb dX7_canDo_342 (by decide) ?_
                        refine lv_goto (tgt := 347) hx hb dX7_canDo_343 (by decide) ?_
                        exact g_zret (GG := GC cy ad) K hw rfl (Option.some.inj hm).symm dX7_canDo_347
              · replace hm := (if_neg c96).symm.trans hm
                have hsw111 : Int32.toInt (S.1 22 x1 0) < 0 ∨ 6 < Int32.toInt (S.1 22 x1 0) := by
                  refine sw_out (fun k h1 h2 => ?_)
                  rcases (show k = 0 ∨ k = 1 ∨ k = 2 ∨ k = 3 ∨ k = 4 ∨ k = 5 ∨ k = 6 by omega) with rfl | rfl | rfl | rfl | rfl | rfl | rfl
                  · exact c59
                  · exact c64
                  · exact c69
                  · exact c76
                  · exact c84
                  · exact c87
                  · exact c96
                refine lv_tableOut (tgt := 348) hx hb dX7_canDo_17 hsw111 (by decide) ?_
                refine lv_iconst (v := 0) hx hb dX7_canDo_348 (by decide) ?_
                exact g_zret (GG := GC cy ad) K hw rfl (Option.some.inj hm).symm dX7_canDo_349
set_option maxRecDepth 100000 in
set_option maxHeartbeats 4000000 in
theorem c_X7_canDo (l : Launch) (D : va_G) (cy : Nat → ClassId) (ad : Nat → Nat → Nat) (sz n : Nat) (S : CSt) (x1 : Nat) (x2 : Int32) (x3 : Int32) (hb_x1 : x1 < 6) {out : Int32 × CSt} (hm : m_X7_canDo n S x1 x2 x3 = some out) : Met l yX7_canDo wsX7_canDo rm_X7_canDo (va_Pc [.ref (ad 0 0), .ref (ad 18 x1), .int x2, .int x3] (Pre D (tysC cy) (GC cy ad S) (fun _ _ => True) sz)) (va_Qi (fun r (u : CSt) => out = (r, u)) (fun u => Pst D (tysC cy) (AA (adrs (GC cy ad S)) sz) (GC cy ad u)) (AA (adrs (GC cy ad S)) sz)) 0 0 (AA (adrs (GC cy ad S)) sz) := by
  refine g_met (by decide) rfl (Nat.le_of_ble_eq_true rfl) ?_
  intro p e s m args below meth c K hw ls hl
  exact t_X7_canDo_0 (cy := cy) K n S x1 x2 x3 hb_x1 hm _ _ hw ls hl
end W_X7_canDo
section W_X7_recordsMade
variable {p : Program} {l : Launch} {e : Env} {s : State} {m : MethodId} {args : Array Value} {below : List Frame} {meth : Method} {c : Code} {D : va_G} {A : Nat → Prop} {cy : Nat → ClassId} {ad : Nat → Nat → Nat} {Q : State → Prop}
abbrev rm_X7_recordsMade : Room := { frames := 2, cells := 0, slots := 0, locals := 44 }
theorem in_X7_recordsMade_X5 : ∀ w ∈ u_ws RX5 TX5 6, w ∈ wsX7_recordsMade := by decide +kernel
theorem in_X7_recordsMade_X7 : ∀ w ∈ u_ws RX7 TX7 11, w ∈ wsX7_recordsMade := by decide +kernel
set_option maxRecDepth 100000 in
set_option maxHeartbeats 4000000 in
theorem t_X7_recordsMade_0 (K : Cx p s m args meth c D A (tysC cy) RX7 cX7_recordsMade 3 (some .int) wsX7_recordsMade (fun _ _ => True)) (n : Nat) (S : CSt) (x1 : Nat) (x2 : Int32) (hb_x1 : x1 < 6) {out : Int32} (hm : m_X7_recordsMade n S x1 x2 = some out) : ∀ (H : Heap) (locs : List Loc), Wd D A s.heap (GC cy ad S) H locs → ∀ ls : Array Slot, lv_has ls 3 [(0, .ref (ad 0 0)), (1, .ref (ad 18 x1)), (2, .int x2)] → W p l e rm_X7_recordsMade s m args below meth c H locs 0 0 (MQ below (va_Qi (fun r (u : CSt) => out = r ∧ u = S) (fun u => Pst D (tysC cy) A (GC cy ad u)) A) args s 0 0 A) (F0 m 0 ls []) := by
  intro H locs hw ls hl
  obtain ⟨hx, hb, hml, hown, hts, hr, hlo, hK, hA, hX⟩ := id K
  unfold m_X7_recordsMade at hm
  refine lv_aload_n hx hb dX7_recordsMade_0 rfl (lv_at hl 1 rfl) ?_
  refine g_get (ref := "MigrantHeap$Step") (C := RX5) (T := TX5) (N := 6) (ci := 5) K in_X7_recordsMade_X5 hw 18 rfl hb_x1 rfl rfl 0 (by decide) (List.mem_of_getElem? (i := 1) rfl) rfl rfl dX7_recordsMade_1 ?_
  refine lv_iconst (v := 5) hx hb dX7_recordsMade_4 (by decide) ?_
  refine lv_icmp_ne (tgt := 17) hx hb dX7_recordsMade_5 (by decide) (fun c9 => ?_) (fun c9 => ?_)
  · replace hm := (if_pos c9).symm.trans hm
    refine lv_aload_n hx hb dX7_recordsMade_17 rfl (lv_at hl 1 rfl) ?_
    refine g_get (ref := "MigrantHeap$Step") (C := RX5) (T := TX5) (N := 6) (ci := 5) K in_X7_recordsMade_X5 hw 18 rfl hb_x1 rfl rfl 0 (by decide) (List.mem_of_getElem? (i := 1) rfl) rfl rfl dX7_recordsMade_18 ?_
    refine lv_bipush (v := 6) hx hb dX7_recordsMade_21 (by decide) ?_
    refine lv_icmp_ne (tgt := 38) hx hb dX7_recordsMade_23 (by decide) (fun c10 => ?_) (fun c10 => ?_)
    · replace hm := (if_pos c10).symm.trans hm
      refine lv_iconst (v := 0) hx hb dX7_recordsMade_38 (by decide) ?_
      exact g_iret (GG := GC cy ad) K hw ⟨(Option.some.inj hm).symm, rfl⟩ dX7_recordsMade_39
    · replace hm := (if_neg (fun h => h c10)).symm.trans hm
      refine lv_aload_n hx hb dX7_recordsMade_26 rfl (lv_at hl 0 rfl) ?_
      refine g_get (ref := "MigrantHeap") (C := RX7) (T := TX7) (N := 11) (ci := 7) K in_X7_recordsMade_X7 hw 0 rfl (by decide : 0 < 1) rfl rfl 2 (by decide) (List.mem_of_getElem? (i := 2) rfl) rfl rfl dX7_recordsMade_27 ?_
      refine lv_iload_n hx hb dX7_recordsMade_30 rfl (lv_at hl 2 rfl) ?_
      obtain ⟨z12, hc11, hm⟩ := bindS hm
      refine g_calli (GG := GC cy ad) K hw (va_runV (As := [.int x2]) (rest := []) (g_fix K) (c_X6_countOf l D cy ad H.size n S x2  hc11) (cwV 1 (g_hts K) gX7_recordsMade_X6_countOf rfl rfl rfl (by decide +kernel) ⟨Nat.le_of_ble_eq_true rfl, Nat.le_of_ble_eq_true rfl⟩) ⟨g_blind rides_none, g_recv K hw 9 rfl (by decide : 0 < 1) rfl rfl, g_pre (X2 := fun _ _ => True) K hw (fun _ _ _ => trivial)⟩ rfl rfl hl.1 rfl (lv_room (Nat.le_of_ble_eq_true rfl)) dX7_recordsMade_31 ⟨Nat.le_of_ble_eq_true rfl, Nat.le_of_ble_eq_true rfl⟩) (fun r u H locs hp hw => ?_)
      obtain ⟨rfl, hu⟩ := hp
      rw [hu] at hw
      refine lv_ineg hx hb dX7_recordsMade_34 ?_
      refine lv_goto (tgt := 39) hx hb dX7_recordsMade_35 (by decide) ?_
      exact g_iret (GG := GC cy ad) K hw ⟨(Option.some.inj hm).symm, rfl⟩ dX7_recordsMade_39
  · replace hm := (if_neg (fun h => h c9)).symm.trans hm
    refine lv_aload_n hx hb dX7_recordsMade_8 rfl (lv_at hl 0 rfl) ?_
    refine g_get (ref := "MigrantHeap") (C := RX7) (T := TX7) (N := 11) (ci := 7) K in_X7_recordsMade_X7 hw 0 rfl (by decide : 0 < 1) rfl rfl 2 (by decide) (List.mem_of_getElem? (i := 2) rfl) rfl rfl dX7_recordsMade_9 ?_
    refine lv_iload_n hx hb dX7_recordsMade_12 rfl (lv_at hl 2 rfl) ?_
    obtain ⟨z14, hc13, hm⟩ := bindS hm
    refine g_calli (GG := GC cy ad) K hw (va_runV (As := [.int x2]) (rest := []) (g_fix K) (c_X6_countOf l D cy ad H.size n S x2  hc13) (cwV 1 (g_hts K) gX7_recordsMade_X6_countOf rfl rfl rfl (by decide +kernel) ⟨Nat.le_of_ble_eq_true rfl, Nat.le_of_ble_eq_true rfl⟩) ⟨g_blind rides_none, g_recv K hw 9 rfl (by decide : 0 < 1) rfl rfl, g_pre (X2 := fun _ _ => True) K hw (fun _ _ _ => trivial)⟩ rfl rfl hl.1 rfl (lv_room (Nat.le_of_ble_eq_true rfl)) dX7_recordsMade_13 ⟨Nat.le_of_ble_eq_true rfl, Nat.le_of_ble_eq_true rfl⟩) (fun r u H locs hp hw => ?_)
    obtain ⟨rfl, hu⟩ := hp
    rw [hu] at hw
    exact g_iret (GG := GC cy ad) K hw ⟨(Option.some.inj hm).symm, rfl⟩ dX7_recordsMade_16
set_option maxRecDepth 100000 in
set_option maxHeartbeats 4000000 in
theorem c_X7_recordsMade (l : Launch) (D : va_G) (cy : Nat → ClassId) (ad : Nat → Nat → Nat) (sz n : Nat) (S : CSt) (x1 : Nat) (x2 : Int32) (hb_x1 : x1 < 6) {out : Int32} (hm : m_X7_recordsMade n S x1 x2 = some out) : Met l yX7_recordsMade wsX7_recordsMade rm_X7_recordsMade (va_Pc [.ref (ad 0 0), .ref (ad 18 x1), .int x2] (Pre D (tysC cy) (GC cy ad S) (fun _ _ => True) sz)) (va_Qi (fun r (u : CSt) => out = r ∧ u = S) (fun u => Pst D (tysC cy) (AA (adrs (GC cy ad S)) sz) (GC cy ad u)) (AA (adrs (GC cy ad S)) sz)) 0 0 (AA (adrs (GC cy ad S)) sz) := by
  refine g_met (by decide) rfl (Nat.le_of_ble_eq_true rfl) ?_
  intro p e s m args below meth c K hw ls hl
  exact t_X7_recordsMade_0 (cy := cy) K n S x1 x2 hb_x1 hm _ _ hw ls hl
end W_X7_recordsMade
section W_X7_reshape
variable {p : Program} {l : Launch} {e : Env} {s : State} {m : MethodId} {args : Array Value} {below : List Frame} {meth : Method} {c : Code} {D : va_G} {A : Nat → Prop} {cy : Nat → ClassId} {ad : Nat → Nat → Nat} {Q : State → Prop}
abbrev rm_X7_reshape : Room := { frames := 3, cells := 0, slots := 0, locals := 66 }
theorem in_X7_reshape_X2 : ∀ w ∈ u_ws RX2 TX2 4, w ∈ wsX7_reshape := by decide +kernel
theorem in_X7_reshape_X4 : ∀ w ∈ u_ws RX4 TX4 6, w ∈ wsX7_reshape := by decide +kernel
theorem in_X7_reshape_X5 : ∀ w ∈ u_ws RX5 TX5 6, w ∈ wsX7_reshape := by decide +kernel
theorem in_X7_reshape_X7 : ∀ w ∈ u_ws RX7 TX7 11, w ∈ wsX7_reshape := by decide +kernel
set_option maxRecDepth 100000 in
set_option maxHeartbeats 4000000 in
theorem t_X7_reshape_0 (K : Cx p s m args meth c D A (tysC cy) RX7 cX7_reshape 4 none wsX7_reshape EV) (n : Nat) (S : CSt) (x1 : Nat) (hb_x1 : x1 < 6) {out : CSt} (hm : m_X7_reshape n S x1 = some out) : ∀ (H : Heap) (locs : List Loc), Wd D A s.heap (GC cy ad S) H locs → ∀ ls : Array Slot, lv_has ls 4 [(0, .ref (ad 0 0)), (1, .ref (ad 18 x1))] → W p l e rm_X7_reshape s m args below meth c H locs 0 0 (MQ below (va_Qv (fun (u : CSt) => out = u) (fun u => Pst D (tysC cy) A (GC cy ad u)) A) args s 0 0 A) (F0 m 0 ls []) := by
  intro H locs hw ls hl
  obtain ⟨hx, hb, hml, hown, hts, hr, hlo, hK, hA, hX⟩ := id K
  unfold m_X7_reshape at hm
  refine lv_aload_n hx hb dX7_reshape_0 rfl (lv_at hl 0 rfl) ?_
  refine g_get (ref := "MigrantHeap") (C := RX7) (T := TX7) (N := 11) (ci := 7) K in_X7_reshape_X7 hw 0 rfl (by decide : 0 < 1) rfl rfl 8 (by decide) (List.mem_of_getElem? (i := 1) rfl) rfl rfl dX7_reshape_1 ?_
  refine lv_aload_n hx hb dX7_reshape_4 rfl (lv_at hl 1 rfl) ?_
  refine g_get (ref := "MigrantHeap$Step") (C := RX5) (T := TX5) (N := 6) (ci := 5) K in_X7_reshape_X5 hw 18 rfl hb_x1 rfl rfl 1 (by decide) (List.mem_of_getElem? (i := 2) rfl) rfl rfl dX7_reshape_5 ?_
  obtain ⟨z50, hc49, hm⟩ := bindS hm
  refine g_calli (GG := GC cy ad) K hw (va_runV (As := [.int (S.1 23 x1 0)]) (rest := []) (g_fix K) (c_X4_placeOf l D cy ad H.size n S 8 (S.1 23 x1 0) (by decide : 8 < 9) hc49) (cwV 1 (g_hts K) gX7_reshape_X4_placeOf rfl rfl rfl (by decide +kernel) ⟨Nat.le_of_ble_eq_true rfl, Nat.le_of_ble_eq_true rfl⟩) ⟨g_blind rides_none, g_recv K hw 3 rfl (by decide : 8 < 9) rfl rfl, g_pre (X2 := fun _ _ => True) K hw (fun _ _ _ => trivial)⟩ rfl rfl hl.1 rfl (lv_room (Nat.le_of_ble_eq_true rfl)) dX7_reshape_8 ⟨Nat.le_of_ble_eq_true rfl, Nat.le_of_ble_eq_true rfl⟩) (fun r u H locs hp hw => ?_)
  obtain ⟨rfl, hu⟩ := hp
  rw [hu] at hw
  refine lv_istore_n (lv' := [(2, .int z50), (0, .ref (ad 0 0)), (1, .ref (ad 18 x1))]) hx hb dX7_reshape_11 rfl hl (by decide) rfl (fun ls hl => ?_)
  refine lv_aload_n hx hb dX7_reshape_12 rfl (lv_at hl 2 rfl) ?_
  refine g_get (ref := "MigrantHeap$Step") (C := RX5) (T := TX5) (N := 6) (ci := 5) K in_X7_reshape_X5 hw 18 rfl hb_x1 rfl rfl 0 (by decide) (List.mem_of_getElem? (i := 3) rfl) rfl rfl dX7_reshape_13 ?_
  by_cases c51 : (S.1 22 x1 0) = 0
  · replace hm := (if_pos c51).symm.trans hm
    refine lv_tableIn (off := 44) (tgt := 60) hx hb dX7_reshape_16 (by rw [c51]; decide) (by rw [c51]; decide) (by rw [c51]; rfl) (by decide) ?_
    refine lv_aload_n hx hb dX7_reshape_60 rfl (lv_at hl 1 rfl) ?_
    refine g_get (ref := "MigrantHeap") (C := RX7) (T := TX7) (N := 11) (ci := 7) K in_X7_reshape_X7 hw 0 rfl (by decide : 0 < 1) rfl rfl 8 (by decide) (List.mem_of_getElem? (i := 1) rfl) rfl rfl dX7_reshape_61 ?_
    refine lv_iconst (v := 1) hx hb dX7_reshape_64 (by decide) ?_
    refine lv_aload_n hx hb dX7_reshape_65 rfl (lv_at hl 2 rfl) ?_
    refine g_get (ref := "MigrantHeap$Step") (C := RX5) (T := TX5) (N := 6) (ci := 5) K in_X7_reshape_X5 hw 18 rfl hb_x1 rfl rfl 1 (by decide) (List.mem_of_getElem? (i := 2) rfl) rfl rfl dX7_reshape_66 ?_
    refine lv_ishl hx hb dX7_reshape_69 ?_
    obtain ⟨z53, hc52, hm⟩ := bindS hm
    refine g_callv (GG := GC cy ad) K hw (va_runV (As := [.int (1 <<< ((S.1 23 x1 0) &&& 31))]) (rest := []) (g_fix K) (c_X4_removeAll l D cy ad H.size n S 8 (1 <<< ((S.1 23 x1 0) &&& 31)) (by decide : 8 < 9) hc52) (cwV 1 (g_hts K) gX7_reshape_X4_removeAll rfl rfl rfl (by decide +kernel) ⟨Nat.le_of_ble_eq_true rfl, Nat.le_of_ble_eq_true rfl⟩) ⟨g_blind rides_EV, g_recv K hw 3 rfl (by decide : 8 < 9) rfl rfl, g_pre K hw (g_ride rides_EV K hw)⟩ rfl rfl hl.1 rfl (lv_room (Nat.le_of_ble_eq_true rfl)) dX7_reshape_70 ⟨Nat.le_of_ble_eq_true rfl, Nat.le_of_ble_eq_true rfl⟩) (fun u H locs hp hw => ?_)
    obtain rfl := hp
    refine lv_goto (tgt := 243) hx hb dX7_reshape_73 (by decide) ?_
    exact g_vret (GG := GC cy ad) K hw (Option.some.inj hm).symm dX7_reshape_243
  · replace hm := (if_neg c51).symm.trans hm
    by_cases c54 : (S.1 22 x1 0) = 1
    · replace hm := (if_pos c54).symm.trans hm
      refine lv_tableIn (off := 60) (tgt := 76) hx hb dX7_reshape_16 (by rw [c54]; decide) (by rw [c54]; decide) (by rw [c54]; rfl) (by decide) ?_
      refine lv_aload_n hx hb dX7_reshape_76 rfl (lv_at hl 1 rfl) ?_
      refine g_get (ref := "MigrantHeap") (C := RX7) (T := TX7) (N := 11) (ci := 7) K in_X7_reshape_X7 hw 0 rfl (by decide : 0 < 1) rfl rfl 8 (by decide) (List.mem_of_getElem? (i := 1) rfl) rfl rfl dX7_reshape_77 ?_
      refine lv_iload_n hx hb dX7_reshape_80 rfl (lv_at hl 0 rfl) ?_
      refine lv_aload_n hx hb dX7_reshape_81 rfl (lv_at hl 2 rfl) ?_
      refine g_get (ref := "MigrantHeap$Step") (C := RX5) (T := TX5) (N := 6) (ci := 5) K in_X7_reshape_X5 hw 18 rfl hb_x1 rfl rfl 2 (by decide) (List.mem_of_getElem? (i := 4) rfl) rfl rfl dX7_reshape_82 ?_
      obtain ⟨z56, hc55, hm⟩ := bindS hm
      refine g_callv (GG := GC cy ad) K hw (va_runV (As := [.int z50, .int (S.1 24 x1 0)]) (rest := []) (g_fix K) (c_X4_rename l D cy ad H.size n S 8 z50 (S.1 24 x1 0) (by decide : 8 < 9) hc55) (cwV 2 (g_hts K) gX7_reshape_X4_rename rfl rfl rfl (by decide +kernel) ⟨Nat.le_of_ble_eq_true rfl, Nat.le_of_ble_eq_true rfl⟩) ⟨g_blind rides_none, g_recv K hw 3 rfl (by decide : 8 < 9) rfl rfl, g_pre (X2 := fun _ _ => True) K hw (fun _ _ _ => trivial)⟩ rfl rfl hl.1 rfl (lv_room (Nat.le_of_ble_eq_true rfl)) dX7_reshape_85 ⟨Nat.le_of_ble_eq_true rfl, Nat.le_of_ble_eq_true rfl⟩) (fun u H locs hp hw => ?_)
      obtain rfl := hp
      refine lv_goto (tgt := 243) hx hb dX7_reshape_88 (by decide) ?_
      exact g_vret (GG := GC cy ad) K hw (Option.some.inj hm).symm dX7_reshape_243
    · replace hm := (if_neg c54).symm.trans hm
      by_cases c57 : (S.1 22 x1 0) = 2
      · replace hm := (if_pos c57).symm.trans hm
        refine lv_tableIn (off := 75) (tgt := 91) hx hb dX7_reshape_16 (by rw [c57]; decide) (by rw [c57]; decide) (by rw [c57]; rfl) (by decide) ?_
        refine lv_aload_n hx hb dX7_reshape_91 rfl (lv_at hl 1 rfl) ?_
        refine g_get (ref := "MigrantHeap") (C := RX7) (T := TX7) (N := 11) (ci := 7) K in_X7_reshape_X7 hw 0 rfl (by decide : 0 < 1) rfl rfl 8 (by decide) (List.mem_of_getElem? (i := 1) rfl) rfl rfl dX7_reshape_92 ?_
        refine lv_aload_n hx hb dX7_reshape_95 rfl (lv_at hl 2 rfl) ?_
        refine g_get (ref := "MigrantHeap$Step") (C := RX5) (T := TX5) (N := 6) (ci := 5) K in_X7_reshape_X5 hw 18 rfl hb_x1 rfl rfl 1 (by decide) (List.mem_of_getElem? (i := 2) rfl) rfl rfl dX7_reshape_96 ?_
        refine lv_iconst (v := 0) hx hb dX7_reshape_99 (by decide) ?_
        refine lv_aload_n hx hb dX7_reshape_100 rfl (lv_at hl 2 rfl) ?_
        refine g_get (ref := "MigrantHeap$Step") (C := RX5) (T := TX5) (N := 6) (ci := 5) K in_X7_reshape_X5 hw 18 rfl hb_x1 rfl rfl 2 (by decide) (List.mem_of_getElem? (i := 4) rfl) rfl rfl dX7_reshape_101 ?_
        refine lv_aload_n hx hb dX7_reshape_104 rfl (lv_at hl 2 rfl) ?_
        refine g_get (ref := "MigrantHeap$Step") (C := RX5) (T := TX5) (N := 6) (ci := 5) K in_X7_reshape_X5 hw 18 rfl hb_x1 rfl rfl 3 (by decide) (List.mem_of_getElem? (i := 5) rfl) rfl rfl dX7_reshape_105 ?_
        obtain ⟨z59, hc58, hm⟩ := bindS hm
        refine g_callv (GG := GC cy ad) K hw (va_runV (As := [.int (S.1 23 x1 0), .int 0, .int (S.1 24 x1 0), .int (S.1 25 x1 0)]) (rest := []) (g_fix K) (c_X4_append l D cy ad H.size n S 8 (S.1 23 x1 0) 0 (S.1 24 x1 0) (S.1 25 x1 0) (by decide : 8 < 9) hc58) (cwV 4 (g_hts K) gX7_reshape_X4_append rfl rfl rfl (by decide +kernel) ⟨Nat.le_of_ble_eq_true rfl, Nat.le_of_ble_eq_true rfl⟩) ⟨g_blind rides_none, g_recv K hw 3 rfl (by decide : 8 < 9) rfl rfl, g_pre (X2 := fun _ _ => True) K hw (fun _ _ _ => trivial)⟩ rfl rfl hl.1 rfl (lv_room (Nat.le_of_ble_eq_true rfl)) dX7_reshape_108 ⟨Nat.le_of_ble_eq_true rfl, Nat.le_of_ble_eq_true rfl⟩) (fun u H locs hp hw => ?_)
        obtain rfl := hp
        refine lv_goto (tgt := 243) hx hb dX7_reshape_111 (by decide) ?_
        exact g_vret (GG := GC cy ad) K hw (Option.some.inj hm).symm dX7_reshape_243
      · replace hm := (if_neg c57).symm.trans hm
        by_cases c60 : (S.1 22 x1 0) = 3
        · replace hm := (if_pos c60).symm.trans hm
          refine lv_tableIn (off := 98) (tgt := 114) hx hb dX7_reshape_16 (by rw [c60]; decide) (by rw [c60]; decide) (by rw [c60]; rfl) (by decide) ?_
          refine lv_aload_n hx hb dX7_reshape_114 rfl (lv_at hl 1 rfl) ?_
          refine g_get (ref := "MigrantHeap") (C := RX7) (T := TX7) (N := 11) (ci := 7) K in_X7_reshape_X7 hw 0 rfl (by decide : 0 < 1) rfl rfl 8 (by decide) (List.mem_of_getElem? (i := 1) rfl) rfl rfl dX7_reshape_115 ?_
          refine lv_iload_n hx hb dX7_reshape_118 rfl (lv_at hl 0 rfl) ?_
          refine lv_aload_n hx hb dX7_reshape_119 rfl (lv_at hl 2 rfl) ?_
          refine g_get (ref := "MigrantHeap$Step") (C := RX5) (T := TX5) (N := 6) (ci := 5) K in_X7_reshape_X5 hw 18 rfl hb_x1 rfl rfl 2 (by decide) (List.mem_of_getElem? (i := 4) rfl) rfl rfl dX7_reshape_120 ?_
          refine lv_aload_n hx hb dX7_reshape_123 rfl (lv_at hl 2 rfl) ?_
          refine g_get (ref := "MigrantHeap$Step") (C := RX5) (T := TX5) (N := 6) (ci := 5) K in_X7_reshape_X5 hw 18 rfl hb_x1 rfl rfl 3 (by decide) (List.mem_of_getElem? (i := 5) rfl) rfl rfl dX7_reshape_124 ?_
          obtain ⟨z62, hc61, hm⟩ := bindS hm
          refine g_callv (GG := GC cy ad) K hw (va_runV (As := [.int z50, .int (S.1 24 x1 0), .int (S.1 25 x1 0)]) (rest := []) (g_fix K) (c_X4_setRange l D cy ad H.size n S 8 z50 (S.1 24 x1 0) (S.1 25 x1 0) (by decide : 8 < 9) hc61) (cwV 3 (g_hts K) gX7_reshape_X4_setRange rfl rfl rfl (by decide +kernel) ⟨Nat.le_of_ble_eq_true rfl, Nat.le_of_ble_eq_true rfl⟩) ⟨g_blind rides_none, g_recv K hw 3 rfl (by decide : 8 < 9) rfl rfl, g_pre (X2 := fun _ _ => True) K hw (fun _ _ _ => trivial)⟩ rfl rfl hl.1 rfl (lv_room (Nat.le_of_ble_eq_true rfl)) dX7_reshape_127 ⟨Nat.le_of_ble_eq_true rfl, Nat.le_of_ble_eq_true rfl⟩) (fun u H locs hp hw => ?_)
          obtain rfl := hp
          refine lv_goto (tgt := 243) hx hb dX7_reshape_130 (by decide) ?_
          exact g_vret (GG := GC cy ad) K hw (Option.some.inj hm).symm dX7_reshape_243
        · replace hm := (if_neg c60).symm.trans hm
          by_cases c63 : (S.1 22 x1 0) = 4
          · replace hm := (if_pos c63).symm.trans hm
            refine lv_tableIn (off := 117) (tgt := 133) hx hb dX7_reshape_16 (by rw [c63]; decide) (by rw [c63]; decide) (by rw [c63]; rfl) (by decide) ?_
            refine lv_aload_n hx hb dX7_reshape_133 rfl (lv_at hl 1 rfl) ?_
            refine g_get (ref := "MigrantHeap") (C := RX7) (T := TX7) (N := 11) (ci := 7) K in_X7_reshape_X7 hw 0 rfl (by decide : 0 < 1) rfl rfl 8 (by decide) (List.mem_of_getElem? (i := 1) rfl) rfl rfl dX7_reshape_134 ?_
            refine lv_aload_n hx hb dX7_reshape_137 rfl (lv_at hl 2 rfl) ?_
            refine g_get (ref := "MigrantHeap$Step") (C := RX5) (T := TX5) (N := 6) (ci := 5) K in_X7_reshape_X5 hw 18 rfl hb_x1 rfl rfl 1 (by decide) (List.mem_of_getElem? (i := 2) rfl) rfl rfl dX7_reshape_138 ?_
            refine lv_iconst (v := 1) hx hb dX7_reshape_141 (by decide) ?_
            refine lv_aload_n hx hb dX7_reshape_142 rfl (lv_at hl 2 rfl) ?_
            refine g_get (ref := "MigrantHeap$Step") (C := RX5) (T := TX5) (N := 6) (ci := 5) K in_X7_reshape_X5 hw 18 rfl hb_x1 rfl rfl 2 (by decide) (List.mem_of_getElem? (i := 4) rfl) rfl rfl dX7_reshape_143 ?_
            refine lv_aload_n hx hb dX7_reshape_146 rfl (lv_at hl 2 rfl) ?_
            refine g_get (ref := "MigrantHeap$Step") (C := RX5) (T := TX5) (N := 6) (ci := 5) K in_X7_reshape_X5 hw 18 rfl hb_x1 rfl rfl 2 (by decide) (List.mem_of_getElem? (i := 4) rfl) rfl rfl dX7_reshape_147 ?_
            obtain ⟨z65, hc64, hm⟩ := bindS hm
            refine g_callv (GG := GC cy ad) K hw (va_runV (As := [.int (S.1 23 x1 0), .int 1, .int (S.1 24 x1 0), .int (S.1 24 x1 0)]) (rest := []) (g_fix K) (c_X4_append l D cy ad H.size n S 8 (S.1 23 x1 0) 1 (S.1 24 x1 0) (S.1 24 x1 0) (by decide : 8 < 9) hc64) (cwV 4 (g_hts K) gX7_reshape_X4_append rfl rfl rfl (by decide +kernel) ⟨Nat.le_of_ble_eq_true rfl, Nat.le_of_ble_eq_true rfl⟩) ⟨g_blind rides_none, g_recv K hw 3 rfl (by decide : 8 < 9) rfl rfl, g_pre (X2 := fun _ _ => True) K hw (fun _ _ _ => trivial)⟩ rfl rfl hl.1 rfl (lv_room (Nat.le_of_ble_eq_true rfl)) dX7_reshape_150 ⟨Nat.le_of_ble_eq_true rfl, Nat.le_of_ble_eq_true rfl⟩) (fun u H locs hp hw => ?_)
            obtain rfl := hp
            refine lv_goto (tgt := 243) hx hb dX7_reshape_153 (by decide) ?_
            exact g_vret (GG := GC cy ad) K hw (Option.some.inj hm).symm dX7_reshape_243
          · replace hm := (if_neg c63).symm.trans hm
            by_cases c66 : (S.1 22 x1 0) = 5
            · replace hm := (if_pos c66).symm.trans hm
              refine lv_tableIn (off := 140) (tgt := 156) hx hb dX7_reshape_16 (by rw [c66]; decide) (by rw [c66]; decide) (by rw [c66]; rfl) (by decide) ?_
              refine lv_aload_n hx hb dX7_reshape_156 rfl (lv_at hl 1 rfl) ?_
              refine g_get (ref := "MigrantHeap") (C := RX7) (T := TX7) (N := 11) (ci := 7) K in_X7_reshape_X7 hw 0 rfl (by decide : 0 < 1) rfl rfl 8 (by decide) (List.mem_of_getElem? (i := 1) rfl) rfl rfl dX7_reshape_157 ?_
              refine lv_aload_n hx hb dX7_reshape_160 rfl (lv_at hl 2 rfl) ?_
              refine g_get (ref := "MigrantHeap$Step") (C := RX5) (T := TX5) (N := 6) (ci := 5) K in_X7_reshape_X5 hw 18 rfl hb_x1 rfl rfl 3 (by decide) (List.mem_of_getElem? (i := 5) rfl) rfl rfl dX7_reshape_161 ?_
              obtain ⟨z68, hc67, hm⟩ := bindS hm
              refine g_callv (GG := GC cy ad) K hw (va_runV (As := [.int (S.1 25 x1 0)]) (rest := []) (g_fix K) (c_X4_removeAll l D cy ad H.size n S 8 (S.1 25 x1 0) (by decide : 8 < 9) hc67) (cwV 1 (g_hts K) gX7_reshape_X4_removeAll rfl rfl rfl (by decide +kernel) ⟨Nat.le_of_ble_eq_true rfl, Nat.le_of_ble_eq_true rfl⟩) ⟨g_blind rides_EV, g_recv K hw 3 rfl (by decide : 8 < 9) rfl rfl, g_pre K hw (g_ride rides_EV K hw)⟩ rfl rfl hl.1 rfl (lv_room (Nat.le_of_ble_eq_true rfl)) dX7_reshape_164 ⟨Nat.le_of_ble_eq_true rfl, Nat.le_of_ble_eq_true rfl⟩) (fun u H locs hp hw => ?_)
              obtain rfl := hp
              refine lv_aload_n hx hb dX7_reshape_167 rfl (lv_at hl 1 rfl) ?_
              refine g_get (ref := "MigrantHeap") (C := RX7) (T := TX7) (N := 11) (ci := 7) K in_X7_reshape_X7 hw 0 rfl (by decide : 0 < 1) rfl rfl 8 (by decide) (List.mem_of_getElem? (i := 1) rfl) rfl rfl dX7_reshape_168 ?_
              refine lv_aload_n hx hb dX7_reshape_171 rfl (lv_at hl 2 rfl) ?_
              refine g_get (ref := "MigrantHeap$Step") (C := RX5) (T := TX5) (N := 6) (ci := 5) K in_X7_reshape_X5 hw 18 rfl hb_x1 rfl rfl 1 (by decide) (List.mem_of_getElem? (i := 2) rfl) rfl rfl dX7_reshape_172 ?_
              refine lv_iconst (v := 2) hx hb dX7_reshape_175 (by decide) ?_
              refine lv_aload_n hx hb dX7_reshape_176 rfl (lv_at hl 2 rfl) ?_
              refine g_get (ref := "MigrantHeap$Step") (C := RX5) (T := TX5) (N := 6) (ci := 5) K in_X7_reshape_X5 hw 18 rfl hb_x1 rfl rfl 2 (by decide) (List.mem_of_getElem? (i := 4) rfl) rfl rfl dX7_reshape_177 ?_
              refine lv_aload_n hx hb dX7_reshape_180 rfl (lv_at hl 2 rfl) ?_
              refine g_get (ref := "MigrantHeap$Step") (C := RX5) (T := TX5) (N := 6) (ci := 5) K in_X7_reshape_X5 hw 18 rfl hb_x1 rfl rfl 2 (by decide) (List.mem_of_getElem? (i := 4) rfl) rfl rfl dX7_reshape_181 ?_
              obtain ⟨z70, hc69, hm⟩ := bindS hm
              refine g_callv (GG := GC cy ad) K hw (va_runV (As := [.int (z68.1 23 x1 0), .int 2, .int (z68.1 24 x1 0), .int (z68.1 24 x1 0)]) (rest := []) (g_fix K) (c_X4_append l D cy ad H.size n z68 8 (z68.1 23 x1 0) 2 (z68.1 24 x1 0) (z68.1 24 x1 0) (by decide : 8 < 9) hc69) (cwV 4 (g_hts K) gX7_reshape_X4_append rfl rfl rfl (by decide +kernel) ⟨Nat.le_of_ble_eq_true rfl, Nat.le_of_ble_eq_true rfl⟩) ⟨g_blind rides_none, g_recv K hw 3 rfl (by decide : 8 < 9) rfl rfl, g_pre (X2 := fun _ _ => True) K hw (fun _ _ _ => trivial)⟩ rfl rfl hl.1 rfl (lv_room (Nat.le_of_ble_eq_true rfl)) dX7_reshape_184 ⟨Nat.le_of_ble_eq_true rfl, Nat.le_of_ble_eq_true rfl⟩) (fun u H locs hp hw => ?_)
              obtain rfl := hp
              refine lv_goto (tgt := 243) hx hb dX7_reshape_187 (by decide) ?_
              exact g_vret (GG := GC cy ad) K hw (Option.some.inj hm).symm dX7_reshape_243
            · replace hm := (if_neg c66).symm.trans hm
              by_cases c71 : (S.1 22 x1 0) = 6
              · replace hm := (if_pos c71).symm.trans hm
                refine lv_tableIn (off := 174) (tgt := 190) hx hb dX7_reshape_16 (by rw [c71]; decide) (by rw [c71]; decide) (by rw [c71]; rfl) (by decide) ?_
                refine lv_aload_n hx hb dX7_reshape_190 rfl (lv_at hl 1 rfl) ?_
                refine g_get (ref := "MigrantHeap") (C := RX7) (T := TX7) (N := 11) (ci := 7) K in_X7_reshape_X7 hw 0 rfl (by decide : 0 < 1) rfl rfl 8 (by decide) (List.mem_of_getElem? (i := 1) rfl) rfl rfl dX7_reshape_191 ?_
                refine lv_iload_n hx hb dX7_reshape_194 rfl (lv_at hl 0 rfl) ?_
                obtain ⟨z73, hc72, hm⟩ := bindS hm
                refine g_calli (GG := GC cy ad) K hw (va_runV (As := [.int z50]) (rest := []) (g_fix K) (c_X4_isOwning l D cy ad H.size n S 8 z50 (by decide : 8 < 9) hc72) (cwV 1 (g_hts K) gX7_reshape_X4_isOwning rfl rfl rfl (by decide +kernel) ⟨Nat.le_of_ble_eq_true rfl, Nat.le_of_ble_eq_true rfl⟩) ⟨g_blind rides_none, g_recv K hw 3 rfl (by decide : 8 < 9) rfl rfl, g_pre (X2 := fun _ _ => True) K hw (fun _ _ _ => trivial)⟩ rfl rfl hl.1 rfl (lv_room (Nat.le_of_ble_eq_true rfl)) dX7_reshape_195 ⟨Nat.le_of_ble_eq_true rfl, Nat.le_of_ble_eq_true rfl⟩) (fun r u H locs hp hw => ?_)
                obtain ⟨rfl, hu⟩ := hp
                rw [hu] at hw
                refine lv_if_eq (tgt := 243) hx hb dX7_reshape_198 (by decide) (fun c74 => ?_) (fun c74 => ?_)
                · replace hm := (if_pos c74).symm.trans hm
                  exact g_vret (GG := GC cy ad) K hw (Option.some.inj hm).symm dX7_reshape_243
                · replace hm := (if_neg c74).symm.trans hm
                  refine lv_aload_n hx hb dX7_reshape_201 rfl (lv_at hl 1 rfl) ?_
                  refine g_get (ref := "MigrantHeap") (C := RX7) (T := TX7) (N := 11) (ci := 7) K in_X7_reshape_X7 hw 0 rfl (by decide : 0 < 1) rfl rfl 0 (by decide) (List.mem_of_getElem? (i := 6) rfl) rfl rfl dX7_reshape_202 ?_
                  refine lv_aload_n hx hb dX7_reshape_205 rfl (lv_at hl 1 rfl) ?_
                  refine g_get (ref := "MigrantHeap") (C := RX7) (T := TX7) (N := 11) (ci := 7) K in_X7_reshape_X7 hw 0 rfl (by decide : 0 < 1) rfl rfl 8 (by decide) (List.mem_of_getElem? (i := 1) rfl) rfl rfl dX7_reshape_206 ?_
                  refine g_get (ref := "MigrantHeap$Shape") (C := RX4) (T := TX4) (N := 6) (ci := 4) K in_X7_reshape_X4 hw 3 rfl (by decide : 8 < 9) rfl rfl 3 (by decide) (List.mem_of_getElem? (i := 7) rfl) rfl rfl dX7_reshape_209 ?_
                  refine lv_iload_n hx hb dX7_reshape_212 rfl (lv_at hl 0 rfl) ?_
                  obtain ⟨h75, hm⟩ := chkS hm
                  refine g_iald K hw 6 0 rfl (by decide : 8 < 9) rfl rfl h75 dX7_reshape_213 ?_
                  obtain ⟨h76, hm⟩ := chkS hm
                  refine g_aald K hw 1 4 rfl (by decide) rfl rfl h76 dX7_reshape_214 ?_
                  refine g_get (ref := "MigrantHeap$Kind") (C := RX2) (T := TX2) (N := 4) (ci := 2) K in_X7_reshape_X2 hw 2 rfl (inB_lt h76) rfl rfl 2 (by decide) (List.mem_of_getElem? (i := 8) rfl) rfl rfl dX7_reshape_215 ?_
                  refine lv_astore_n (lv' := [(3, .ref (ad 3 (2 * (S.1 8 8 z50.toNatClampNeg).toNatClampNeg))), (2, .int z50), (0, .ref (ad 0 0)), (1, .ref (ad 18 x1))]) hx hb dX7_reshape_218 rfl hl (by decide) rfl (fun ls hl => ?_)
                  refine lv_aload_n hx hb dX7_reshape_219 rfl (lv_at hl 2 rfl) ?_
                  refine g_get (ref := "MigrantHeap") (C := RX7) (T := TX7) (N := 11) (ci := 7) K in_X7_reshape_X7 hw 0 rfl (by decide : 0 < 1) rfl rfl 8 (by decide) (List.mem_of_getElem? (i := 1) rfl) rfl rfl dX7_reshape_220 ?_
                  refine lv_iconst (v := 1) hx hb dX7_reshape_223 (by decide) ?_
                  refine lv_aload_n hx hb dX7_reshape_224 rfl (lv_at hl 3 rfl) ?_
                  refine g_get (ref := "MigrantHeap$Step") (C := RX5) (T := TX5) (N := 6) (ci := 5) K in_X7_reshape_X5 hw 18 rfl hb_x1 rfl rfl 1 (by decide) (List.mem_of_getElem? (i := 2) rfl) rfl rfl dX7_reshape_225 ?_
                  refine lv_ishl hx hb dX7_reshape_228 ?_
                  obtain ⟨z78, hc77, hm⟩ := bindS hm
                  refine g_callv (GG := GC cy ad) K hw (va_runV (As := [.int (1 <<< ((S.1 23 x1 0) &&& 31))]) (rest := []) (g_fix K) (c_X4_removeAll l D cy ad H.size n S 8 (1 <<< ((S.1 23 x1 0) &&& 31)) (by decide : 8 < 9) hc77) (cwV 1 (g_hts K) gX7_reshape_X4_removeAll rfl rfl rfl (by decide +kernel) ⟨Nat.le_of_ble_eq_true rfl, Nat.le_of_ble_eq_true rfl⟩) ⟨g_blind rides_EV, g_recv K hw 3 rfl (by decide : 8 < 9) rfl rfl, g_pre K hw (g_ride rides_EV K hw)⟩ rfl rfl hl.1 rfl (lv_room (Nat.le_of_ble_eq_true rfl)) dX7_reshape_229 ⟨Nat.le_of_ble_eq_true rfl, Nat.le_of_ble_eq_true rfl⟩) (fun u H locs hp hw => ?_)
                  obtain rfl := hp
                  refine lv_aload_n hx hb dX7_reshape_232 rfl (lv_at hl 2 rfl) ?_
                  refine g_get (ref := "MigrantHeap") (C := RX7) (T := TX7) (N := 11) (ci := 7) K in_X7_reshape_X7 hw 0 rfl (by decide : 0 < 1) rfl rfl 8 (by decide) (List.mem_of_getElem? (i := 1) rfl) rfl rfl dX7_reshape_233 ?_
                  refine lv_aload_n hx hb dX7_reshape_236 rfl (lv_at hl 0 rfl) ?_
                  obtain ⟨z80, hc79, hm⟩ := bindS hm
                  refine g_callv (GG := GC cy ad) K hw (va_runV (As := [.ref (ad 3 (2 * (S.1 8 8 z50.toNatClampNeg).toNatClampNeg))]) (rest := []) (g_fix K) (c_X4_appendAll l D cy ad H.size n z78 8 (2 * (S.1 8 8 z50.toNatClampNeg).toNatClampNeg) (by decide : 8 < 9) (by have := (inB_lt h76); omega : (2 * (S.1 8 8 z50.toNatClampNeg).toNatClampNeg) < 9) hc79) (cwV 1 (g_hts K) gX7_reshape_X4_appendAll rfl rfl rfl (by decide +kernel) ⟨Nat.le_of_ble_eq_true rfl, Nat.le_of_ble_eq_true rfl⟩) ⟨g_blind rides_none, g_recv K hw 3 rfl (by decide : 8 < 9) rfl rfl, g_pre (X2 := fun _ _ => True) K hw (fun _ _ _ => trivial)⟩ rfl rfl hl.1 rfl (lv_room (Nat.le_of_ble_eq_true rfl)) dX7_reshape_237 ⟨Nat.le_of_ble_eq_true rfl, Nat.le_of_ble_eq_true rfl⟩) (fun u H locs hp hw => ?_)
                  obtain rfl := hp
                  refine lv_goto (tgt := 243) hx hb dX7_reshape_240 (by decide) ?_
                  exact g_vret (GG := GC cy ad) K hw (Option.some.inj hm).symm dX7_reshape_243
              · replace hm := (if_neg c71).symm.trans hm
                have hsw81 : Int32.toInt (S.1 22 x1 0) < 0 ∨ 6 < Int32.toInt (S.1 22 x1 0) := by
                  refine sw_out (fun k h1 h2 => ?_)
                  rcases (show k = 0 ∨ k = 1 ∨ k = 2 ∨ k = 3 ∨ k = 4 ∨ k = 5 ∨ k = 6 by omega) with rfl | rfl | rfl | rfl | rfl | rfl | rfl
                  · exact c51
                  · exact c54
                  · exact c57
                  · exact c60
                  · exact c63
                  · exact c66
                  · exact c71
                refine lv_tableOut (tgt := 243) hx hb dX7_reshape_16 hsw81 (by decide) ?_
                exact g_vret (GG := GC cy ad) K hw (Option.some.inj hm).symm dX7_reshape_243
set_option maxRecDepth 100000 in
set_option maxHeartbeats 4000000 in
theorem c_X7_reshape (l : Launch) (D : va_G) (cy : Nat → ClassId) (ad : Nat → Nat → Nat) (sz n : Nat) (S : CSt) (x1 : Nat) (hb_x1 : x1 < 6) {out : CSt} (hm : m_X7_reshape n S x1 = some out) : Met l yX7_reshape wsX7_reshape rm_X7_reshape (va_Pc [.ref (ad 0 0), .ref (ad 18 x1)] (Pre D (tysC cy) (GC cy ad S) EV sz)) (va_Qv (fun (u : CSt) => out = u) (fun u => Pst D (tysC cy) (AA (adrs (GC cy ad S)) sz) (GC cy ad u)) (AA (adrs (GC cy ad S)) sz)) 0 0 (AA (adrs (GC cy ad S)) sz) := by
  refine g_met (by decide) rfl (Nat.le_of_ble_eq_true rfl) ?_
  intro p e s m args below meth c K hw ls hl
  exact t_X7_reshape_0 (cy := cy) K n S x1 hb_x1 hm _ _ hw ls hl
end W_X7_reshape
