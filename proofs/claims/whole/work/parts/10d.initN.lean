def CZ : CSt := (fun _ _ _ => 0, fun _ _ => 0, fun _ => none)
def C0 : CSt := sI CZ 2 0 0 (-1)
set_option maxRecDepth 100000 in
set_option maxHeartbeats 8000000 in
theorem c_X7_init (l : Launch) (D : va_G) (cy : Nat → ClassId) (h0 sz : Nat) : Met l yX7_init wsX7_init rm_X7_init (va_Pc [.ref h0] (PreI D (tysC cy) [(h0, .inr (7, [.null, .int 0, .null, .null, .null, .null, .int 0, .int 0, .null, .null, .null]))] sz)) (va_Qv (fun (u : Nat → Nat → Nat) => u 0 0 = h0) (fun ad => Pst D (tysC cy) (AA [h0] sz) (GC cy ad C0)) (AA [h0] sz)) 159 1002 (AA [h0] sz) := by
  refine Met.ofW (cc := cX7_init) (maxL := 2) (ret := none) (by decide) rfl ?_
  intro p e s m args below meth c s₁ B hml hv
  obtain ⟨rfl, hsz, hP, hK, hD0, hNI⟩ := hv
  have hx := B.exec
  have hb := B.bytes
  have hr := B.returns
  have hts := atoms_spec (ws := wsX7_init) B.pre
  have hown : s.vm.findClass RX7 = some m.cls := findClass_of_methodNamed B.named
  have hlocks := B.notSynchronized
  have hin : meth.name = "<init>" := (name_of_methodNamed B.named B.method).1
  have hA : ∀ q : Nat, s.heap.size ≤ q → AA [h0] sz q := fun q h => Or.inr (by rw [← hsz]; exact h)
  have hD : va_D (AA [h0] sz) [(h0, .inr (7, [.null, .int 0, .null, .null, .null, .null, .int 0, .int 0, .null, .null, .null]))] := hD0.weaken (fun k q hq _ => by
    have hk : k < 1 := (List.getElem?_eq_some_iff.mp hq).1
    have e0 : k = 0 := by omega
    subst e0; cases hq; exact Or.inl (List.mem_singleton.mpr rfl))
  generalize AA [h0] sz = A at hD hA ⊢
  have hS : va_S A s.heap s.heap [] := va_S.rf
  have hl := lv_entry ([.ref h0]) (n := 2) (Nat.le_of_ble_eq_true rfl)
  rw [lg_entry_eq]
  generalize (lg_sl ([.ref h0]) ++ List.replicate (2 - (lg_sl ([.ref h0])).length) Slot.unset).toArray = ls at hl ⊢
  have hl : lv_has ls 2 [(0, .ref h0)] := hl
  refine lv_aload_n hx hb dX7_init_0 rfl (lv_at hl 0 rfl) ?_
  refine W.objInit hx hb hown (hts _ (List.mem_of_getElem? (i := 1) rfl)) (hts _ (List.mem_of_getElem? (i := 2) rfl)) (hts _ (List.mem_of_getElem? (i := 3) rfl)) rfl (by rw [hml]; exact hl.1) rfl dX7_init_1 (Nat.le_of_ble_eq_true rfl) (Nat.le_of_ble_eq_true rfl) ?_
  refine W.eq (g2 := F0 m 4 ls []) rfl ?_
  have inW : ∀ w ∈ u_ws RX7 TX7 11, w ∈ wsX7_init := by decide +kernel
  refine lv_aload_n hx hb dX7_init_4 rfl (lv_at hl 0 rfl) ?_
  refine lv_iconst (v := 4) hx hb dX7_init_5 (by decide) ?_
  refine l_newq (N' := 4) hx hb hown (hts _ (List.mem_of_getElem? (i := 4) rfl)) hNI.2.2.1 hK 4 rfl hP hD hS hA (by decide) (by decide) (by decide) (by first | exact Nat.le_of_ble_eq_true rfl | (show _ ≤ 159; omega)) (by first | exact Nat.le_of_ble_eq_true rfl | (show _ ≤ 1002; omega)) dX7_init_6 (fun qk H hP hD hS => ?_)
  refine va_putF (D := D) (ci := 7) (v := .ref qk) (ty := .array (.object "MigrantHeap$Kind")) (C := RX7) (T := TX7) (N := 11) hx hb hts inW tyX7 tyX7_ok nmX7 hown hK hP hD hS 0 rfl rfl 0 (by decide) (hts _ (List.mem_of_getElem? (i := 5) rfl)) (fun _ h9 => h9) rfl hin rfl (by decide +kernel) rfl rfl (Nat.le_of_ble_eq_true rfl) dX7_init_9 (fun H locs hP hD hS => ?_)
  refine lv_iconst (v := 0) hx hb dX7_init_12 (by decide) ?_
  refine lv_istore_n (lv' := [(1, .int 0), (0, .ref h0)]) hx hb dX7_init_13 rfl hl (by decide) rfl (fun ls hl => ?_)
  obtain ⟨u0, hu0⟩ : ∃ u0 : Nat → Nat → Nat, u0 = fun _ _ => 0 := ⟨_, rfl⟩
  replace hP : va_P D vwCl ((h0, .inr (7, [.ref qk, .int 0, .null, .null, .null, .null, .int 0, .int 0, .null, .null, .null])) :: (qk, .inl (cy 4, 4, .inr (.inr (.inr (.inr (fun _ => none)))))) :: ([] ++ BW (bkX2 cy) u0 0)) H := hP
  replace hD : va_D A ((h0, .inr (7, [.ref qk, .int 0, .null, .null, .null, .null, .int 0, .int 0, .null, .null, .null])) :: (qk, .inl (cy 4, 4, .inr (.inr (.inr (.inr (fun _ => none)))))) :: ([] ++ BW (bkX2 cy) u0 0)) := hD
  rw [← fil_0 u0] at hP hD
  refine lp_X7K (FS := [.ref qk, .int 0, .null, .null, .null, .null, .int 0, .int 0, .null, .null, .null]) (REST := []) hx hb hml hown hts hK hNI hA rfl (fun u1 H locs ls hP hD hS hl => ?_) 4 0 rfl u0 H locs ls hP hD hS (lv_sub hl [1, 0] rfl)
  replace hP := P_ref (g := fun k => some (u1 0 k)) (fun k hk => by simp [fil, hk]) hP
  replace hD := D_ref (e2 := .inl (cy 4, 4, .inr (.inr (.inr (.inr (fun k => some (u1 0 k))))))) hD
  replace hP : va_P D vwCl ((h0, .inr (7, [.ref qk, .int 0, .null, .null, .null, .null, .int 0, .int 0, .null, .null, .null])) :: ((qk, .inl (cy 4, 4, .inr (.inr (.inr (.inr (fun k => some (u1 0 k))))))) :: BW (bkX2 cy) u1 4)) H := hP
  replace hD : va_D A ((h0, .inr (7, [.ref qk, .int 0, .null, .null, .null, .null, .int 0, .int 0, .null, .null, .null])) :: ((qk, .inl (cy 4, 4, .inr (.inr (.inr (.inr (fun k => some (u1 0 k))))))) :: BW (bkX2 cy) u1 4)) := hD
  obtain ⟨E1, hE1⟩ : ∃ z : va_W, z = (qk, .inl (cy 4, 4, .inr (.inr (.inr (.inr (fun k => some (u1 0 k))))))) :: BW (bkX2 cy) u1 4 := ⟨_, rfl⟩
  rw [← hE1] at hP hD
  refine lv_aload_n hx hb dX7_init_38 rfl (lv_at hl 0 rfl) ?_
  refine va_new (ci := 6) (fs := [.null, .int 0, .int 0]) (C := RX6) (T := TX6) (N := 3) hx hb hts (by decide +kernel) tyX6 tyX6_ok hown (hts _ (List.mem_of_getElem? (i := 8) rfl)) (hts _ (List.mem_of_getElem? (i := 9) rfl)) (hts _ (List.mem_of_getElem? (i := 10) rfl)) hK hP hD hS hA rfl (fun j hj => by rcases (show j = 0 ∨ j = 1 ∨ j = 2 by omega) with rfl | rfl | rfl <;> rfl) (by first | exact Nat.le_of_ble_eq_true rfl | (show _ ≤ 159; omega)) (by first | exact Nat.le_of_ble_eq_true rfl | (show _ ≤ 1002; omega)) dX7_init_39 (fun qs H hP hD hS => ?_)
  refine lv_dup hx hb dX7_init_42 rfl ?_
  refine i_call (B := (h0, .inr (7, [.ref qk, .int 0, .null, .null, .null, .null, .int 0, .int 0, .null, .null, .null])) :: E1) (bk := bkX6 cy qs) hP hD hS hA (va_runI (b := qs) (As := []) (rest := [.ref qs, .ref h0]) ⟨hx, hb, hml, hown, hts⟩ (ci_X6 l D cy qs _) (cwI 0 hts gX7_init_X6_init rfl rfl rfl (hts _ (List.mem_of_getElem? (i := 10) rfl)) (hts _ (List.mem_of_getElem? (i := 47) rfl)) (hts _ (List.mem_of_getElem? (i := 48) rfl)) rfl (by decide +kernel) ⟨Nat.le_of_ble_eq_true rfl, Nat.le_of_ble_eq_true rfl⟩) ⟨i_blind, i_pre hK hNI hP hD⟩ rfl rfl hl.1 rfl (lv_room (Nat.le_of_ble_eq_true rfl)) dX7_init_43 ⟨Nat.le_of_ble_eq_true rfl, Nat.le_of_ble_eq_true rfl⟩) (fun u2 H locs hP hD hS => ?_)
  refine va_putF (D := D) (ci := 7) (v := .ref qs) (ty := .object "MigrantHeap$Store") (C := RX7) (T := TX7) (N := 11) hx hb hts inW tyX7 tyX7_ok nmX7 hown hK hP hD hS 0 rfl rfl 2 (by decide) (hts _ (List.mem_of_getElem? (i := 11) rfl)) (fun _ h9 => h9) rfl hin rfl (by decide +kernel) rfl rfl (Nat.le_of_ble_eq_true rfl) dX7_init_46 (fun H locs hP hD hS => ?_)
  replace hP : va_P D vwCl ((h0, .inr (7, [.ref qk, .int 0, .ref qs, .null, .null, .null, .int 0, .int 0, .null, .null, .null])) :: (E1 ++ bkX6 cy qs u2)) H := hP
  replace hD : va_D A ((h0, .inr (7, [.ref qk, .int 0, .ref qs, .null, .null, .null, .int 0, .int 0, .null, .null, .null])) :: (E1 ++ bkX6 cy qs u2)) := hD
  obtain ⟨E2, hE2⟩ : ∃ z : va_W, z = E1 ++ bkX6 cy qs u2 := ⟨_, rfl⟩
  rw [← hE2] at hP hD
  refine lv_aload_n hx hb dX7_init_49 rfl (lv_at hl 0 rfl) ?_
  refine lv_bipush (v := 8) hx hb dX7_init_50 (by decide) ?_
  refine l_newa (a0 := (8, .inl (fun _ => 0))) (N' := 8) hx hb (hts _ (List.mem_of_getElem? (i := 12) rfl)) (ty := .int) rfl hK 0 rfl hP hD hS hA (fun _ => rfl) (by decide) (by decide) (by decide) (Nat.le_of_ble_eq_true rfl) (Nat.le_of_ble_eq_true rfl) dX7_init_52 (fun qr H hP hD hS => ?_)
  refine va_putF (D := D) (ci := 7) (v := .ref qr) (ty := .array .int) (C := RX7) (T := TX7) (N := 11) hx hb hts inW tyX7 tyX7_ok nmX7 hown hK hP hD hS 0 rfl rfl 3 (by decide) (hts _ (List.mem_of_getElem? (i := 13) rfl)) (fun _ h9 => h9) rfl hin rfl (by decide +kernel) rfl rfl (Nat.le_of_ble_eq_true rfl) dX7_init_54 (fun H locs hP hD hS => ?_)
  replace hP : va_P D vwCl ((h0, .inr (7, [.ref qk, .int 0, .ref qs, .ref qr, .null, .null, .int 0, .int 0, .null, .null, .null])) :: (E2 ++ [(qr, .inl (cy 0, 8, .inl (fun _ => 0)))])) H := hP
  replace hD : va_D A ((h0, .inr (7, [.ref qk, .int 0, .ref qs, .ref qr, .null, .null, .int 0, .int 0, .null, .null, .null])) :: (E2 ++ [(qr, .inl (cy 0, 8, .inl (fun _ => 0)))])) := hD
  obtain ⟨E3, hE3⟩ : ∃ z : va_W, z = E2 ++ [(qr, .inl (cy 0, 8, .inl (fun _ => 0)))] := ⟨_, rfl⟩
  rw [← hE3] at hP hD
  refine lv_aload_n hx hb dX7_init_57 rfl (lv_at hl 0 rfl) ?_
  refine va_new (ci := 1) (fs := [.int 0, .null]) (C := RX1) (T := TX1) (N := 2) hx hb hts (by decide +kernel) tyX1 tyX1_ok hown (hts _ (List.mem_of_getElem? (i := 14) rfl)) (hts _ (List.mem_of_getElem? (i := 15) rfl)) (hts _ (List.mem_of_getElem? (i := 16) rfl)) hK hP hD hS hA rfl (fun j hj => by rcases (show j = 0 ∨ j = 1 by omega) with rfl | rfl <;> rfl) (by first | exact Nat.le_of_ble_eq_true rfl | (show _ ≤ 159; omega)) (by first | exact Nat.le_of_ble_eq_true rfl | (show _ ≤ 1002; omega)) dX7_init_58 (fun qf H hP hD hS => ?_)
  refine lv_dup hx hb dX7_init_61 rfl ?_
  refine i_call (B := (h0, .inr (7, [.ref qk, .int 0, .ref qs, .ref qr, .null, .null, .int 0, .int 0, .null, .null, .null])) :: E3) (bk := bkX1 cy qf) hP hD hS hA (va_runIN (host := RX7) (b := qf) (As := []) (rest := [.ref qf, .ref h0]) ⟨hx, hb, hml, hown, hts⟩ (ci_X1 l D cy qf _) ⟨va_cnB 0 hts gX7_init_X1_init_n29 rfl rfl rfl (hNI.1 (RX7, 29, yX1_init) (by simp [nlq])) (hts _ (List.mem_of_getElem? (i := 16) rfl)) (by decide +kernel) ⟨Nat.le_of_ble_eq_true rfl, Nat.le_of_ble_eq_true rfl⟩, rfl, hts _ (List.mem_of_getElem? (i := 61) rfl)⟩ ⟨i_blind, i_pre hK hNI hP hD⟩ rfl rfl hl.1 rfl (lv_room (Nat.le_of_ble_eq_true rfl)) dX7_init_62 ⟨by first | exact Nat.le_of_ble_eq_true rfl | (show _ ≤ 159; omega), by first | exact Nat.le_of_ble_eq_true rfl | (show _ ≤ 1002; omega)⟩) (fun u3 H locs hP hD hS => ?_)
  refine va_putF (D := D) (ci := 7) (v := .ref qf) (ty := .object "MigrantHeap$Formula") (C := RX7) (T := TX7) (N := 11) hx hb hts inW tyX7 tyX7_ok nmX7 hown hK hP hD hS 0 rfl rfl 4 (by decide) (hts _ (List.mem_of_getElem? (i := 17) rfl)) (fun _ h9 => h9) rfl hin rfl (by decide +kernel) rfl rfl (Nat.le_of_ble_eq_true rfl) dX7_init_65 (fun H locs hP hD hS => ?_)
  replace hP : va_P D vwCl ((h0, .inr (7, [.ref qk, .int 0, .ref qs, .ref qr, .ref qf, .null, .int 0, .int 0, .null, .null, .null])) :: (E3 ++ bkX1 cy qf u3)) H := hP
  replace hD : va_D A ((h0, .inr (7, [.ref qk, .int 0, .ref qs, .ref qr, .ref qf, .null, .int 0, .int 0, .null, .null, .null])) :: (E3 ++ bkX1 cy qf u3)) := hD
  obtain ⟨E4, hE4⟩ : ∃ z : va_W, z = E3 ++ bkX1 cy qf u3 := ⟨_, rfl⟩
  rw [← hE4] at hP hD
  refine lv_aload_n hx hb dX7_init_68 rfl (lv_at hl 0 rfl) ?_
  refine lv_bipush (v := 6) hx hb dX7_init_69 (by decide) ?_
  refine l_newq (N' := 6) hx hb hown (hts _ (List.mem_of_getElem? (i := 18) rfl)) hNI.2.2.2 hK 5 rfl hP hD hS hA (by decide) (by decide) (by decide) (by first | exact Nat.le_of_ble_eq_true rfl | (show _ ≤ 159; omega)) (by first | exact Nat.le_of_ble_eq_true rfl | (show _ ≤ 1002; omega)) dX7_init_71 (fun qt H hP hD hS => ?_)
  refine va_putF (D := D) (ci := 7) (v := .ref qt) (ty := .array (.object "MigrantHeap$Step")) (C := RX7) (T := TX7) (N := 11) hx hb hts inW tyX7 tyX7_ok nmX7 hown hK hP hD hS 0 rfl rfl 5 (by decide) (hts _ (List.mem_of_getElem? (i := 19) rfl)) (fun _ h9 => h9) rfl hin rfl (by decide +kernel) rfl rfl (Nat.le_of_ble_eq_true rfl) dX7_init_74 (fun H locs hP hD hS => ?_)
  replace hP : va_P D vwCl ((h0, .inr (7, [.ref qk, .int 0, .ref qs, .ref qr, .ref qf, .ref qt, .int 0, .int 0, .null, .null, .null])) :: (E4 ++ [(qt, .inl (cy 5, 6, .inr (.inr (.inr (.inr (fun _ => none))))))])) H := hP
  replace hD : va_D A ((h0, .inr (7, [.ref qk, .int 0, .ref qs, .ref qr, .ref qf, .ref qt, .int 0, .int 0, .null, .null, .null])) :: (E4 ++ [(qt, .inl (cy 5, 6, .inr (.inr (.inr (.inr (fun _ => none))))))])) := hD
  replace hP := P_perm (List.Perm.cons _ (List.perm_append_singleton _ E4)) hP
  replace hD := D_perm (List.Perm.cons _ (List.perm_append_singleton _ E4)) hD
  refine lv_iconst (v := 0) hx hb dX7_init_77 (by decide) ?_
  refine lv_istore_n (lv' := [(1, .int 0), (0, .ref h0)]) hx hb dX7_init_78 rfl hl (by decide) rfl (fun ls hl => ?_)
  replace hP : va_P D vwCl ((h0, .inr (7, [.ref qk, .int 0, .ref qs, .ref qr, .ref qf, .ref qt, .int 0, .int 0, .null, .null, .null])) :: (qt, .inl (cy 5, 6, .inr (.inr (.inr (.inr (fil u0 0)))))) :: (E4 ++ BW (bkX5 cy) u0 0)) H := by rw [fil_0 u0, show BW (bkX5 cy) u0 0 = [] from rfl, List.append_nil]; exact hP
  replace hD : va_D A ((h0, .inr (7, [.ref qk, .int 0, .ref qs, .ref qr, .ref qf, .ref qt, .int 0, .int 0, .null, .null, .null])) :: (qt, .inl (cy 5, 6, .inr (.inr (.inr (.inr (fil u0 0)))))) :: (E4 ++ BW (bkX5 cy) u0 0)) := by rw [fil_0 u0, show BW (bkX5 cy) u0 0 = [] from rfl, List.append_nil]; exact hD
  refine W.widen (k := 131 + 3 * 0) (n := 795 + 20 * 0) (Nat.le_of_ble_eq_true rfl) (Nat.le_of_ble_eq_true rfl) ?_
  refine lp_X7S (FS := [.ref qk, .int 0, .ref qs, .ref qr, .ref qf, .ref qt, .int 0, .int 0, .null, .null, .null]) (REST := E4) hx hb hml hown hts hK hNI hA rfl (fun u5 H locs ls hP hD hS hl => ?_) 6 0 rfl u0 H locs ls hP hD hS (lv_sub hl [0, 1] rfl)
  replace hP := P_ref (g := fun k => some (u5 0 k)) (fun k hk => by simp [fil, hk]) hP
  replace hD := D_ref (e2 := .inl (cy 5, 6, .inr (.inr (.inr (.inr (fun k => some (u5 0 k))))))) hD
  replace hP : va_P D vwCl ((h0, .inr (7, [.ref qk, .int 0, .ref qs, .ref qr, .ref qf, .ref qt, .int 0, .int 0, .null, .null, .null])) :: ((qt, .inl (cy 5, 6, .inr (.inr (.inr (.inr (fun k => some (u5 0 k))))))) :: (E4 ++ BW (bkX5 cy) u5 6))) H := hP
  replace hD : va_D A ((h0, .inr (7, [.ref qk, .int 0, .ref qs, .ref qr, .ref qf, .ref qt, .int 0, .int 0, .null, .null, .null])) :: ((qt, .inl (cy 5, 6, .inr (.inr (.inr (.inr (fun k => some (u5 0 k))))))) :: (E4 ++ BW (bkX5 cy) u5 6))) := hD
  obtain ⟨E5, hE5⟩ : ∃ z : va_W, z = (qt, .inl (cy 5, 6, .inr (.inr (.inr (.inr (fun k => some (u5 0 k))))))) :: (E4 ++ BW (bkX5 cy) u5 6) := ⟨_, rfl⟩
  rw [← hE5] at hP hD
  refine lv_aload_n hx hb dX7_init_104 rfl (lv_at hl 0 rfl) ?_
  refine lv_iconst (v := (-1)) hx hb dX7_init_105 (by decide) ?_
  refine va_put (D := D) (ci := 7) (v := .int (-1)) (ty := .int) (C := RX7) (T := TX7) (N := 11) hx hb hts inW tyX7 tyX7_ok nmX7 hown hK hP hD hS 0 rfl rfl 7 (by decide) (hts _ (List.mem_of_getElem? (i := 22) rfl)) (fun _ h9 => h9) rfl (by decide +kernel) rfl rfl (Nat.le_of_ble_eq_true rfl) dX7_init_106 (fun H locs hP hD hS => ?_)
  replace hP : va_P D vwCl ((h0, .inr (7, [.ref qk, .int 0, .ref qs, .ref qr, .ref qf, .ref qt, .int 0, .int (-1), .null, .null, .null])) :: (E5)) H := hP
  replace hD : va_D A ((h0, .inr (7, [.ref qk, .int 0, .ref qs, .ref qr, .ref qf, .ref qt, .int 0, .int (-1), .null, .null, .null])) :: (E5)) := hD
  refine lv_aload_n hx hb dX7_init_109 rfl (lv_at hl 0 rfl) ?_
  refine va_new (ci := 4) (fs := [.int 0, .null, .null, .null, .null, .null]) (C := RX4) (T := TX4) (N := 6) hx hb hts (by decide +kernel) tyX4 tyX4_ok hown (hts _ (List.mem_of_getElem? (i := 23) rfl)) (hts _ (List.mem_of_getElem? (i := 24) rfl)) (hts _ (List.mem_of_getElem? (i := 25) rfl)) hK hP hD hS hA rfl (fun j hj => by rcases (show j = 0 ∨ j = 1 ∨ j = 2 ∨ j = 3 ∨ j = 4 ∨ j = 5 by omega) with rfl | rfl | rfl | rfl | rfl | rfl <;> rfl) (by first | exact Nat.le_of_ble_eq_true rfl | (show _ ≤ 159; omega)) (by first | exact Nat.le_of_ble_eq_true rfl | (show _ ≤ 1002; omega)) dX7_init_110 (fun qd H hP hD hS => ?_)
  refine lv_dup hx hb dX7_init_113 rfl ?_
  refine i_call (B := (h0, .inr (7, [.ref qk, .int 0, .ref qs, .ref qr, .ref qf, .ref qt, .int 0, .int (-1), .null, .null, .null])) :: E5) (bk := bkX4 cy qd) hP hD hS hA (va_runIN (host := RX7) (b := qd) (As := []) (rest := [.ref qd, .ref h0]) ⟨hx, hb, hml, hown, hts⟩ (ci_X4 l D cy qd _) ⟨va_cnB 0 hts gX7_init_X4_init_n47 rfl rfl rfl (hNI.1 (RX7, 47, yX4_init) (by simp [nlq])) (hts _ (List.mem_of_getElem? (i := 25) rfl)) (by decide +kernel) ⟨Nat.le_of_ble_eq_true rfl, Nat.le_of_ble_eq_true rfl⟩, rfl, hts _ (List.mem_of_getElem? (i := 39) rfl)⟩ ⟨i_blind, i_pre hK hNI hP hD⟩ rfl rfl hl.1 rfl (lv_room (Nat.le_of_ble_eq_true rfl)) dX7_init_114 ⟨by first | exact Nat.le_of_ble_eq_true rfl | (show _ ≤ 159; omega), by first | exact Nat.le_of_ble_eq_true rfl | (show _ ≤ 1002; omega)⟩) (fun u6 H locs hP hD hS => ?_)
  refine va_putF (D := D) (ci := 7) (v := .ref qd) (ty := .object "MigrantHeap$Shape") (C := RX7) (T := TX7) (N := 11) hx hb hts inW tyX7 tyX7_ok nmX7 hown hK hP hD hS 0 rfl rfl 8 (by decide) (hts _ (List.mem_of_getElem? (i := 26) rfl)) (fun _ h9 => h9) rfl hin rfl (by decide +kernel) rfl rfl (Nat.le_of_ble_eq_true rfl) dX7_init_117 (fun H locs hP hD hS => ?_)
  replace hP : va_P D vwCl ((h0, .inr (7, [.ref qk, .int 0, .ref qs, .ref qr, .ref qf, .ref qt, .int 0, .int (-1), .ref qd, .null, .null])) :: (E5 ++ bkX4 cy qd u6)) H := hP
  replace hD : va_D A ((h0, .inr (7, [.ref qk, .int 0, .ref qs, .ref qr, .ref qf, .ref qt, .int 0, .int (-1), .ref qd, .null, .null])) :: (E5 ++ bkX4 cy qd u6)) := hD
  obtain ⟨E6, hE6⟩ : ∃ z : va_W, z = E5 ++ bkX4 cy qd u6 := ⟨_, rfl⟩
  rw [← hE6] at hP hD
  refine lv_aload_n hx hb dX7_init_120 rfl (lv_at hl 0 rfl) ?_
  refine va_new (ci := 3) (fs := [.int 0, .null, .null]) (C := RX3) (T := TX3) (N := 3) hx hb hts (by decide +kernel) tyX3 tyX3_ok hown (hts _ (List.mem_of_getElem? (i := 27) rfl)) (hts _ (List.mem_of_getElem? (i := 28) rfl)) (hts _ (List.mem_of_getElem? (i := 29) rfl)) hK hP hD hS hA rfl (fun j hj => by rcases (show j = 0 ∨ j = 1 ∨ j = 2 by omega) with rfl | rfl | rfl <;> rfl) (by first | exact Nat.le_of_ble_eq_true rfl | (show _ ≤ 159; omega)) (by first | exact Nat.le_of_ble_eq_true rfl | (show _ ≤ 1002; omega)) dX7_init_121 (fun qp H hP hD hS => ?_)
  refine lv_dup hx hb dX7_init_124 rfl ?_
  refine i_call (B := (h0, .inr (7, [.ref qk, .int 0, .ref qs, .ref qr, .ref qf, .ref qt, .int 0, .int (-1), .ref qd, .null, .null])) :: E6) (bk := bkX3 cy qp) hP hD hS hA (va_runIN (host := RX7) (b := qp) (As := []) (rest := [.ref qp, .ref h0]) ⟨hx, hb, hml, hown, hts⟩ (ci_X3 l D cy qp _) ⟨va_cnB 0 hts gX7_init_X3_init_n54 rfl rfl rfl (hNI.1 (RX7, 54, yX3_init) (by simp [nlq])) (hts _ (List.mem_of_getElem? (i := 29) rfl)) (by decide +kernel) ⟨Nat.le_of_ble_eq_true rfl, Nat.le_of_ble_eq_true rfl⟩, rfl, hts _ (List.mem_of_getElem? (i := 70) rfl)⟩ ⟨i_blind, i_pre hK hNI hP hD⟩ rfl rfl hl.1 rfl (lv_room (Nat.le_of_ble_eq_true rfl)) dX7_init_125 ⟨by first | exact Nat.le_of_ble_eq_true rfl | (show _ ≤ 159; omega), by first | exact Nat.le_of_ble_eq_true rfl | (show _ ≤ 1002; omega)⟩) (fun u7 H locs hP hD hS => ?_)
  refine va_putF (D := D) (ci := 7) (v := .ref qp) (ty := .object "MigrantHeap$Pile") (C := RX7) (T := TX7) (N := 11) hx hb hts inW tyX7 tyX7_ok nmX7 hown hK hP hD hS 0 rfl rfl 9 (by decide) (hts _ (List.mem_of_getElem? (i := 30) rfl)) (fun _ h9 => h9) rfl hin rfl (by decide +kernel) rfl rfl (Nat.le_of_ble_eq_true rfl) dX7_init_128 (fun H locs hP hD hS => ?_)
  replace hP : va_P D vwCl ((h0, .inr (7, [.ref qk, .int 0, .ref qs, .ref qr, .ref qf, .ref qt, .int 0, .int (-1), .ref qd, .ref qp, .null])) :: (E6 ++ bkX3 cy qp u7)) H := hP
  replace hD : va_D A ((h0, .inr (7, [.ref qk, .int 0, .ref qs, .ref qr, .ref qf, .ref qt, .int 0, .int (-1), .ref qd, .ref qp, .null])) :: (E6 ++ bkX3 cy qp u7)) := hD
  obtain ⟨E7, hE7⟩ : ∃ z : va_W, z = E6 ++ bkX3 cy qp u7 := ⟨_, rfl⟩
  rw [← hE7] at hP hD
  refine lv_aload_n hx hb dX7_init_131 rfl (lv_at hl 0 rfl) ?_
  refine lv_bipush (v := 24) hx hb dX7_init_132 (by decide) ?_
  refine l_newq (N' := 24) hx hb hown (hts _ (List.mem_of_getElem? (i := 31) rfl)) hNI.2.1 hK 3 rfl hP hD hS hA (by decide) (by decide) (by decide) (by first | exact Nat.le_of_ble_eq_true rfl | (show _ ≤ 159; omega)) (by first | exact Nat.le_of_ble_eq_true rfl | (show _ ≤ 1002; omega)) dX7_init_134 (fun ql H hP hD hS => ?_)
  refine va_putF (D := D) (ci := 7) (v := .ref ql) (ty := .array (.object "MigrantHeap$Entry")) (C := RX7) (T := TX7) (N := 11) hx hb hts inW tyX7 tyX7_ok nmX7 hown hK hP hD hS 0 rfl rfl 10 (by decide) (hts _ (List.mem_of_getElem? (i := 32) rfl)) (fun _ h9 => h9) rfl hin rfl (by decide +kernel) rfl rfl (Nat.le_of_ble_eq_true rfl) dX7_init_137 (fun H locs hP hD hS => ?_)
  replace hP : va_P D vwCl ((h0, .inr (7, [.ref qk, .int 0, .ref qs, .ref qr, .ref qf, .ref qt, .int 0, .int (-1), .ref qd, .ref qp, .ref ql])) :: (E7 ++ [(ql, .inl (cy 3, 24, .inr (.inr (.inr (.inr (fun _ => none))))))])) H := hP
  replace hD : va_D A ((h0, .inr (7, [.ref qk, .int 0, .ref qs, .ref qr, .ref qf, .ref qt, .int 0, .int (-1), .ref qd, .ref qp, .ref ql])) :: (E7 ++ [(ql, .inl (cy 3, 24, .inr (.inr (.inr (.inr (fun _ => none))))))])) := hD
  obtain ⟨ad, had⟩ : ∃ ad : Nat → Nat → Nat, ad = fun g i => [(fun _ => h0 : Nat → Nat), (fun _ => qk : Nat → Nat), (fun i => u1 0 i : Nat → Nat), (fun j => [u1 1 0, u1 7 0, u1 1 1, u1 7 1, u1 1 2, u1 7 2, u1 1 3, u1 7 3, qd].getD j 0 : Nat → Nat), (fun j => [u1 2 0, u1 8 0, u1 2 1, u1 8 1, u1 2 2, u1 8 2, u1 2 3, u1 8 3, u6 1 0].getD j 0 : Nat → Nat), (fun j => [u1 3 0, u1 9 0, u1 3 1, u1 9 1, u1 3 2, u1 9 2, u1 3 3, u1 9 3, u6 2 0].getD j 0 : Nat → Nat), (fun j => [u1 4 0, u1 10 0, u1 4 1, u1 10 1, u1 4 2, u1 10 2, u1 4 3, u1 10 3, u6 3 0].getD j 0 : Nat → Nat), (fun j => [u1 5 0, u1 11 0, u1 5 1, u1 11 1, u1 5 2, u1 11 2, u1 5 3, u1 11 3, u6 4 0].getD j 0 : Nat → Nat), (fun j => [u1 6 0, u1 12 0, u1 6 1, u1 12 1, u1 6 2, u1 12 2, u1 6 3, u1 12 3, u6 5 0].getD j 0 : Nat → Nat), (fun _ => qs : Nat → Nat), (fun _ => u2 9 0 : Nat → Nat), (fun i => u2 0 i : Nat → Nat), (fun i => u2 1 i : Nat → Nat), (fun i => u2 2 i : Nat → Nat), (fun _ => qr : Nat → Nat), (fun j => [u5 1 0, u5 1 1, u5 1 2, u5 1 3, u5 1 4, u5 1 5, qf].getD j 0 : Nat → Nat), (fun j => [u5 2 0, u5 2 1, u5 2 2, u5 2 3, u5 2 4, u5 2 5, u3 1 0].getD j 0 : Nat → Nat), (fun _ => qt : Nat → Nat), (fun i => u5 0 i : Nat → Nat), (fun _ => qp : Nat → Nat), (fun _ => u7 1 0 : Nat → Nat), (fun _ => u7 2 0 : Nat → Nat), (fun _ => ql : Nat → Nat)].getD g (fun _ => 0) i := ⟨_, rfl⟩
  rw [hE7, hE6, hE5, hE4, hE3, hE2, hE1] at hP hD
  sorry
