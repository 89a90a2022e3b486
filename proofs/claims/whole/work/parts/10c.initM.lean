/-! ===== worlds in another order; arrays of references by what they show ===== -/
theorem P_iff {D : va_G} {cl : List vw_C} {ws : va_W} {H : Heap} : va_P D cl ws H ↔ ∀ q ∈ ws, va_at D cl q H :=
  ⟨fun h q hq => by obtain ⟨k, hk⟩ := List.getElem?_of_mem hq; exact h k q hk, fun h k q hk => h q (List.mem_of_getElem? hk)⟩
theorem P_perm {D : va_G} {cl : List vw_C} {w1 w2 : va_W} {H : Heap} (hp : w1.Perm w2) (h : va_P D cl w1 H) : va_P D cl w2 H := P_iff.mpr (fun q hq => P_iff.mp h q (hp.mem_iff.mpr hq))
theorem D_iff {A : Nat → Prop} {ws : va_W} : va_D A ws ↔ (ws.map (fun q => q.1)).Nodup ∧ ∀ q ∈ ws, A q.1 := by
  constructor
  · intro h
    refine ⟨?_, fun q hq => by obtain ⟨k, hk⟩ := List.getElem?_of_mem hq; exact h.2 k q hk⟩
    unfold List.Nodup
    rw [List.pairwise_iff_getElem]
    intro i j hi hj hlt he
    rw [List.length_map] at hi hj
    rw [List.getElem_map, List.getElem_map] at he
    have := h.1 i j _ _ (List.getElem?_eq_getElem hi) (List.getElem?_eq_getElem hj) he
    omega
  · intro h
    refine ⟨fun i j p q hi hj e => ?_, fun k q hk => h.2 q (List.mem_of_getElem? hk)⟩
    have hil := lt_of_get hi
    have e1 : (ws.map (fun q => q.1))[i]? = (ws.map (fun q => q.1))[j]? := by
      rw [List.getElem?_map, List.getElem?_map, hi, hj]
      simp [e]
    exact (List.getElem?_inj (by rw [List.length_map]; exact hil) h.1).mp e1
theorem D_perm {A : Nat → Prop} {w1 w2 : va_W} (hp : w1.Perm w2) (h : va_D A w1) : va_D A w2 := by
  rw [D_iff] at h ⊢
  exact ⟨(hp.map _).nodup_iff.mp h.1, fun q hq => h.2 q (hp.mem_iff.mpr hq)⟩
theorem D_same {A : Nat → Prop} {w1 w2 : va_W} (hm : w1.map (fun q => q.1) = w2.map (fun q => q.1)) (h : va_D A w1) : va_D A w2 := by
  rw [D_iff] at h ⊢
  rw [← hm]
  refine ⟨h.1, fun q hq => ?_⟩
  have : q.1 ∈ w1.map (fun q => q.1) := by rw [hm]; exact List.mem_map.mpr ⟨q, hq, rfl⟩
  obtain ⟨z, hz, e⟩ := List.mem_map.mp this
  rw [← e]; exact h.2 z hz
theorem arrV_eq {cA : ClassId} {n : Nat} {f g : Nat → Value} (h : ∀ k, k < n → f k = g k) : arrV cA n f = arrV cA n g := by
  unfold arrV
  have e : (fun j : Fin n => f j.val) = fun j => g j.val := funext (fun j => h j.val j.isLt)
  rw [e]
theorem P_ref {D : va_G} {cl : List vw_C} {a0 : Nat × va_E} {a : Nat} {cA : ClassId} {n : Nat} {f g : Nat → Option Nat} {L : va_W} {H : Heap} (hfg : ∀ k, k < n → f k = g k) (h : va_P D cl (a0 :: (a, .inl (cA, n, .inr (.inr (.inr (.inr f))))) :: L) H) : va_P D cl (a0 :: (a, .inl (cA, n, .inr (.inr (.inr (.inr g))))) :: L) H := by
  rw [P_iff] at h ⊢
  intro q hq
  rcases List.mem_cons.mp hq with rfl | hq
  · exact h _ List.mem_cons_self
  · rcases List.mem_cons.mp hq with rfl | hq
    · have h1 := h _ (List.mem_cons_of_mem _ List.mem_cons_self)
      have e : vp_cell cA (n, .inr (.inr (.inr (.inr f)))) = vp_cell cA (n, .inr (.inr (.inr (.inr g)))) := by
        rw [vp_cell_q, vp_cell_q]
        exact arrV_eq (fun k hk => by rw [hfg k hk])
      show H[a]? = some (vp_cell cA (n, .inr (.inr (.inr (.inr g)))))
      rw [← e]; exact h1
    · exact h q (List.mem_cons_of_mem _ (List.mem_cons_of_mem _ hq))
theorem D_ref {A : Nat → Prop} {a0 : Nat × va_E} {a : Nat} {e1 e2 : va_E} {L : va_W} (h : va_D A (a0 :: (a, e1) :: L)) : va_D A (a0 :: (a, e2) :: L) := D_same (w1 := a0 :: (a, e1) :: L) rfl h
def bkX6 (cy : Nat → ClassId) (h : Nat) (u : Nat → Nat → Nat) : va_W := (h, Sum.inr (6, [Value.ref (u 9 0), Value.int 0, Value.int 0])) :: (u 9 0, Sum.inl (cy 3, 24, Sum.inr (Sum.inr (Sum.inr (Sum.inr (fun k => some (u 0 k))))))) :: BW (bkX0 cy) u 24
set_option maxRecDepth 100000 in
set_option maxHeartbeats 8000000 in
theorem ci_X6 (l : Launch) (D : va_G) (cy : Nat → ClassId) (h0 sz : Nat) : Met l yX6_init wsX6_init rm_X6_init (va_Pc [.ref h0] (PreI D (tysC cy) [(h0, .inr (6, [.null, .int 0, .int 0]))] sz)) (va_Qv (fun _ : Nat → Nat → Nat => True) (fun u => PstI D (tysC cy) (AA [h0] sz) (bkX6 cy h0 u)) (AA [h0] sz)) 73 456 (AA [h0] sz) := by
  refine Met.ofW (cc := cX6_init) (maxL := 2) (ret := none) (by decide) rfl ?_
  intro p e s m args below meth c s₁ B hml hv
  obtain ⟨rfl, hsz, hP, hK, hD0, hNI⟩ := hv
  have hx := B.exec
  have hb := B.bytes
  have hr := B.returns
  have hts := atoms_spec (ws := wsX6_init) B.pre
  have hown : s.vm.findClass RX6 = some m.cls := findClass_of_methodNamed B.named
  have hlocks := B.notSynchronized
  have hin : meth.name = "<init>" := (name_of_methodNamed B.named B.method).1
  have hA : ∀ q : Nat, s.heap.size ≤ q → AA [h0] sz q := fun q h => Or.inr (by rw [← hsz]; exact h)
  have hD : va_D (AA [h0] sz) [(h0, .inr (6, [.null, .int 0, .int 0]))] := hD0.weaken (fun k q hq _ => by
    have hk : k < 1 := (List.getElem?_eq_some_iff.mp hq).1
    have e0 : k = 0 := by omega
    subst e0; cases hq; exact Or.inl (List.mem_singleton.mpr rfl))
  generalize AA [h0] sz = A at hD hA ⊢
  have hS : va_S A s.heap s.heap [] := va_S.rf
  have hl := lv_entry ([.ref h0]) (n := 2) (Nat.le_of_ble_eq_true rfl)
  rw [lg_entry_eq]
  generalize (lg_sl ([.ref h0]) ++ List.replicate (2 - (lg_sl ([.ref h0])).length) Slot.unset).toArray = ls at hl ⊢
  have hl : lv_has ls 2 [(0, .ref h0)] := hl
  refine lv_aload_n hx hb dX6_init_0 rfl (lv_at hl 0 rfl) ?_
  refine W.objInit hx hb hown (hts _ (List.mem_of_getElem? (i := 1) rfl)) (hts _ (List.mem_of_getElem? (i := 2) rfl)) (hts _ (List.mem_of_getElem? (i := 3) rfl)) rfl (by rw [hml]; exact hl.1) rfl dX6_init_1 (Nat.le_of_ble_eq_true rfl) (Nat.le_of_ble_eq_true rfl) ?_
  refine W.eq (g2 := F0 m 4 ls []) rfl ?_
  have inW : ∀ w ∈ u_ws RX6 TX6 3, w ∈ wsX6_init := by decide +kernel
  refine lv_aload_n hx hb dX6_init_4 rfl (lv_at hl 0 rfl) ?_
  refine lv_bipush (v := 24) hx hb dX6_init_5 (by decide) ?_
  refine l_newq (N' := 24) hx hb hown (hts _ (List.mem_of_getElem? (i := 4) rfl)) hNI.2.1 hK 3 rfl hP hD hS hA (by decide) (by decide) (by decide) (Nat.le_of_ble_eq_true rfl) (Nat.le_of_ble_eq_true rfl) dX6_init_7 (fun qa H hP hD hS => ?_)
  refine va_putF (D := D) (ci := 6) (v := .ref qa) (ty := .array (.object "MigrantHeap$Entry")) (C := RX6) (T := TX6) (N := 3) hx hb hts inW tyX6 tyX6_ok nmX6 hown hK hP hD hS 0 rfl rfl 0 (by decide) (hts _ (List.mem_of_getElem? (i := 5) rfl)) (fun _ h9 => h9) rfl hin rfl (by decide +kernel) rfl rfl (Nat.le_of_ble_eq_true rfl) dX6_init_10 (fun H locs hP hD hS => ?_)
  refine lv_aload_n hx hb dX6_init_13 rfl (lv_at hl 0 rfl) ?_
  refine lv_iconst (v := 0) hx hb dX6_init_14 (by decide) ?_
  refine va_put (D := D) (ci := 6) (v := .int 0) (ty := .int) (C := RX6) (T := TX6) (N := 3) hx hb hts inW tyX6 tyX6_ok nmX6 hown hK hP hD hS 0 rfl rfl 2 (by decide) (hts _ (List.mem_of_getElem? (i := 6) rfl)) (fun _ h9 => h9) rfl (by decide +kernel) rfl rfl (Nat.le_of_ble_eq_true rfl) dX6_init_15 (fun H locs hP hD hS => ?_)
  refine lv_iconst (v := 0) hx hb dX6_init_18 (by decide) ?_
  refine lv_istore_n (lv' := [(1, .int 0), (0, .ref h0)]) hx hb dX6_init_19 rfl hl (by decide) rfl (fun ls hl => ?_)
  obtain ⟨u0, hu0⟩ : ∃ u0 : Nat → Nat → Nat, u0 = fun _ _ => 0 := ⟨_, rfl⟩
  replace hP : va_P D vwCl ((h0, .inr (6, [.ref qa, .int 0, .int 0])) :: (qa, .inl (cy 3, 24, .inr (.inr (.inr (.inr (fun _ => none)))))) :: ([] ++ BW (bkX0 cy) u0 0)) H := hP
  replace hD : va_D A ((h0, .inr (6, [.ref qa, .int 0, .int 0])) :: (qa, .inl (cy 3, 24, .inr (.inr (.inr (.inr (fun _ => none)))))) :: ([] ++ BW (bkX0 cy) u0 0)) := hD
  rw [← fil_0 u0] at hP hD
  refine lp_X6 (FS := [.ref qa, .int 0, .int 0]) (REST := []) hx hb hml hown hts hK hNI hA rfl (fun u H locs ls hP hD hS hl => ?_) 24 0 rfl u0 H locs ls hP hD hS (lv_sub hl [1, 0] rfl)
  obtain ⟨w, hw⟩ : ∃ w : Nat → Nat → Nat, w = fun c j => if c = 9 then qa else u c j := ⟨_, rfl⟩
  have hP9 : va_P D vwCl (bkX6 cy h0 w) H := by
    rw [hw]
    exact P_ref (g := fun k => some (u 0 k)) (fun k hk => by simp [fil, hk]) hP
  have hD9 : va_D A (bkX6 cy h0 w) := by
    rw [hw]
    exact D_ref hD
  refine W.widen (k := 73) (n := 456) (Nat.le_of_ble_eq_true rfl) (Nat.le_of_ble_eq_true rfl) ?_
  exact W.vret hx hb hr (fun t ht hW => ⟨⟨w, rfl, trivial, by rw [ht]; exact hP9, va_K.moved hW.alike hK, hD9⟩, hS.F ht⟩) hS.2.2 dX6_init_45
set_option maxRecDepth 100000 in
set_option maxHeartbeats 8000000 in
theorem lp_X7K {p : Program} {l : Launch} {e : Env} {s : State} {m : MethodId} {args : Array Value} {below : List Frame} {meth : Method} {c : Code} {D : va_G} {A : Nat → Prop} {cy : Nat → ClassId} {h0 qa : Nat} {FS : List Value} {REST : va_W} {Q : State → Prop} (hx : p.tables.exec = Jvm.exec) (hb : c.code = cX7_init) (hml : c.maxLocals = 2) (hown : s.vm.findClass RX7 = some m.cls) (hts : ∀ w ∈ wsX7_init, w.before args s = true) (hK : va_K D vwCl (tysC cy) s) (hNI : NI s) (hA : ∀ q, s.heap.size ≤ q → A q) (hf : FS[0]? = some (.ref qa))
    (hE : ∀ (u : Nat → Nat → Nat) (H : Heap) (locs : List Loc) (ls : Array Slot), va_P D vwCl ((h0, .inr (7, FS)) :: (qa, .inl (cy 4, 4, .inr (.inr (.inr (.inr (fil u 4)))))) :: (REST ++ BW (bkX2 cy) u 4)) H → va_D A ((h0, .inr (7, FS)) :: (qa, .inl (cy 4, 4, .inr (.inr (.inr (.inr (fil u 4)))))) :: (REST ++ BW (bkX2 cy) u 4)) → va_S A s.heap H locs → lv_has ls 2 [(0, .ref h0), (1, .int (nI 4))] → W p l e rm_X7_init s m args below meth c H locs (1 + 13 * 4) (4 + 76 * 4) Q (F0 m 38 ls [])) :
    ∀ (r i : Nat), i + r = 4 → ∀ (u : Nat → Nat → Nat) (H : Heap) (locs : List Loc) (ls : Array Slot), va_P D vwCl ((h0, .inr (7, FS)) :: (qa, .inl (cy 4, 4, .inr (.inr (.inr (.inr (fil u i)))))) :: (REST ++ BW (bkX2 cy) u i)) H → va_D A ((h0, .inr (7, FS)) :: (qa, .inl (cy 4, 4, .inr (.inr (.inr (.inr (fil u i)))))) :: (REST ++ BW (bkX2 cy) u i)) → va_S A s.heap H locs → lv_has ls 2 [(0, .ref h0), (1, .int (nI i))] → W p l e rm_X7_init s m args below meth c H locs (1 + 13 * i) (4 + 76 * i) Q (F0 m 14 ls []) := by
  intro r
  induction r with
  | zero =>
    intro i hi u H locs ls hP hD hS hl
    have e0 : i = 4 := by omega
    subst e0
    refine lv_iload_n hx hb dX7_init_14 rfl (lv_at hl 1 rfl) ?_
    refine lv_iconst (v := 4) hx hb dX7_init_15 (by decide) ?_
    refine lv_icmp_ge (tgt := 38) hx hb dX7_init_16 (by decide) (fun c1 => ?_) (fun c1 => ?_)
    · exact hE u H locs ls hP hD hS hl
    · exact absurd (by decide) c1
  | succ r ih =>
    intro i hi u H locs ls hP hD hS hl
    have hlt : i < 4 := by omega
    refine lv_iload_n hx hb dX7_init_14 rfl (lv_at hl 1 rfl) ?_
    refine lv_iconst (v := 4) hx hb dX7_init_15 (by decide) ?_
    refine lv_icmp_ge (tgt := 38) hx hb dX7_init_16 (by decide) (fun c1 => ?_) (fun c1 => ?_)
    · exact absurd c1 (nI_ge (b := 4) hlt (by decide))
    · refine lv_aload_n hx hb dX7_init_19 rfl (lv_at hl 0 rfl) ?_
      refine va_get (D := D) (ci := 7) (v := .ref qa) (C := RX7) (T := TX7) (N := 11) hx hb hts (by decide +kernel) hown hK hP 0 rfl rfl 0 (by decide) (hts _ (List.mem_of_getElem? (i := 5) rfl)) (fun _ h9 => h9) hf dX7_init_20 ?_
      refine lv_iload_n hx hb dX7_init_23 rfl (lv_at hl 1 rfl) ?_
      refine va_new (ci := 2) (fs := [.int 0, .int 0, .null, .null]) (C := RX2) (T := TX2) (N := 4) hx hb hts (by decide +kernel) tyX2 tyX2_ok hown (hts _ (List.mem_of_getElem? (i := 4) rfl)) (hts _ (List.mem_of_getElem? (i := 6) rfl)) (hts _ (List.mem_of_getElem? (i := 7) rfl)) hK hP hD hS hA rfl (fun j hj => by rcases (show j = 0 ∨ j = 1 ∨ j = 2 ∨ j = 3 by omega) with rfl | rfl | rfl | rfl <;> rfl) (by first | exact Nat.le_of_ble_eq_true rfl | (show _ ≤ 159; omega)) (by first | exact Nat.le_of_ble_eq_true rfl | (show _ ≤ 1002; omega)) dX7_init_24 (fun q H hP hD hS => ?_)
      refine lv_dup hx hb dX7_init_27 rfl ?_
      refine i_call (B := (h0, .inr (7, FS)) :: (qa, .inl (cy 4, 4, .inr (.inr (.inr (.inr (fil u i)))))) :: (REST ++ BW (bkX2 cy) u i)) (bk := bkX2 cy q) hP hD hS hA (va_runIN (host := RX7) (b := q) (As := []) (rest := [.ref q, .int (nI i), .ref qa]) ⟨hx, hb, hml, hown, hts⟩ (ci_X2 l D cy q _) ⟨va_cnB 0 hts gX7_init_X2_init_n15 rfl rfl rfl (hNI.1 (RX7, 15, yX2_init) (by simp [nlq])) (hts _ (List.mem_of_getElem? (i := 7) rfl)) (by decide +kernel) ⟨Nat.le_of_ble_eq_true rfl, Nat.le_of_ble_eq_true rfl⟩, rfl, hts _ (List.mem_of_getElem? (i := 33) rfl)⟩ ⟨i_blind, i_pre hK hNI hP hD⟩ rfl rfl hl.1 rfl (lv_room (Nat.le_of_ble_eq_true rfl)) dX7_init_28 ⟨by first | exact Nat.le_of_ble_eq_true rfl | (show _ ≤ 159; omega), by first | exact Nat.le_of_ble_eq_true rfl | (show _ ≤ 1002; omega)⟩) (fun v H locs hP hD hS => ?_)
      refine va_astq (cA := cy 4) (n := 4) (f := fil u i) (r := (RX2, TX2, 4)) (vs := [.int 0, .int 0, .ref (v 1 0), .ref (v 7 0)]) hx hb hK hP hD hS 1 4 _ 2 rfl rfl (get_mid ((h0, .inr (7, FS)) :: (qa, .inl (cy 4, 4, .inr (.inr (.inr (.inr (fil u i)))))) :: (REST ++ BW (bkX2 cy) u i)) rfl) rfl (vp_in_nI hlt (by decide)) dX7_init_31 (fun H locs hP hD hS => ?_)
      have hcl : (nI i).toNatClampNeg = i := nI_clamp (by omega)
      rw [hcl, fil_succ u i q v] at hP hD
      replace hP : va_P D vwCl ((h0, .inr (7, FS)) :: (qa, .inl (cy 4, 4, .inr (.inr (.inr (.inr (fil (up0 u i q v) (i + 1))))))) :: ((REST ++ BW (bkX2 cy) u i) ++ bkX2 cy q v)) H := hP
      replace hD : va_D A ((h0, .inr (7, FS)) :: (qa, .inl (cy 4, 4, .inr (.inr (.inr (.inr (fil (up0 u i q v) (i + 1))))))) :: ((REST ++ BW (bkX2 cy) u i) ++ bkX2 cy q v)) := hD
      rw [List.append_assoc, ← BW_succ (bkX2_c cy) u i q v] at hP hD
      obtain ⟨x1, hx1⟩ : ∃ y : Int32, y = nI i + 1 := ⟨_, rfl⟩
      refine lv_iinc (v := x1) (lv' := [(1, .int x1), (0, .ref h0)]) hx hb dX7_init_32 hl (k := 1) rfl (by rw [hx1]; rfl) (by decide) rfl (fun ls hl => ?_)
      refine lv_goto (tgt := 14) hx hb dX7_init_35 (by decide) ?_
      rw [hx1, nI_1] at hl
      refine W.widen (k := 1 + 13 * (i + 1)) (n := 4 + 76 * (i + 1)) (by omega) (by omega) ?_
      exact ih (i + 1) (by omega) (up0 u i q v) H locs ls hP hD hS (lv_sub hl [1, 0] rfl)
set_option maxRecDepth 100000 in
set_option maxHeartbeats 8000000 in
theorem lp_X7S {p : Program} {l : Launch} {e : Env} {s : State} {m : MethodId} {args : Array Value} {below : List Frame} {meth : Method} {c : Code} {D : va_G} {A : Nat → Prop} {cy : Nat → ClassId} {h0 qa : Nat} {FS : List Value} {REST : va_W} {Q : State → Prop} (hx : p.tables.exec = Jvm.exec) (hb : c.code = cX7_init) (hml : c.maxLocals = 2) (hown : s.vm.findClass RX7 = some m.cls) (hts : ∀ w ∈ wsX7_init, w.before args s = true) (hK : va_K D vwCl (tysC cy) s) (hNI : NI s) (hA : ∀ q, s.heap.size ≤ q → A q) (hf : FS[5]? = some (.ref qa))
    (hE : ∀ (u : Nat → Nat → Nat) (H : Heap) (locs : List Loc) (ls : Array Slot), va_P D vwCl ((h0, .inr (7, FS)) :: (qa, .inl (cy 5, 6, .inr (.inr (.inr (.inr (fil u 6)))))) :: (REST ++ BW (bkX5 cy) u 6)) H → va_D A ((h0, .inr (7, FS)) :: (qa, .inl (cy 5, 6, .inr (.inr (.inr (.inr (fil u 6)))))) :: (REST ++ BW (bkX5 cy) u 6)) → va_S A s.heap H locs → lv_has ls 2 [(0, .ref h0), (1, .int (nI 6))] → W p l e rm_X7_init s m args below meth c H locs (131 + 3 * 6) (795 + 20 * 6) Q (F0 m 104 ls [])) :
    ∀ (r i : Nat), i + r = 6 → ∀ (u : Nat → Nat → Nat) (H : Heap) (locs : List Loc) (ls : Array Slot), va_P D vwCl ((h0, .inr (7, FS)) :: (qa, .inl (cy 5, 6, .inr (.inr (.inr (.inr (fil u i)))))) :: (REST ++ BW (bkX5 cy) u i)) H → va_D A ((h0, .inr (7, FS)) :: (qa, .inl (cy 5, 6, .inr (.inr (.inr (.inr (fil u i)))))) :: (REST ++ BW (bkX5 cy) u i)) → va_S A s.heap H locs → lv_has ls 2 [(0, .ref h0), (1, .int (nI i))] → W p l e rm_X7_init s m args below meth c H locs (131 + 3 * i) (795 + 20 * i) Q (F0 m 79 ls []) := by
  intro r
  induction r with
  | zero =>
    intro i hi u H locs ls hP hD hS hl
    have e0 : i = 6 := by omega
    subst e0
    refine lv_iload_n hx hb dX7_init_79 rfl (lv_at hl 1 rfl) ?_
    refine lv_bipush (v := 6) hx hb dX7_init_80 (by decide) ?_
    refine lv_icmp_ge (tgt := 104) hx hb dX7_init_82 (by decide) (fun c1 => ?_) (fun c1 => ?_)
    · exact hE u H locs ls hP hD hS hl
    · exact absurd (by decide) c1
  | succ r ih =>
    intro i hi u H locs ls hP hD hS hl
    have hlt : i < 6 := by omega
    refine lv_iload_n hx hb dX7_init_79 rfl (lv_at hl 1 rfl) ?_
    refine lv_bipush (v := 6) hx hb dX7_init_80 (by decide) ?_
    refine lv_icmp_ge (tgt := 104) hx hb dX7_init_82 (by decide) (fun c1 => ?_) (fun c1 => ?_)
    · exact absurd c1 (nI_ge (b := 6) hlt (by decide))
    · refine lv_aload_n hx hb dX7_init_85 rfl (lv_at hl 0 rfl) ?_
      refine va_get (D := D) (ci := 7) (v := .ref qa) (C := RX7) (T := TX7) (N := 11) hx hb hts (by decide +kernel) hown hK hP 0 rfl rfl 5 (by decide) (hts _ (List.mem_of_getElem? (i := 19) rfl)) (fun _ h9 => h9) hf dX7_init_86 ?_
      refine lv_iload_n hx hb dX7_init_89 rfl (lv_at hl 1 rfl) ?_
      refine va_new (ci := 5) (fs := [.int 0, .int 0, .int 0, .int 0, .int 0, .null]) (C := RX5) (T := TX5) (N := 6) hx hb hts (by decide +kernel) tyX5 tyX5_ok hown (hts _ (List.mem_of_getElem? (i := 18) rfl)) (hts _ (List.mem_of_getElem? (i := 20) rfl)) (hts _ (List.mem_of_getElem? (i := 21) rfl)) hK hP hD hS hA rfl (fun j hj => by rcases (show j = 0 ∨ j = 1 ∨ j = 2 ∨ j = 3 ∨ j = 4 ∨ j = 5 by omega) with rfl | rfl | rfl | rfl | rfl | rfl <;> rfl) (by first | exact Nat.le_of_ble_eq_true rfl | (show _ ≤ 159; omega)) (by first | exact Nat.le_of_ble_eq_true rfl | (show _ ≤ 1002; omega)) dX7_init_90 (fun q H hP hD hS => ?_)
      refine lv_dup hx hb dX7_init_93 rfl ?_
      refine i_call (B := (h0, .inr (7, FS)) :: (qa, .inl (cy 5, 6, .inr (.inr (.inr (.inr (fil u i)))))) :: (REST ++ BW (bkX5 cy) u i)) (bk := bkX5 cy q) hP hD hS hA (va_runIN (host := RX7) (b := q) (As := []) (rest := [.ref q, .int (nI i), .ref qa]) ⟨hx, hb, hml, hown, hts⟩ (ci_X5 l D cy q _) ⟨va_cnB 0 hts gX7_init_X5_init_n40 rfl rfl rfl (hNI.1 (RX7, 40, yX5_init) (by simp [nlq])) (hts _ (List.mem_of_getElem? (i := 21) rfl)) (by decide +kernel) ⟨Nat.le_of_ble_eq_true rfl, Nat.le_of_ble_eq_true rfl⟩, rfl, hts _ (List.mem_of_getElem? (i := 65) rfl)⟩ ⟨i_blind, i_pre hK hNI hP hD⟩ rfl rfl hl.1 rfl (lv_room (Nat.le_of_ble_eq_true rfl)) dX7_init_94 ⟨by first | exact Nat.le_of_ble_eq_true rfl | (show _ ≤ 159; omega), by first | exact Nat.le_of_ble_eq_true rfl | (show _ ≤ 1002; omega)⟩) (fun v H locs hP hD hS => ?_)
      refine va_astq (cA := cy 5) (n := 6) (f := fil u i) (r := (RX5, TX5, 6)) (vs := [.int 0, .int 0, .int 0, .int 0, .int 0, .ref (v 1 0)]) hx hb hK hP hD hS 1 5 _ 5 rfl rfl (get_mid ((h0, .inr (7, FS)) :: (qa, .inl (cy 5, 6, .inr (.inr (.inr (.inr (fil u i)))))) :: (REST ++ BW (bkX5 cy) u i)) rfl) rfl (vp_in_nI hlt (by decide)) dX7_init_97 (fun H locs hP hD hS => ?_)
      have hcl : (nI i).toNatClampNeg = i := nI_clamp (by omega)
      rw [hcl, fil_succ u i q v] at hP hD
      replace hP : va_P D vwCl ((h0, .inr (7, FS)) :: (qa, .inl (cy 5, 6, .inr (.inr (.inr (.inr (fil (up0 u i q v) (i + 1))))))) :: ((REST ++ BW (bkX5 cy) u i) ++ bkX5 cy q v)) H := hP
      replace hD : va_D A ((h0, .inr (7, FS)) :: (qa, .inl (cy 5, 6, .inr (.inr (.inr (.inr (fil (up0 u i q v) (i + 1))))))) :: ((REST ++ BW (bkX5 cy) u i) ++ bkX5 cy q v)) := hD
      rw [List.append_assoc, ← BW_succ (bkX5_c cy) u i q v] at hP hD
      obtain ⟨x1, hx1⟩ : ∃ y : Int32, y = nI i + 1 := ⟨_, rfl⟩
      refine lv_iinc (v := x1) (lv' := [(1, .int x1), (0, .ref h0)]) hx hb dX7_init_98 hl (k := 1) rfl (by rw [hx1]; rfl) (by decide) rfl (fun ls hl => ?_)
      refine lv_goto (tgt := 79) hx hb dX7_init_101 (by decide) ?_
      rw [hx1, nI_1] at hl
      refine W.widen (k := 131 + 3 * (i + 1)) (n := 795 + 20 * (i + 1)) (by omega) (by omega) ?_
      exact ih (i + 1) (by omega) (up0 u i q v) H locs ls hP hD hS (lv_sub hl [1, 0] rfl)
