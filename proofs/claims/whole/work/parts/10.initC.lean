/-! ===== constructors of the class's objects ===== -/
def nlq : List (String × Nat × MethodName) := [(RX7, 15, yX2_init), (RX2, 9, yX4_init), (RX6, 21, yX0_init), (RX7, 29, yX1_init), (RX7, 40, yX5_init), (RX5, 9, yX1_init), (RX7, 47, yX4_init), (RX7, 54, yX3_init)]
def NI (U : State) : Prop := (∀ q ∈ nlq, va_Nw (.methodLinkNest q.1 q.2.1 q.2.2 RX7) U) ∧ va_AO RX0 U ∧ va_AO RX2 U ∧ va_AO RX5 U
theorem NI.warm {s U : State} (hW : s.WarmedH U.vm) (h : NI s) : NI U := ⟨fun q hq => va_Nw.warmM hW (h.1 q hq), va_AO.moved hW.alike h.2.1, va_AO.moved hW.alike h.2.2.1, va_AO.moved hW.alike h.2.2.2⟩
theorem NI.calling {U : State} {g : JFrame} {mk : MethodId} {a : Array Value} (h : NI U) : NI (U.calling g mk a) := ⟨fun q hq => va_Nw.same rfl (rfl : U.vm = (U.calling g mk a).vm) (h.1 q hq), va_AO.moved (u := U) (U := U.calling g mk a) (Vm.Alike.refl U.vm) h.2.1, va_AO.moved (u := U) (U := U.calling g mk a) (Vm.Alike.refl U.vm) h.2.2.1, va_AO.moved (u := U) (U := U.calling g mk a) (Vm.Alike.refl U.vm) h.2.2.2⟩
def PreI (D : va_G) (tys : List (ClassId × FieldType)) (ws : va_W) (sz : Nat) (U : State) : Prop := U.heap.size = sz ∧ va_P D vwCl ws U.heap ∧ va_K D vwCl tys U ∧ va_D (fun _ => True) ws ∧ NI U
def PstI (D : va_G) (tys : List (ClassId × FieldType)) (A : Nat → Prop) (ws : va_W) (t : State) : Prop := va_P D vwCl ws t.heap ∧ va_K D vwCl tys t ∧ va_D A ws
theorem i_blind {vs : List Value} {D : va_G} {tys : List (ClassId × FieldType)} {ws : va_W} {sz : Nat} : FrameBlind (va_Pc vs (PreI D tys ws sz)) := by
  intro a U g mk h
  obtain ⟨h1, h2, h3, h4, h5, h6⟩ := h
  exact ⟨h1, h2, h3, va_K.moved (u := U) (U := U.calling g mk a) (Vm.Alike.refl U.vm) h4, h5, NI.calling h6⟩
section LInit
variable {p : Program} {l : Launch} {e : Env} {R : Room} {s : State} {m : MethodId} {args : Array Value} {below : List Frame} {meth : Method} {c : Code} {H : Heap} {locs : List Loc} {cells slots : Nat} {Q : State → Prop}
variable {cc : ByteArray} {pc : Nat} {ls : Array Slot} {rest st0 : List Value} {D : va_G} {A : Nat → Prop} {tys : List (ClassId × FieldType)} {B : va_W} {H0 : Heap}
theorem i_pre {q : Nat} {e0 : va_E} (hK : va_K D vwCl tys s) (hN : NI s) (hP : va_P D vwCl (B ++ [(q, e0)]) H) (hD : va_D A (B ++ [(q, e0)])) : ∀ U : State, U.heap = H → s.WarmedH U.vm → va_Pc [.ref q] (PreI D tys [(q, e0)] H.size) [Value.ref q].toArray U := by
  intro U hU hW
  exact ⟨rfl, by rw [hU], by rw [hU]; exact P_r hP, va_K.moved hW.alike hK, (D_r hD).weaken (fun _ _ _ _ => trivial), NI.warm hW hN⟩
theorem i_call {St : Type} {q : Nat} {e0 : va_E} {bk : St → va_W} {a : Array Value} {mc ms : Nat} (hP : va_P D vwCl (B ++ [(q, e0)]) H) (hD : va_D A (B ++ [(q, e0)])) (hS : va_S A H0 H locs) (hA : ∀ q, H0.size ≤ q → A q) (hr : va_Run p l e R s m args below meth c H locs cells slots mc ms (F0 m pc ls st0) rest (va_Qv (fun _ : St => True) (fun u => PstI D tys (AA [q] H.size) (bk u)) (AA [q] H.size) a) (AA [q] H.size))
    (kk : ∀ (u : St) (H1 : Heap) (locs1 : List Loc), va_P D vwCl (B ++ bk u) H1 → va_D A (B ++ bk u) → va_S A H0 H1 locs1 → W p l e R s m args below meth c H1 locs1 (cells + mc) (slots + ms) Q (F0 m (pc + 3) ls rest)) : W p l e R s m args below meth c H locs cells slots Q (F0 m pc ls st0) := by
  have hq : A q := hD.2 B.length (q, e0) (by simp)
  have hF : ∀ z, AA [q] H.size z → A z := fun z hz => by
    rcases hz with h | h
    · rw [List.mem_singleton.mp h]; exact hq
    · exact hA z (Nat.le_trans hS.1 h)
  refine va_callv hr hS (fun z _ h => hF z h) hF (fun u t H1 locs1 ht hvm hp hB hz hk hS1 => ?_)
  have h3 := frame3 (w1 := B) (w := [(q, e0)]) (w2 := []) (w' := bk u) (AC := AA [q] H.size) (H := H) (H1 := H1) (by rw [List.append_nil]; exact hP) (by rw [List.append_nil]; exact hD) (by rw [← ht]; exact hB.1) hB.2.2 (fun z hz => by
    rcases hz with h | h
    · exact Or.inl ⟨0, e0, by rw [List.mem_singleton.mp h]; rfl⟩
    · exact Or.inr h) hF hk
  rw [List.append_nil] at h3
  exact kk u H1 locs1 h3.1 h3.2 hS1
theorem l_newq (hexec : p.tables.exec = Jvm.exec) (hb : c.code = cc) {own C : String} {index : Nat} (hown : s.vm.findClass own = some m.cls) (hclink : (Cond.classLink own index C).before args s = true) (hover : va_AO C s) (hK : va_K D vwCl tys s) (t0 : Nat) {cA : ClassId} (ht : tys[t0]? = some (cA, .object C)) (hP : va_P D vwCl B H) (hD : va_D A B) (hS : va_S A H0 H locs) (hA : ∀ q, H0.size ≤ q → A q)
    {n : Int32} {N' : Nat} (hn : ¬ n < 0) (hN : n.toNatClampNeg = N') (hbytes : N' * 4 ≤ 536870912) (hcells : cells + 1 ≤ R.cells) (hslots : slots + N' ≤ R.slots) (hdg : decode cc pc = .ok (.anewarray index, 3))
    (kk : ∀ (q : Nat) (H1 : Heap), va_P D vwCl (B ++ [(q, .inl (cA, N', .inr (.inr (.inr (.inr (fun _ => none))))))]) H1 → va_D A (B ++ [(q, .inl (cA, N', .inr (.inr (.inr (.inr (fun _ => none))))))]) → va_S A H0 H1 locs →
      W p l e R s m args below meth c H1 locs (cells + 1) (slots + N') Q (F0 m (pc + 3) ls (.ref q :: rest))) : W p l e R s m args below meth c H locs cells slots Q (F0 m pc ls (.int n :: rest)) := by
  refine va_newq hexec hb hown hclink hover hK hP hD hS hA hn hN hbytes hcells hslots hdg (fun q cB H1 hK1 hP1 hD1 hS1 => ?_)
  obtain ⟨k1, c1, -, -, -, h1⟩ := (hK1.2 tys.length (cB, .object C) (by simp)).2
  obtain ⟨k2, c2, -, -, -, h2⟩ := (hK.2 t0 (cA, .object C) ht).2
  have e : cB = cA := Option.some.inj (h1.symm.trans h2)
  subst e
  exact kk q H1 hP1 hD1 hS1
end LInit
def bkX0 (cy : Nat → ClassId) (h : Nat) (u : Nat → Nat → Nat) : va_W := [(h, Sum.inr (0, [Value.int 0, Value.int 0, Value.int 0, Value.int 0, Value.ref (u 1 0), Value.ref (u 2 0)])), ((u 1 0), Sum.inl (cy 0, 6, Sum.inl (fun _ => 0))), ((u 2 0), Sum.inl (cy 0, 6, Sum.inl (fun _ => 0)))]
def bkX1 (cy : Nat → ClassId) (h : Nat) (u : Nat → Nat → Nat) : va_W := [(h, Sum.inr (1, [Value.int 0, Value.ref (u 1 0)])), ((u 1 0), Sum.inl (cy 0, 12, Sum.inl (fun _ => 0)))]
def bkX3 (cy : Nat → ClassId) (h : Nat) (u : Nat → Nat → Nat) : va_W := [(h, Sum.inr (3, [Value.int 0, Value.ref (u 1 0), Value.ref (u 2 0)])), ((u 1 0), Sum.inl (cy 1, 12, Sum.inr (Sum.inl (fun _ => 0)))), ((u 2 0), Sum.inl (cy 1, 12, Sum.inr (Sum.inl (fun _ => 0))))]
def bkX4 (cy : Nat → ClassId) (h : Nat) (u : Nat → Nat → Nat) : va_W := [(h, Sum.inr (4, [Value.int 0, Value.ref (u 1 0), Value.ref (u 2 0), Value.ref (u 3 0), Value.ref (u 4 0), Value.ref (u 5 0)])), ((u 1 0), Sum.inl (cy 0, 6, Sum.inl (fun _ => 0))), ((u 2 0), Sum.inl (cy 0, 6, Sum.inl (fun _ => 0))), ((u 3 0), Sum.inl (cy 0, 6, Sum.inl (fun _ => 0))), ((u 4 0), Sum.inl (cy 0, 6, Sum.inl (fun _ => 0))), ((u 5 0), Sum.inl (cy 0, 6, Sum.inl (fun _ => 0)))]
def bkX5 (cy : Nat → ClassId) (h : Nat) (u : Nat → Nat → Nat) : va_W := [(h, Sum.inr (5, [Value.int 0, Value.int 0, Value.int 0, Value.int 0, Value.int 0, Value.ref (u 1 0)])), ((u 1 0), Sum.inr (1, [Value.int 0, Value.ref (u 2 0)])), ((u 2 0), Sum.inl (cy 0, 12, Sum.inl (fun _ => 0)))]
def bkX2 (cy : Nat → ClassId) (h : Nat) (u : Nat → Nat → Nat) : va_W := [(h, Sum.inr (2, [Value.int 0, Value.int 0, Value.ref (u 1 0), Value.ref (u 7 0)])), ((u 1 0), Sum.inr (4, [Value.int 0, Value.ref (u 2 0), Value.ref (u 3 0), Value.ref (u 4 0), Value.ref (u 5 0), Value.ref (u 6 0)])), ((u 2 0), Sum.inl (cy 0, 6, Sum.inl (fun _ => 0))), ((u 3 0), Sum.inl (cy 0, 6, Sum.inl (fun _ => 0))), ((u 4 0), Sum.inl (cy 0, 6, Sum.inl (fun _ => 0))), ((u 5 0), Sum.inl (cy 0, 6, Sum.inl (fun _ => 0))), ((u 6 0), Sum.inl (cy 0, 6, Sum.inl (fun _ => 0))), ((u 7 0), Sum.inr (4, [Value.int 0, Value.ref (u 8 0), Value.ref (u 9 0), Value.ref (u 10 0), Value.ref (u 11 0), Value.ref (u 12 0)])), ((u 8 0), Sum.inl (cy 0, 6, Sum.inl (fun _ => 0))), ((u 9 0), Sum.inl (cy 0, 6, Sum.inl (fun _ => 0))), ((u 10 0), Sum.inl (cy 0, 6, Sum.inl (fun _ => 0))), ((u 11 0), Sum.inl (cy 0, 6, Sum.inl (fun _ => 0))), ((u 12 0), Sum.inl (cy 0, 6, Sum.inl (fun _ => 0)))]
abbrev rm_X0_init : Room := { frames := 1, cells := 2, slots := 12, locals := 24 }
set_option maxRecDepth 100000 in
set_option maxHeartbeats 8000000 in
theorem ci_X0 (l : Launch) (D : va_G) (cy : Nat → ClassId) (h0 sz : Nat) : Met l yX0_init wsX0_init rm_X0_init (va_Pc [.ref h0] (PreI D (tysC cy) [(h0, .inr (0, [.int 0, .int 0, .int 0, .int 0, .null, .null]))] sz)) (va_Qv (fun _ : Nat → Nat → Nat => True) (fun u => PstI D (tysC cy) (AA [h0] sz) (bkX0 cy h0 u)) (AA [h0] sz)) 2 12 (AA [h0] sz) := by
  refine Met.ofW (cc := cX0_init) (maxL := 1) (ret := none) (by decide) rfl ?_
  intro p e s m args below meth c s₁ B hml hv
  obtain ⟨rfl, hsz, hP, hK, hD0, hNI⟩ := hv
  have hx := B.exec
  have hb := B.bytes
  have hr := B.returns
  have hts := atoms_spec (ws := wsX0_init) B.pre
  have hown : s.vm.findClass RX0 = some m.cls := findClass_of_methodNamed B.named
  have hlocks := B.notSynchronized
  have hin : meth.name = "<init>" := (name_of_methodNamed B.named B.method).1
  have hA : ∀ q : Nat, s.heap.size ≤ q → AA [h0] sz q := fun q h => Or.inr (by rw [← hsz]; exact h)
  have hD : va_D (AA [h0] sz) [(h0, .inr (0, [.int 0, .int 0, .int 0, .int 0, .null, .null]))] := hD0.weaken (fun k q hq _ => by
    have hk : k < 1 := (List.getElem?_eq_some_iff.mp hq).1
    have e0 : k = 0 := by omega
    subst e0; cases hq; exact Or.inl (List.mem_singleton.mpr rfl))
  generalize AA [h0] sz = A at hD hA ⊢
  have hS : va_S A s.heap s.heap [] := va_S.rf
  have hl := lv_entry ([.ref h0]) (n := 1) (Nat.le_of_ble_eq_true rfl)
  rw [lg_entry_eq]
  generalize (lg_sl ([.ref h0]) ++ List.replicate (1 - (lg_sl ([.ref h0])).length) Slot.unset).toArray = ls at hl ⊢
  have hl : lv_has ls 1 [(0, .ref h0)] := hl
  refine lv_aload_n hx hb dX0_init_0 rfl (lv_at hl 0 rfl) ?_
  refine W.objInit hx hb hown (hts _ (List.mem_of_getElem? (i := 1) rfl)) (hts _ (List.mem_of_getElem? (i := 2) rfl)) (hts _ (List.mem_of_getElem? (i := 3) rfl)) rfl (by rw [hml]; exact hl.1) rfl dX0_init_1 (Nat.le_of_ble_eq_true rfl) (Nat.le_of_ble_eq_true rfl) ?_
  refine W.eq (g2 := F0 m 4 ls []) rfl ?_
  have inW : ∀ w ∈ u_ws RX0 TX0 6, w ∈ wsX0_init := by decide +kernel
  refine lv_aload_n hx hb dX0_init_4 rfl (lv_at hl 0 rfl) ?_
  refine lv_bipush (v := 6) hx hb dX0_init_5 (by decide) ?_
  refine l_newa (a0 := (6, .inl (fun _ => 0))) (N' := 6) hx hb (hts _ (List.mem_of_getElem? (i := 4) rfl)) (ty := .int) rfl hK 0 rfl hP hD hS hA (fun _ => rfl) (by decide) (by decide) (by decide) (Nat.le_of_ble_eq_true rfl) (Nat.le_of_ble_eq_true rfl) dX0_init_7 (fun q1 H hP hD hS => ?_)
  refine va_putF (D := D) (ci := 0) (v := .ref q1) (ty := .array .int) (C := RX0) (T := TX0) (N := 6) hx hb hts inW tyX0 tyX0_ok nmX0 hown hK hP hD hS 0 rfl rfl 4 (by decide) (hts _ (List.mem_of_getElem? (i := 5) rfl)) (fun _ h9 => h9) rfl hin rfl (by decide +kernel) rfl rfl (Nat.le_of_ble_eq_true rfl) dX0_init_9 (fun H locs hP hD hS => ?_)
  refine lv_aload_n hx hb dX0_init_12 rfl (lv_at hl 0 rfl) ?_
  refine lv_bipush (v := 6) hx hb dX0_init_13 (by decide) ?_
  refine l_newa (a0 := (6, .inl (fun _ => 0))) (N' := 6) hx hb (hts _ (List.mem_of_getElem? (i := 4) rfl)) (ty := .int) rfl hK 0 rfl hP hD hS hA (fun _ => rfl) (by decide) (by decide) (by decide) (Nat.le_of_ble_eq_true rfl) (Nat.le_of_ble_eq_true rfl) dX0_init_15 (fun q2 H hP hD hS => ?_)
  refine va_putF (D := D) (ci := 0) (v := .ref q2) (ty := .array .int) (C := RX0) (T := TX0) (N := 6) hx hb hts inW tyX0 tyX0_ok nmX0 hown hK hP hD hS 0 rfl rfl 5 (by decide) (hts _ (List.mem_of_getElem? (i := 6) rfl)) (fun _ h9 => h9) rfl hin rfl (by decide +kernel) rfl rfl (Nat.le_of_ble_eq_true rfl) dX0_init_17 (fun H locs hP hD hS => ?_)
  refine W.widen (k := 2) (n := 12) (Nat.le_of_ble_eq_true rfl) (Nat.le_of_ble_eq_true rfl) ?_
  exact W.vret hx hb hr (fun t ht hW => ⟨⟨(fun c _ => [0, q1, q2].getD c 0), rfl, trivial, by rw [ht]; exact hP, va_K.moved hW.alike hK, hD⟩, hS.F ht⟩) hS.2.2 dX0_init_20
abbrev rm_X1_init : Room := { frames := 1, cells := 1, slots := 12, locals := 24 }
set_option maxRecDepth 100000 in
set_option maxHeartbeats 8000000 in
theorem ci_X1 (l : Launch) (D : va_G) (cy : Nat → ClassId) (h0 sz : Nat) : Met l yX1_init wsX1_init rm_X1_init (va_Pc [.ref h0] (PreI D (tysC cy) [(h0, .inr (1, [.int 0, .null]))] sz)) (va_Qv (fun _ : Nat → Nat → Nat => True) (fun u => PstI D (tysC cy) (AA [h0] sz) (bkX1 cy h0 u)) (AA [h0] sz)) 1 12 (AA [h0] sz) := by
  refine Met.ofW (cc := cX1_init) (maxL := 1) (ret := none) (by decide) rfl ?_
  intro p e s m args below meth c s₁ B hml hv
  obtain ⟨rfl, hsz, hP, hK, hD0, hNI⟩ := hv
  have hx := B.exec
  have hb := B.bytes
  have hr := B.returns
  have hts := atoms_spec (ws := wsX1_init) B.pre
  have hown : s.vm.findClass RX1 = some m.cls := findClass_of_methodNamed B.named
  have hlocks := B.notSynchronized
  have hin : meth.name = "<init>" := (name_of_methodNamed B.named B.method).1
  have hA : ∀ q : Nat, s.heap.size ≤ q → AA [h0] sz q := fun q h => Or.inr (by rw [← hsz]; exact h)
  have hD : va_D (AA [h0] sz) [(h0, .inr (1, [.int 0, .null]))] := hD0.weaken (fun k q hq _ => by
    have hk : k < 1 := (List.getElem?_eq_some_iff.mp hq).1
    have e0 : k = 0 := by omega
    subst e0; cases hq; exact Or.inl (List.mem_singleton.mpr rfl))
  generalize AA [h0] sz = A at hD hA ⊢
  have hS : va_S A s.heap s.heap [] := va_S.rf
  have hl := lv_entry ([.ref h0]) (n := 1) (Nat.le_of_ble_eq_true rfl)
  rw [lg_entry_eq]
  generalize (lg_sl ([.ref h0]) ++ List.replicate (1 - (lg_sl ([.ref h0])).length) Slot.unset).toArray = ls at hl ⊢
  have hl : lv_has ls 1 [(0, .ref h0)] := hl
  refine lv_aload_n hx hb dX1_init_0 rfl (lv_at hl 0 rfl) ?_
  refine W.objInit hx hb hown (hts _ (List.mem_of_getElem? (i := 1) rfl)) (hts _ (List.mem_of_getElem? (i := 2) rfl)) (hts _ (List.mem_of_getElem? (i := 3) rfl)) rfl (by rw [hml]; exact hl.1) rfl dX1_init_1 (Nat.le_of_ble_eq_true rfl) (Nat.le_of_ble_eq_true rfl) ?_
  refine W.eq (g2 := F0 m 4 ls []) rfl ?_
  have inW : ∀ w ∈ u_ws RX1 TX1 2, w ∈ wsX1_init := by decide +kernel
  refine lv_aload_n hx hb dX1_init_4 rfl (lv_at hl 0 rfl) ?_
  refine lv_bipush (v := 12) hx hb dX1_init_5 (by decide) ?_
  refine l_newa (a0 := (12, .inl (fun _ => 0))) (N' := 12) hx hb (hts _ (List.mem_of_getElem? (i := 4) rfl)) (ty := .int) rfl hK 0 rfl hP hD hS hA (fun _ => rfl) (by decide) (by decide) (by decide) (Nat.le_of_ble_eq_true rfl) (Nat.le_of_ble_eq_true rfl) dX1_init_7 (fun q1 H hP hD hS => ?_)
  refine va_putF (D := D) (ci := 1) (v := .ref q1) (ty := .array .int) (C := RX1) (T := TX1) (N := 2) hx hb hts inW tyX1 tyX1_ok nmX1 hown hK hP hD hS 0 rfl rfl 1 (by decide) (hts _ (List.mem_of_getElem? (i := 5) rfl)) (fun _ h9 => h9) rfl hin rfl (by decide +kernel) rfl rfl (Nat.le_of_ble_eq_true rfl) dX1_init_9 (fun H locs hP hD hS => ?_)
  refine W.widen (k := 1) (n := 12) (Nat.le_of_ble_eq_true rfl) (Nat.le_of_ble_eq_true rfl) ?_
  exact W.vret hx hb hr (fun t ht hW => ⟨⟨(fun c _ => [0, q1].getD c 0), rfl, trivial, by rw [ht]; exact hP, va_K.moved hW.alike hK, hD⟩, hS.F ht⟩) hS.2.2 dX1_init_12
abbrev rm_X3_init : Room := { frames := 1, cells := 2, slots := 24, locals := 24 }
set_option maxRecDepth 100000 in
set_option maxHeartbeats 8000000 in
theorem ci_X3 (l : Launch) (D : va_G) (cy : Nat → ClassId) (h0 sz : Nat) : Met l yX3_init wsX3_init rm_X3_init (va_Pc [.ref h0] (PreI D (tysC cy) [(h0, .inr (3, [.int 0, .null, .null]))] sz)) (va_Qv (fun _ : Nat → Nat → Nat => True) (fun u => PstI D (tysC cy) (AA [h0] sz) (bkX3 cy h0 u)) (AA [h0] sz)) 2 24 (AA [h0] sz) := by
  refine Met.ofW (cc := cX3_init) (maxL := 1) (ret := none) (by decide) rfl ?_
  intro p e s m args below meth c s₁ B hml hv
  obtain ⟨rfl, hsz, hP, hK, hD0, hNI⟩ := hv
  have hx := B.exec
  have hb := B.bytes
  have hr := B.returns
  have hts := atoms_spec (ws := wsX3_init) B.pre
  have hown : s.vm.findClass RX3 = some m.cls := findClass_of_methodNamed B.named
  have hlocks := B.notSynchronized
  have hin : meth.name = "<init>" := (name_of_methodNamed B.named B.method).1
  have hA : ∀ q : Nat, s.heap.size ≤ q → AA [h0] sz q := fun q h => Or.inr (by rw [← hsz]; exact h)
  have hD : va_D (AA [h0] sz) [(h0, .inr (3, [.int 0, .null, .null]))] := hD0.weaken (fun k q hq _ => by
    have hk : k < 1 := (List.getElem?_eq_some_iff.mp hq).1
    have e0 : k = 0 := by omega
    subst e0; cases hq; exact Or.inl (List.mem_singleton.mpr rfl))
  generalize AA [h0] sz = A at hD hA ⊢
  have hS : va_S A s.heap s.heap [] := va_S.rf
  have hl := lv_entry ([.ref h0]) (n := 1) (Nat.le_of_ble_eq_true rfl)
  rw [lg_entry_eq]
  generalize (lg_sl ([.ref h0]) ++ List.replicate (1 - (lg_sl ([.ref h0])).length) Slot.unset).toArray = ls at hl ⊢
  have hl : lv_has ls 1 [(0, .ref h0)] := hl
  refine lv_aload_n hx hb dX3_init_0 rfl (lv_at hl 0 rfl) ?_
  refine W.objInit hx hb hown (hts _ (List.mem_of_getElem? (i := 1) rfl)) (hts _ (List.mem_of_getElem? (i := 2) rfl)) (hts _ (List.mem_of_getElem? (i := 3) rfl)) rfl (by rw [hml]; exact hl.1) rfl dX3_init_1 (Nat.le_of_ble_eq_true rfl) (Nat.le_of_ble_eq_true rfl) ?_
  refine W.eq (g2 := F0 m 4 ls []) rfl ?_
  have inW : ∀ w ∈ u_ws RX3 TX3 3, w ∈ wsX3_init := by decide +kernel
  refine lv_aload_n hx hb dX3_init_4 rfl (lv_at hl 0 rfl) ?_
  refine lv_bipush (v := 12) hx hb dX3_init_5 (by decide) ?_
  refine l_newa (a0 := (12, .inr (.inl (fun _ => 0)))) (N' := 12) hx hb (hts _ (List.mem_of_getElem? (i := 4) rfl)) (ty := .long) rfl hK 1 rfl hP hD hS hA (fun _ => rfl) (by decide) (by decide) (by decide) (Nat.le_of_ble_eq_true rfl) (Nat.le_of_ble_eq_true rfl) dX3_init_7 (fun q1 H hP hD hS => ?_)
  refine va_putF (D := D) (ci := 3) (v := .ref q1) (ty := .array .long) (C := RX3) (T := TX3) (N := 3) hx hb hts inW tyX3 tyX3_ok nmX3 hown hK hP hD hS 0 rfl rfl 1 (by decide) (hts _ (List.mem_of_getElem? (i := 5) rfl)) (fun _ h9 => h9) rfl hin rfl (by decide +kernel) rfl rfl (Nat.le_of_ble_eq_true rfl) dX3_init_9 (fun H locs hP hD hS => ?_)
  refine lv_aload_n hx hb dX3_init_12 rfl (lv_at hl 0 rfl) ?_
  refine lv_bipush (v := 12) hx hb dX3_init_13 (by decide) ?_
  refine l_newa (a0 := (12, .inr (.inl (fun _ => 0)))) (N' := 12) hx hb (hts _ (List.mem_of_getElem? (i := 4) rfl)) (ty := .long) rfl hK 1 rfl hP hD hS hA (fun _ => rfl) (by decide) (by decide) (by decide) (Nat.le_of_ble_eq_true rfl) (Nat.le_of_ble_eq_true rfl) dX3_init_15 (fun q2 H hP hD hS => ?_)
  refine va_putF (D := D) (ci := 3) (v := .ref q2) (ty := .array .long) (C := RX3) (T := TX3) (N := 3) hx hb hts inW tyX3 tyX3_ok nmX3 hown hK hP hD hS 0 rfl rfl 2 (by decide) (hts _ (List.mem_of_getElem? (i := 6) rfl)) (fun _ h9 => h9) rfl hin rfl (by decide +kernel) rfl rfl (Nat.le_of_ble_eq_true rfl) dX3_init_17 (fun H locs hP hD hS => ?_)
  refine W.widen (k := 2) (n := 24) (Nat.le_of_ble_eq_true rfl) (Nat.le_of_ble_eq_true rfl) ?_
  exact W.vret hx hb hr (fun t ht hW => ⟨⟨(fun c _ => [0, q1, q2].getD c 0), rfl, trivial, by rw [ht]; exact hP, va_K.moved hW.alike hK, hD⟩, hS.F ht⟩) hS.2.2 dX3_init_20
abbrev rm_X4_init : Room := { frames := 1, cells := 5, slots := 30, locals := 24 }
set_option maxRecDepth 100000 in
set_option maxHeartbeats 8000000 in
theorem ci_X4 (l : Launch) (D : va_G) (cy : Nat → ClassId) (h0 sz : Nat) : Met l yX4_init wsX4_init rm_X4_init (va_Pc [.ref h0] (PreI D (tysC cy) [(h0, .inr (4, [.int 0, .null, .null, .null, .null, .null]))] sz)) (va_Qv (fun _ : Nat → Nat → Nat => True) (fun u => PstI D (tysC cy) (AA [h0] sz) (bkX4 cy h0 u)) (AA [h0] sz)) 5 30 (AA [h0] sz) := by
  refine Met.ofW (cc := cX4_init) (maxL := 1) (ret := none) (by decide) rfl ?_
  intro p e s m args below meth c s₁ B hml hv
  obtain ⟨rfl, hsz, hP, hK, hD0, hNI⟩ := hv
  have hx := B.exec
  have hb := B.bytes
  have hr := B.returns
  have hts := atoms_spec (ws := wsX4_init) B.pre
  have hown : s.vm.findClass RX4 = some m.cls := findClass_of_methodNamed B.named
  have hlocks := B.notSynchronized
  have hin : meth.name = "<init>" := (name_of_methodNamed B.named B.method).1
  have hA : ∀ q : Nat, s.heap.size ≤ q → AA [h0] sz q := fun q h => Or.inr (by rw [← hsz]; exact h)
  have hD : va_D (AA [h0] sz) [(h0, .inr (4, [.int 0, .null, .null, .null, .null, .null]))] := hD0.weaken (fun k q hq _ => by
    have hk : k < 1 := (List.getElem?_eq_some_iff.mp hq).1
    have e0 : k = 0 := by omega
    subst e0; cases hq; exact Or.inl (List.mem_singleton.mpr rfl))
  generalize AA [h0] sz = A at hD hA ⊢
  have hS : va_S A s.heap s.heap [] := va_S.rf
  have hl := lv_entry ([.ref h0]) (n := 1) (Nat.le_of_ble_eq_true rfl)
  rw [lg_entry_eq]
  generalize (lg_sl ([.ref h0]) ++ List.replicate (1 - (lg_sl ([.ref h0])).length) Slot.unset).toArray = ls at hl ⊢
  have hl : lv_has ls 1 [(0, .ref h0)] := hl
  refine lv_aload_n hx hb dX4_init_0 rfl (lv_at hl 0 rfl) ?_
  refine W.objInit hx hb hown (hts _ (List.mem_of_getElem? (i := 1) rfl)) (hts _ (List.mem_of_getElem? (i := 2) rfl)) (hts _ (List.mem_of_getElem? (i := 3) rfl)) rfl (by rw [hml]; exact hl.1) rfl dX4_init_1 (Nat.le_of_ble_eq_true rfl) (Nat.le_of_ble_eq_true rfl) ?_
  refine W.eq (g2 := F0 m 4 ls []) rfl ?_
  have inW : ∀ w ∈ u_ws RX4 TX4 6, w ∈ wsX4_init := by decide +kernel
  refine lv_aload_n hx hb dX4_init_4 rfl (lv_at hl 0 rfl) ?_
  refine lv_bipush (v := 6) hx hb dX4_init_5 (by decide) ?_
  refine l_newa (a0 := (6, .inl (fun _ => 0))) (N' := 6) hx hb (hts _ (List.mem_of_getElem? (i := 4) rfl)) (ty := .int) rfl hK 0 rfl hP hD hS hA (fun _ => rfl) (by decide) (by decide) (by decide) (Nat.le_of_ble_eq_true rfl) (Nat.le_of_ble_eq_true rfl) dX4_init_7 (fun q1 H hP hD hS => ?_)
  refine va_putF (D := D) (ci := 4) (v := .ref q1) (ty := .array .int) (C := RX4) (T := TX4) (N := 6) hx hb hts inW tyX4 tyX4_ok nmX4 hown hK hP hD hS 0 rfl rfl 1 (by decide) (hts _ (List.mem_of_getElem? (i := 5) rfl)) (fun _ h9 => h9) rfl hin rfl (by decide +kernel) rfl rfl (Nat.le_of_ble_eq_true rfl) dX4_init_9 (fun H locs hP hD hS => ?_)
  refine lv_aload_n hx hb dX4_init_12 rfl (lv_at hl 0 rfl) ?_
  refine lv_bipush (v := 6) hx hb dX4_init_13 (by decide) ?_
  refine l_newa (a0 := (6, .inl (fun _ => 0))) (N' := 6) hx hb (hts _ (List.mem_of_getElem? (i := 4) rfl)) (ty := .int) rfl hK 0 rfl hP hD hS hA (fun _ => rfl) (by decide) (by decide) (by decide) (Nat.le_of_ble_eq_true rfl) (Nat.le_of_ble_eq_true rfl) dX4_init_15 (fun q2 H hP hD hS => ?_)
  refine va_putF (D := D) (ci := 4) (v := .ref q2) (ty := .array .int) (C := RX4) (T := TX4) (N := 6) hx hb hts inW tyX4 tyX4_ok nmX4 hown hK hP hD hS 0 rfl rfl 2 (by decide) (hts _ (List.mem_of_getElem? (i := 6) rfl)) (fun _ h9 => h9) rfl hin rfl (by decide +kernel) rfl rfl (Nat.le_of_ble_eq_true rfl) dX4_init_17 (fun H locs hP hD hS => ?_)
  refine lv_aload_n hx hb dX4_init_20 rfl (lv_at hl 0 rfl) ?_
  refine lv_bipush (v := 6) hx hb dX4_init_21 (by decide) ?_
  refine l_newa (a0 := (6, .inl (fun _ => 0))) (N' := 6) hx hb (hts _ (List.mem_of_getElem? (i := 4) rfl)) (ty := .int) rfl hK 0 rfl hP hD hS hA (fun _ => rfl) (by decide) (by decide) (by decide) (Nat.le_of_ble_eq_true rfl) (Nat.le_of_ble_eq_true rfl) dX4_init_23 (fun q3 H hP hD hS => ?_)
  refine va_putF (D := D) (ci := 4) (v := .ref q3) (ty := .array .int) (C := RX4) (T := TX4) (N := 6) hx hb hts inW tyX4 tyX4_ok nmX4 hown hK hP hD hS 0 rfl rfl 3 (by decide) (hts _ (List.mem_of_getElem? (i := 7) rfl)) (fun _ h9 => h9) rfl hin rfl (by decide +kernel) rfl rfl (Nat.le_of_ble_eq_true rfl) dX4_init_25 (fun H locs hP hD hS => ?_)
  refine lv_aload_n hx hb dX4_init_28 rfl (lv_at hl 0 rfl) ?_
  refine lv_bipush (v := 6) hx hb dX4_init_29 (by decide) ?_
  refine l_newa (a0 := (6, .inl (fun _ => 0))) (N' := 6) hx hb (hts _ (List.mem_of_getElem? (i := 4) rfl)) (ty := .int) rfl hK 0 rfl hP hD hS hA (fun _ => rfl) (by decide) (by decide) (by decide) (Nat.le_of_ble_eq_true rfl) (Nat.le_of_ble_eq_true rfl) dX4_init_31 (fun q4 H hP hD hS => ?_)
  refine va_putF (D := D) (ci := 4) (v := .ref q4) (ty := .array .int) (C := RX4) (T := TX4) (N := 6) hx hb hts inW tyX4 tyX4_ok nmX4 hown hK hP hD hS 0 rfl rfl 4 (by decide) (hts _ (List.mem_of_getElem? (i := 8) rfl)) (fun _ h9 => h9) rfl hin rfl (by decide +kernel) rfl rfl (Nat.le_of_ble_eq_true rfl) dX4_init_33 (fun H locs hP hD hS => ?_)
  refine lv_aload_n hx hb dX4_init_36 rfl (lv_at hl 0 rfl) ?_
  refine lv_bipush (v := 6) hx hb dX4_init_37 (by decide) ?_
  refine l_newa (a0 := (6, .inl (fun _ => 0))) (N' := 6) hx hb (hts _ (List.mem_of_getElem? (i := 4) rfl)) (ty := .int) rfl hK 0 rfl hP hD hS hA (fun _ => rfl) (by decide) (by decide) (by decide) (Nat.le_of_ble_eq_true rfl) (Nat.le_of_ble_eq_true rfl) dX4_init_39 (fun q5 H hP hD hS => ?_)
  refine va_putF (D := D) (ci := 4) (v := .ref q5) (ty := .array .int) (C := RX4) (T := TX4) (N := 6) hx hb hts inW tyX4 tyX4_ok nmX4 hown hK hP hD hS 0 rfl rfl 5 (by decide) (hts _ (List.mem_of_getElem? (i := 9) rfl)) (fun _ h9 => h9) rfl hin rfl (by decide +kernel) rfl rfl (Nat.le_of_ble_eq_true rfl) dX4_init_41 (fun H locs hP hD hS => ?_)
  refine W.widen (k := 5) (n := 30) (Nat.le_of_ble_eq_true rfl) (Nat.le_of_ble_eq_true rfl) ?_
  exact W.vret hx hb hr (fun t ht hW => ⟨⟨(fun c _ => [0, q1, q2, q3, q4, q5].getD c 0), rfl, trivial, by rw [ht]; exact hP, va_K.moved hW.alike hK, hD⟩, hS.F ht⟩) hS.2.2 dX4_init_44
abbrev rm_X5_init : Room := { frames := 2, cells := 2, slots := 14, locals := 60 }
set_option maxRecDepth 100000 in
set_option maxHeartbeats 8000000 in
theorem ci_X5 (l : Launch) (D : va_G) (cy : Nat → ClassId) (h0 sz : Nat) : Met l yX5_init wsX5_init rm_X5_init (va_Pc [.ref h0] (PreI D (tysC cy) [(h0, .inr (5, [.int 0, .int 0, .int 0, .int 0, .int 0, .null]))] sz)) (va_Qv (fun _ : Nat → Nat → Nat => True) (fun u => PstI D (tysC cy) (AA [h0] sz) (bkX5 cy h0 u)) (AA [h0] sz)) 2 14 (AA [h0] sz) := by
  refine Met.ofW (cc := cX5_init) (maxL := 1) (ret := none) (by decide) rfl ?_
  intro p e s m args below meth c s₁ B hml hv
  obtain ⟨rfl, hsz, hP, hK, hD0, hNI⟩ := hv
  have hx := B.exec
  have hb := B.bytes
  have hr := B.returns
  have hts := atoms_spec (ws := wsX5_init) B.pre
  have hown : s.vm.findClass RX5 = some m.cls := findClass_of_methodNamed B.named
  have hlocks := B.notSynchronized
  have hin : meth.name = "<init>" := (name_of_methodNamed B.named B.method).1
  have hA : ∀ q : Nat, s.heap.size ≤ q → AA [h0] sz q := fun q h => Or.inr (by rw [← hsz]; exact h)
  have hD : va_D (AA [h0] sz) [(h0, .inr (5, [.int 0, .int 0, .int 0, .int 0, .int 0, .null]))] := hD0.weaken (fun k q hq _ => by
    have hk : k < 1 := (List.getElem?_eq_some_iff.mp hq).1
    have e0 : k = 0 := by omega
    subst e0; cases hq; exact Or.inl (List.mem_singleton.mpr rfl))
  generalize AA [h0] sz = A at hD hA ⊢
  have hS : va_S A s.heap s.heap [] := va_S.rf
  have hl := lv_entry ([.ref h0]) (n := 1) (Nat.le_of_ble_eq_true rfl)
  rw [lg_entry_eq]
  generalize (lg_sl ([.ref h0]) ++ List.replicate (1 - (lg_sl ([.ref h0])).length) Slot.unset).toArray = ls at hl ⊢
  have hl : lv_has ls 1 [(0, .ref h0)] := hl
  refine lv_aload_n hx hb dX5_init_0 rfl (lv_at hl 0 rfl) ?_
  refine W.objInit hx hb hown (hts _ (List.mem_of_getElem? (i := 1) rfl)) (hts _ (List.mem_of_getElem? (i := 2) rfl)) (hts _ (List.mem_of_getElem? (i := 3) rfl)) rfl (by rw [hml]; exact hl.1) rfl dX5_init_1 (Nat.le_of_ble_eq_true rfl) (Nat.le_of_ble_eq_true rfl) ?_
  refine W.eq (g2 := F0 m 4 ls []) rfl ?_
  have inW : ∀ w ∈ u_ws RX5 TX5 6, w ∈ wsX5_init := by decide +kernel
  refine lv_aload_n hx hb dX5_init_4 rfl (lv_at hl 0 rfl) ?_
  refine va_new (ci := 1) (fs := [.int 0, .null]) (C := RX1) (T := TX1) (N := 2) hx hb hts (by decide +kernel) tyX1 tyX1_ok hown (hts _ (List.mem_of_getElem? (i := 4) rfl)) (hts _ (List.mem_of_getElem? (i := 5) rfl)) (hts _ (List.mem_of_getElem? (i := 6) rfl)) hK hP hD hS hA rfl (fun j hj => by rcases (show j = 0 ∨ j = 1 by omega) with rfl | rfl <;> rfl) (by first | exact Nat.le_of_ble_eq_true rfl | omega) (by first | exact Nat.le_of_ble_eq_true rfl | omega) dX5_init_5 (fun q1 H hP hD hS => ?_)
  refine lv_dup hx hb dX5_init_8 rfl ?_
  refine i_call (B := [(h0, .inr (5, [.int 0, .int 0, .int 0, .int 0, .int 0, .null]))]) (bk := bkX1 cy q1) hP hD hS hA (va_runIN (host := RX7) (b := q1) (As := []) (rest := [.ref q1, .ref h0]) ⟨hx, hb, hml, hown, hts⟩ (ci_X1 l D cy q1 _) ⟨va_cnB 0 hts gX5_init_X1_init_n9 rfl rfl rfl (hNI.1 (RX5, 9, yX1_init) (by simp [nlq])) (hts _ (List.mem_of_getElem? (i := 6) rfl)) (by decide +kernel) ⟨Nat.le_of_ble_eq_true rfl, Nat.le_of_ble_eq_true rfl⟩, rfl, hts _ (List.mem_of_getElem? (i := 8) rfl)⟩ ⟨i_blind, i_pre hK hNI hP hD⟩ rfl rfl hl.1 rfl (lv_room (Nat.le_of_ble_eq_true rfl)) dX5_init_9 ⟨by first | exact Nat.le_of_ble_eq_true rfl | omega, by first | exact Nat.le_of_ble_eq_true rfl | omega⟩) (fun u1 H locs hP hD hS => ?_)
  refine va_putF (D := D) (ci := 5) (v := .ref q1) (ty := .object "MigrantHeap$Formula") (C := RX5) (T := TX5) (N := 6) hx hb hts inW tyX5 tyX5_ok nmX5 hown hK hP hD hS 0 rfl rfl 5 (by decide) (hts _ (List.mem_of_getElem? (i := 7) rfl)) (fun _ h9 => h9) rfl hin rfl (by decide +kernel) rfl rfl (Nat.le_of_ble_eq_true rfl) dX5_init_12 (fun H locs hP hD hS => ?_)
  refine W.widen (k := 2) (n := 14) (Nat.le_of_ble_eq_true rfl) (Nat.le_of_ble_eq_true rfl) ?_
  exact W.vret hx hb hr (fun t ht hW => ⟨⟨(fun c _ => [0, q1, u1 1 0].getD c 0), rfl, trivial, by rw [ht]; exact hP, va_K.moved hW.alike hK, hD⟩, hS.F ht⟩) hS.2.2 dX5_init_15
abbrev rm_X2_init : Room := { frames := 2, cells := 12, slots := 72, locals := 60 }
set_option maxRecDepth 100000 in
set_option maxHeartbeats 8000000 in
theorem ci_X2 (l : Launch) (D : va_G) (cy : Nat → ClassId) (h0 sz : Nat) : Met l yX2_init wsX2_init rm_X2_init (va_Pc [.ref h0] (PreI D (tysC cy) [(h0, .inr (2, [.int 0, .int 0, .null, .null]))] sz)) (va_Qv (fun _ : Nat → Nat → Nat => True) (fun u => PstI D (tysC cy) (AA [h0] sz) (bkX2 cy h0 u)) (AA [h0] sz)) 12 72 (AA [h0] sz) := by
  refine Met.ofW (cc := cX2_init) (maxL := 1) (ret := none) (by decide) rfl ?_
  intro p e s m args below meth c s₁ B hml hv
  obtain ⟨rfl, hsz, hP, hK, hD0, hNI⟩ := hv
  have hx := B.exec
  have hb := B.bytes
  have hr := B.returns
  have hts := atoms_spec (ws := wsX2_init) B.pre
  have hown : s.vm.findClass RX2 = some m.cls := findClass_of_methodNamed B.named
  have hlocks := B.notSynchronized
  have hin : meth.name = "<init>" := (name_of_methodNamed B.named B.method).1
  have hA : ∀ q : Nat, s.heap.size ≤ q → AA [h0] sz q := fun q h => Or.inr (by rw [← hsz]; exact h)
  have hD : va_D (AA [h0] sz) [(h0, .inr (2, [.int 0, .int 0, .null, .null]))] := hD0.weaken (fun k q hq _ => by
    have hk : k < 1 := (List.getElem?_eq_some_iff.mp hq).1
    have e0 : k = 0 := by omega
    subst e0; cases hq; exact Or.inl (List.mem_singleton.mpr rfl))
  generalize AA [h0] sz = A at hD hA ⊢
  have hS : va_S A s.heap s.heap [] := va_S.rf
  have hl := lv_entry ([.ref h0]) (n := 1) (Nat.le_of_ble_eq_true rfl)
  rw [lg_entry_eq]
  generalize (lg_sl ([.ref h0]) ++ List.replicate (1 - (lg_sl ([.ref h0])).length) Slot.unset).toArray = ls at hl ⊢
  have hl : lv_has ls 1 [(0, .ref h0)] := hl
  refine lv_aload_n hx hb dX2_init_0 rfl (lv_at hl 0 rfl) ?_
  refine W.objInit hx hb hown (hts _ (List.mem_of_getElem? (i := 1) rfl)) (hts _ (List.mem_of_getElem? (i := 2) rfl)) (hts _ (List.mem_of_getElem? (i := 3) rfl)) rfl (by rw [hml]; exact hl.1) rfl dX2_init_1 (Nat.le_of_ble_eq_true rfl) (Nat.le_of_ble_eq_true rfl) ?_
  refine W.eq (g2 := F0 m 4 ls []) rfl ?_
  have inW : ∀ w ∈ u_ws RX2 TX2 4, w ∈ wsX2_init := by decide +kernel
  refine lv_aload_n hx hb dX2_init_4 rfl (lv_at hl 0 rfl) ?_
  refine va_new (ci := 4) (fs := [.int 0, .null, .null, .null, .null, .null]) (C := RX4) (T := TX4) (N := 6) hx hb hts (by decide +kernel) tyX4 tyX4_ok hown (hts _ (List.mem_of_getElem? (i := 4) rfl)) (hts _ (List.mem_of_getElem? (i := 5) rfl)) (hts _ (List.mem_of_getElem? (i := 6) rfl)) hK hP hD hS hA rfl (fun j hj => by rcases (show j = 0 ∨ j = 1 ∨ j = 2 ∨ j = 3 ∨ j = 4 ∨ j = 5 by omega) with rfl | rfl | rfl | rfl | rfl | rfl <;> rfl) (by first | exact Nat.le_of_ble_eq_true rfl | omega) (by first | exact Nat.le_of_ble_eq_true rfl | omega) dX2_init_5 (fun q1 H hP hD hS => ?_)
  refine lv_dup hx hb dX2_init_8 rfl ?_
  refine i_call (B := [(h0, .inr (2, [.int 0, .int 0, .null, .null]))]) (bk := bkX4 cy q1) hP hD hS hA (va_runIN (host := RX7) (b := q1) (As := []) (rest := [.ref q1, .ref h0]) ⟨hx, hb, hml, hown, hts⟩ (ci_X4 l D cy q1 _) ⟨va_cnB 0 hts gX2_init_X4_init_n9 rfl rfl rfl (hNI.1 (RX2, 9, yX4_init) (by simp [nlq])) (hts _ (List.mem_of_getElem? (i := 6) rfl)) (by decide +kernel) ⟨Nat.le_of_ble_eq_true rfl, Nat.le_of_ble_eq_true rfl⟩, rfl, hts _ (List.mem_of_getElem? (i := 9) rfl)⟩ ⟨i_blind, i_pre hK hNI hP hD⟩ rfl rfl hl.1 rfl (lv_room (Nat.le_of_ble_eq_true rfl)) dX2_init_9 ⟨by first | exact Nat.le_of_ble_eq_true rfl | omega, by first | exact Nat.le_of_ble_eq_true rfl | omega⟩) (fun u1 H locs hP hD hS => ?_)
  refine va_putF (D := D) (ci := 2) (v := .ref q1) (ty := .object "MigrantHeap$Shape") (C := RX2) (T := TX2) (N := 4) hx hb hts inW tyX2 tyX2_ok nmX2 hown hK hP hD hS 0 rfl rfl 2 (by decide) (hts _ (List.mem_of_getElem? (i := 7) rfl)) (fun _ h9 => h9) rfl hin rfl (by decide +kernel) rfl rfl (Nat.le_of_ble_eq_true rfl) dX2_init_12 (fun H locs hP hD hS => ?_)
  replace hP : va_P D vwCl ((h0, .inr (2, [.int 0, .int 0, .ref q1, .null])) :: bkX4 cy q1 u1) H := hP
  replace hD : va_D A ((h0, .inr (2, [.int 0, .int 0, .ref q1, .null])) :: bkX4 cy q1 u1) := hD
  refine lv_aload_n hx hb dX2_init_15 rfl (lv_at hl 0 rfl) ?_
  refine va_new (ci := 4) (fs := [.int 0, .null, .null, .null, .null, .null]) (C := RX4) (T := TX4) (N := 6) hx hb hts (by decide +kernel) tyX4 tyX4_ok hown (hts _ (List.mem_of_getElem? (i := 4) rfl)) (hts _ (List.mem_of_getElem? (i := 5) rfl)) (hts _ (List.mem_of_getElem? (i := 6) rfl)) hK hP hD hS hA rfl (fun j hj => by rcases (show j = 0 ∨ j = 1 ∨ j = 2 ∨ j = 3 ∨ j = 4 ∨ j = 5 by omega) with rfl | rfl | rfl | rfl | rfl | rfl <;> rfl) (by first | exact Nat.le_of_ble_eq_true rfl | omega) (by first | exact Nat.le_of_ble_eq_true rfl | omega) dX2_init_16 (fun q2 H hP hD hS => ?_)
  refine lv_dup hx hb dX2_init_19 rfl ?_
  refine i_call (B := (h0, .inr (2, [.int 0, .int 0, .ref q1, .null])) :: bkX4 cy q1 u1) (bk := bkX4 cy q2) hP hD hS hA (va_runIN (host := RX7) (b := q2) (As := []) (rest := [.ref q2, .ref h0]) ⟨hx, hb, hml, hown, hts⟩ (ci_X4 l D cy q2 _) ⟨va_cnB 0 hts gX2_init_X4_init_n9 rfl rfl rfl (hNI.1 (RX2, 9, yX4_init) (by simp [nlq])) (hts _ (List.mem_of_getElem? (i := 6) rfl)) (by decide +kernel) ⟨Nat.le_of_ble_eq_true rfl, Nat.le_of_ble_eq_true rfl⟩, rfl, hts _ (List.mem_of_getElem? (i := 9) rfl)⟩ ⟨i_blind, i_pre hK hNI hP hD⟩ rfl rfl hl.1 rfl (lv_room (Nat.le_of_ble_eq_true rfl)) dX2_init_20 ⟨by first | exact Nat.le_of_ble_eq_true rfl | omega, by first | exact Nat.le_of_ble_eq_true rfl | omega⟩) (fun u2 H locs hP hD hS => ?_)
  refine va_putF (D := D) (ci := 2) (v := .ref q2) (ty := .object "MigrantHeap$Shape") (C := RX2) (T := TX2) (N := 4) hx hb hts inW tyX2 tyX2_ok nmX2 hown hK hP hD hS 0 rfl rfl 3 (by decide) (hts _ (List.mem_of_getElem? (i := 8) rfl)) (fun _ h9 => h9) rfl hin rfl (by decide +kernel) rfl rfl (Nat.le_of_ble_eq_true rfl) dX2_init_23 (fun H locs hP hD hS => ?_)
  refine W.widen (k := 12) (n := 72) (Nat.le_of_ble_eq_true rfl) (Nat.le_of_ble_eq_true rfl) ?_
  exact W.vret hx hb hr (fun t ht hW => ⟨⟨(fun c _ => [0, q1, u1 1 0, u1 2 0, u1 3 0, u1 4 0, u1 5 0, q2, u2 1 0, u2 2 0, u2 3 0, u2 4 0, u2 5 0].getD c 0), rfl, trivial, by rw [ht]; exact hP, va_K.moved hW.alike hK, hD⟩, hS.F ht⟩) hS.2.2 dX2_init_26
