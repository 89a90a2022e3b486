/-! ===== objects made in a loop, one block of cells after another ===== -/
def BW (bk : Nat → (Nat → Nat → Nat) → va_W) (u : Nat → Nat → Nat) (n : Nat) : va_W := (List.range n).flatMap (fun j => bk (u 0 j) (fun c _ => u c j))
def up0 (u : Nat → Nat → Nat) (i q : Nat) (v : Nat → Nat → Nat) : Nat → Nat → Nat := fun c j => if j = i then (if c = 0 then q else v c 0) else u c j
theorem BW_succ {bk : Nat → (Nat → Nat → Nat) → va_W} (hbk : ∀ h v w, (∀ c, c ≠ 0 → v c 0 = w c 0) → bk h v = bk h w) (u : Nat → Nat → Nat) (i q : Nat) (v : Nat → Nat → Nat) : BW bk (up0 u i q v) (i + 1) = BW bk u i ++ bk q v := by
  unfold BW
  rw [List.range_succ, List.flatMap_append]
  have h1 : (List.range i).flatMap (fun j => bk (up0 u i q v 0 j) (fun c _ => up0 u i q v c j)) = (List.range i).flatMap (fun j => bk (u 0 j) (fun c _ => u c j)) := by
    rw [List.flatMap_def, List.flatMap_def]
    refine congrArg List.flatten (List.map_congr_left (fun j hj => ?_))
    have hlt : j < i := List.mem_range.mp hj
    have hne : j ≠ i := by omega
    simp [up0, hne]
  have h2 : [i].flatMap (fun j => bk (up0 u i q v 0 j) (fun c _ => up0 u i q v c j)) = bk q v := by
    simp only [List.flatMap_cons, List.flatMap_nil, List.append_nil]
    have e1 : up0 u i q v 0 i = q := by simp [up0]
    rw [e1]
    exact hbk q _ _ (fun c hc => by simp [up0, hc])
  rw [h1, h2]
theorem bkX0_c (cy : Nat → ClassId) : ∀ h v w, (∀ c, c ≠ 0 → v c 0 = w c 0) → bkX0 cy h v = bkX0 cy h w := by
  intro h v w e
  unfold bkX0
  rw [e 1 (by decide), e 2 (by decide)]
theorem bkX5_c (cy : Nat → ClassId) : ∀ h v w, (∀ c, c ≠ 0 → v c 0 = w c 0) → bkX5 cy h v = bkX5 cy h w := by
  intro h v w e
  unfold bkX5
  rw [e 1 (by decide), e 2 (by decide)]
theorem bkX2_c (cy : Nat → ClassId) : ∀ h v w, (∀ c, c ≠ 0 → v c 0 = w c 0) → bkX2 cy h v = bkX2 cy h w := by
  intro h v w e
  unfold bkX2
  rw [e 1 (by decide), e 2 (by decide), e 3 (by decide), e 4 (by decide), e 5 (by decide), e 6 (by decide), e 7 (by decide), e 8 (by decide), e 9 (by decide), e 10 (by decide), e 11 (by decide), e 12 (by decide)]
/-- the first i places are filled -/
def fil (u : Nat → Nat → Nat) (i : Nat) : Nat → Option Nat := fun k => if k < i then some (u 0 k) else none
theorem fil_succ (u : Nat → Nat → Nat) (i q : Nat) (v : Nat → Nat → Nat) : va_up (fil u i) i (some q) = fil (up0 u i q v) (i + 1) := by
  funext k
  by_cases h : k = i
  · subst h; simp [va_up, fil, up0]
  · by_cases h2 : k < i
    · have h3 : k < i + 1 := by omega
      simp [va_up, fil, up0, h, h2, h3]
    · have h3 : ¬ k < i + 1 := by omega
      simp [va_up, fil, h, h2, h3]
theorem fil_0 (u : Nat → Nat → Nat) : fil u 0 = fun _ => none := by
  funext k; simp [fil]
theorem get_mid {α : Type} (L : List α) {M : List α} {x : α} (h : M[0]? = some x) : (L ++ M)[L.length]? = some x := by
  rw [List.getElem?_append_right (Nat.le_refl _), Nat.sub_self]; exact h

abbrev rm_X6_init : Room := { frames := 2, cells := 73, slots := 456, locals := 60 }
abbrev rm_X7_init : Room := { frames := 3, cells := 159, slots := 1002, locals := 120 }
set_option maxRecDepth 100000 in
set_option maxHeartbeats 8000000 in
theorem lp_X6 {p : Program} {l : Launch} {e : Env} {s : State} {m : MethodId} {args : Array Value} {below : List Frame} {meth : Method} {c : Code} {D : va_G} {A : Nat → Prop} {cy : Nat → ClassId} {h0 qa : Nat} {FS : List Value} {REST : va_W} {Q : State → Prop} (hx : p.tables.exec = Jvm.exec) (hb : c.code = cX6_init) (hml : c.maxLocals = 2) (hown : s.vm.findClass RX6 = some m.cls) (hts : ∀ w ∈ wsX6_init, w.before args s = true) (hK : va_K D vwCl (tysC cy) s) (hNI : NI s) (hA : ∀ q, s.heap.size ≤ q → A q) (hf : FS[0]? = some (.ref qa))
    (hE : ∀ (u : Nat → Nat → Nat) (H : Heap) (locs : List Loc) (ls : Array Slot), va_P D vwCl ((h0, .inr (6, FS)) :: (qa, .inl (cy 3, 24, .inr (.inr (.inr (.inr (fil u 24)))))) :: (REST ++ BW (bkX0 cy) u 24)) H → va_D A ((h0, .inr (6, FS)) :: (qa, .inl (cy 3, 24, .inr (.inr (.inr (.inr (fil u 24)))))) :: (REST ++ BW (bkX0 cy) u 24)) → va_S A s.heap H locs → lv_has ls 2 [(0, .ref h0), (1, .int (nI 24))] → W p l e rm_X6_init s m args below meth c H locs (1 + 3 * 24) (24 + 18 * 24) Q (F0 m 45 ls [])) :
    ∀ (r i : Nat), i + r = 24 → ∀ (u : Nat → Nat → Nat) (H : Heap) (locs : List Loc) (ls : Array Slot), va_P D vwCl ((h0, .inr (6, FS)) :: (qa, .inl (cy 3, 24, .inr (.inr (.inr (.inr (fil u i)))))) :: (REST ++ BW (bkX0 cy) u i)) H → va_D A ((h0, .inr (6, FS)) :: (qa, .inl (cy 3, 24, .inr (.inr (.inr (.inr (fil u i)))))) :: (REST ++ BW (bkX0 cy) u i)) → va_S A s.heap H locs → lv_has ls 2 [(0, .ref h0), (1, .int (nI i))] → W p l e rm_X6_init s m args below meth c H locs (1 + 3 * i) (24 + 18 * i) Q (F0 m 20 ls []) := by
  intro r
  induction r with
  | zero =>
    intro i hi u H locs ls hP hD hS hl
    have e0 : i = 24 := by omega
    subst e0
    refine lv_iload_n hx hb dX6_init_20 rfl (lv_at hl 1 rfl) ?_
    refine lv_bipush (v := 24) hx hb dX6_init_21 (by decide) ?_
    refine lv_icmp_ge (tgt := 45) hx hb dX6_init_23 (by decide) (fun c1 => ?_) (fun c1 => ?_)
    · exact hE u H locs ls hP hD hS hl
    · exact absurd (by decide) c1
  | succ r ih =>
    intro i hi u H locs ls hP hD hS hl
    have hlt : i < 24 := by omega
    refine lv_iload_n hx hb dX6_init_20 rfl (lv_at hl 1 rfl) ?_
    refine lv_bipush (v := 24) hx hb dX6_init_21 (by decide) ?_
    refine lv_icmp_ge (tgt := 45) hx hb dX6_init_23 (by decide) (fun c1 => ?_) (fun c1 => ?_)
    · exact absurd c1 (nI_ge (b := 24) hlt (by decide))
    · refine lv_aload_n hx hb dX6_init_26 rfl (lv_at hl 0 rfl) ?_
      refine va_get (D := D) (ci := 6) (v := .ref qa) (C := RX6) (T := TX6) (N := 3) hx hb hts (by decide +kernel) hown hK hP 0 rfl rfl 0 (by decide) (hts _ (List.mem_of_getElem? (i := 5) rfl)) (fun _ h9 => h9) hf dX6_init_27 ?_
      refine lv_iload_n hx hb dX6_init_30 rfl (lv_at hl 1 rfl) ?_
      refine va_new (ci := 0) (fs := [.int 0, .int 0, .int 0, .int 0, .null, .null]) (C := RX0) (T := TX0) (N := 6) hx hb hts (by decide +kernel) tyX0 tyX0_ok hown (hts _ (List.mem_of_getElem? (i := 4) rfl)) (hts _ (List.mem_of_getElem? (i := 7) rfl)) (hts _ (List.mem_of_getElem? (i := 8) rfl)) hK hP hD hS hA rfl (fun j hj => by rcases (show j = 0 ∨ j = 1 ∨ j = 2 ∨ j = 3 ∨ j = 4 ∨ j = 5 by omega) with rfl | rfl | rfl | rfl | rfl | rfl <;> rfl) (by first | exact Nat.le_of_ble_eq_true rfl | (show _ ≤ 73; omega)) (by first | exact Nat.le_of_ble_eq_true rfl | (show _ ≤ 456; omega)) dX6_init_31 (fun q H hP hD hS => ?_)
      refine lv_dup hx hb dX6_init_34 rfl ?_
      refine i_call (B := (h0, .inr (6, FS)) :: (qa, .inl (cy 3, 24, .inr (.inr (.inr (.inr (fil u i)))))) :: (REST ++ BW (bkX0 cy) u i)) (bk := bkX0 cy q) hP hD hS hA (va_runIN (host := RX7) (b := q) (As := []) (rest := [.ref q, .int (nI i), .ref qa]) ⟨hx, hb, hml, hown, hts⟩ (ci_X0 l D cy q _) ⟨va_cnB 0 hts gX6_init_X0_init_n21 rfl rfl rfl (hNI.1 (RX6, 21, yX0_init) (by simp [nlq])) (hts _ (List.mem_of_getElem? (i := 8) rfl)) (by decide +kernel) ⟨Nat.le_of_ble_eq_true rfl, Nat.le_of_ble_eq_true rfl⟩, rfl, hts _ (List.mem_of_getElem? (i := 9) rfl)⟩ ⟨i_blind, i_pre hK hNI hP hD⟩ rfl rfl hl.1 rfl (lv_room (Nat.le_of_ble_eq_true rfl)) dX6_init_35 ⟨by first | exact Nat.le_of_ble_eq_true rfl | (show _ ≤ 73; omega), by first | exact Nat.le_of_ble_eq_true rfl | (show _ ≤ 456; omega)⟩) (fun v H locs hP hD hS => ?_)
      refine va_astq (cA := cy 3) (n := 24) (f := fil u i) (r := (RX0, TX0, 6)) (vs := [.int 0, .int 0, .int 0, .int 0, .ref (v 1 0), .ref (v 2 0)]) hx hb hK hP hD hS 1 3 _ 0 rfl rfl (get_mid ((h0, .inr (6, FS)) :: (qa, .inl (cy 3, 24, .inr (.inr (.inr (.inr (fil u i)))))) :: (REST ++ BW (bkX0 cy) u i)) rfl) rfl (vp_in_nI hlt (by decide)) dX6_init_38 (fun H locs hP hD hS => ?_)
      have hcl : (nI i).toNatClampNeg = i := nI_clamp (by omega)
      rw [hcl, fil_succ u i q v] at hP hD
      replace hP : va_P D vwCl ((h0, .inr (6, FS)) :: (qa, .inl (cy 3, 24, .inr (.inr (.inr (.inr (fil (up0 u i q v) (i + 1))))))) :: ((REST ++ BW (bkX0 cy) u i) ++ bkX0 cy q v)) H := hP
      replace hD : va_D A ((h0, .inr (6, FS)) :: (qa, .inl (cy 3, 24, .inr (.inr (.inr (.inr (fil (up0 u i q v) (i + 1))))))) :: ((REST ++ BW (bkX0 cy) u i) ++ bkX0 cy q v)) := hD
      rw [List.append_assoc, ← BW_succ (bkX0_c cy) u i q v] at hP hD
      obtain ⟨x1, hx1⟩ : ∃ y : Int32, y = nI i + 1 := ⟨_, rfl⟩
      refine lv_iinc (v := x1) (lv' := [(1, .int x1), (0, .ref h0)]) hx hb dX6_init_39 hl (k := 1) rfl (by rw [hx1]; rfl) (by decide) rfl (fun ls hl => ?_)
      refine lv_goto (tgt := 20) hx hb dX6_init_42 (by decide) ?_
      rw [hx1, nI_1] at hl
      refine W.widen (k := 1 + 3 * (i + 1)) (n := 24 + 18 * (i + 1)) (by omega) (by omega) ?_
      exact ih (i + 1) (by omega) (up0 u i q v) H locs ls hP hD hS (lv_sub hl [1, 0] rfl)
