theorem FrP_can {n i : Nat} {S : CSt} {c : Nat} {rec v : Int32} (h : m_X7_canDo n S i (nI c) rec = some (v, S)) : Ok (m_X7_canDo n S i (nI c) rec) (fun o => o.1 = v ∧ FrP S o.2) := ok_eq h ⟨rfl, FrP_refl S⟩
theorem step_drop {n j K L q : Nat} {σ τ : Nat → Nat} {D : CSt} {B T : MSt} {c m0 m i : Nat} (hn : 24 < n) (hb : Base j K L q σ τ D B c m0) (hi : i < q) (hM : JM K B T c m0 m) (hk : B.1 23 (5 * i) = 0) : StepT n j K B D σ c m0 i T m := by
  obtain ⟨hMB, hCB, hcK, hB4, hm0, hq6, hst, hsd⟩ := id hb
  have hc : c < 4 := by have := hMB.1.1; omega
  obtain ⟨s22, s23, s24, s25, s26, -⟩ := hsd i hi
  obtain ⟨⟨x, hx, ex⟩, -⟩ := (hst i hi).1
  have e23 : T.1 23 = B.1 23 := (frT_of hM).1 23 (by omega)
  have hSh := JM_sh hM hc
  have hact : m_X8_act n T (nI i) = (m_X8_dropField n T (nI x)).bind chk := by rw [p_act (by omega), e23, if_pos hk, ex]
  rcases A_drop (n := n) (a := nI x) hn hM hc hm0 with ⟨h1, h2⟩ | ⟨k0, hk0, h2, h3, h4, h5⟩
  · refine ⟨T, Or.inl ⟨by rw [hact, h1]; rfl, frT_of hM, fun S rec h => FrP_can ?_⟩⟩
    have f := h.2.1
    refine (B_drop (by omega) h.1 hSh (by rw [f 22 (by omega) (by omega), s22]; exact hk)).2 ?_
    rw [f 23 (by omega) (by omega), s23, ex]
    exact h2
  · refine ⟨_, Or.inr ⟨m - 1, by rw [hact, h4]; rfl, step_plain hb hi (by rw [s22, hk]; decide) (by rw [s22, hk]; decide) h5 (tkF_o _ _ _ _ _ (by omega)) (tkF_o _ _ _ _ _ (by omega)) (fun S rec h => FrP_can ?_) (fun S rec h => ?_) (fun S L1 h => ?_)⟩⟩
    · have f := h.2.1
      refine (B_drop (by omega) h.1 hSh (by rw [f 22 (by omega) (by omega), s22]; exact hk)).1 ?_
      rw [f 23 (by omega) (by omega), s23, ex]
      exact ⟨k0, hk0, h2, h3⟩
    · have f := h.2.1
      exact R_drop (by omega) h.1 hSh (by rw [f 22 (by omega) (by omega), s22]; exact hk) (by rw [f 23 (by omega) (by omega), s23, ex]) hx hk0 h2
    · have f := JC_row h
      exact C_drop hn hM h hc (by rw [f 22 (by omega), s22]; exact hk) (by rw [f 23 (by omega), s23, ex]) hx hk0 h2
theorem step_name {n j K L q : Nat} {σ τ : Nat → Nat} {D : CSt} {B T : MSt} {c m0 m i : Nat} (hn : 24 < n) (hb : Base j K L q σ τ D B c m0) (hi : i < q) (hM : JM K B T c m0 m) (hk : B.1 23 (5 * i) = 1) {y : Nat} (hy : y < 10) (ey : B.1 23 (5 * i + 2) = nI y) : StepT n j K B D σ c m0 i T m := by
  obtain ⟨hMB, hCB, hcK, hB4, hm0, hq6, hst, hsd⟩ := id hb
  have hc : c < 4 := by have := hMB.1.1; omega
  obtain ⟨s22, s23, s24, s25, s26, -⟩ := hsd i hi
  have e23 : T.1 23 = B.1 23 := (frT_of hM).1 23 (by omega)
  have hSh := JM_sh hM hc
  have hact : m_X8_act n T (nI i) = (m_X8_nameField n T (B.1 23 (5 * i + 1)) (nI y)).bind chk := by rw [p_act (by omega), e23, hk, if_neg (by decide), if_pos rfl, ey]
  rcases A_name (n := n) (a := B.1 23 (5 * i + 1)) (y := y) hn hM hc hm0 hy with ⟨h1, h2⟩ | ⟨k0, hk0, h2, h3, h4, h5⟩
  · refine ⟨T, Or.inl ⟨by rw [hact, h1]; rfl, frT_of hM, fun S rec h => FrP_can ?_⟩⟩
    have f := h.2.1
    refine (B_name (by omega) h.1 hSh (by rw [f 22 (by omega) (by omega), s22]; exact hk)).2 ?_
    rw [f 23 (by omega) (by omega), f 24 (by omega) (by omega), s23, s24, ey]
    exact h2
  · refine ⟨_, Or.inr ⟨m, by rw [hact, h4]; rfl, step_plain hb hi (by rw [s22, hk]; decide) (by rw [s22, hk]; decide) h5 rfl rfl (fun S rec h => FrP_can ?_) (fun S rec h => ?_) (fun S L1 h => ?_)⟩⟩
    · have f := h.2.1
      refine (B_name (by omega) h.1 hSh (by rw [f 22 (by omega) (by omega), s22]; exact hk)).1 ?_
      rw [f 23 (by omega) (by omega), f 24 (by omega) (by omega), s23, s24, ey]
      exact ⟨⟨k0, hk0, h2⟩, h3⟩
    · have f := h.2.1
      exact R_name (by omega) h.1 hSh (by rw [f 22 (by omega) (by omega), s22]; exact hk) (by rw [f 24 (by omega) (by omega), s24, ey]) hk0 (by rw [f 23 (by omega) (by omega), s23]; exact h2)
    · have f := JC_row h
      exact C_name hn hM h hc (by rw [f 22 (by omega), s22]; exact hk) (by rw [f 24 (by omega), s24, ey]) hk0 (by rw [f 23 (by omega), s23]; exact h2)
theorem step_ref {n j K L q : Nat} {σ τ : Nat → Nat} {D : CSt} {B T : MSt} {c m0 m i : Nat} (hn : 24 < n) (hb : Base j K L q σ τ D B c m0) (hi : i < q) (hM : JM K B T c m0 m) (hk : B.1 23 (5 * i) = 4) {d : Nat} (hd : d < K) (ed : B.1 23 (5 * i + 2) = nI d) : StepT n j K B D σ c m0 i T m := by
  obtain ⟨hMB, hCB, hcK, hB4, hm0, hq6, hst, hsd⟩ := id hb
  have hc : c < 4 := by have := hMB.1.1; omega
  obtain ⟨s22, s23, s24, s25, s26, -⟩ := hsd i hi
  obtain ⟨⟨x, hx, ex⟩, -⟩ := (hst i hi).1
  have e23 : T.1 23 = B.1 23 := (frT_of hM).1 23 (by omega)
  have hSh := JM_sh hM hc
  have hact : m_X8_act n T (nI i) = (m_X8_referenceField n T (nI x) (nI d)).bind chk := by rw [p_act (by omega), e23, hk, if_neg (by decide), if_neg (by decide), if_neg (by decide), if_neg (by decide), if_pos rfl, ex, ed]
  rcases A_ref (n := n) (x := x) (d := d) hn hM hc hm0 hx hd with ⟨h1, h2⟩ | ⟨h2, h3, h4, h5⟩
  · refine ⟨T, Or.inl ⟨by rw [hact, h1]; rfl, frT_of hM, fun S rec h => FrP_can ?_⟩⟩
    have f := h.2.1
    refine (B_ref (by omega) h.1 hSh (by rw [f 22 (by omega) (by omega), s22]; exact hk)).2 ?_
    rw [f 23 (by omega) (by omega), s23, ex]
    exact h2
  · obtain ⟨d29, d30, d31, d32, d33, d28, dfr⟩ := dA_at (T := T) (m := m) (x1 := nI x) (x2 := 1) (x3 := nI d) (x4 := nI d)
    refine ⟨_, Or.inr ⟨m + 1, by rw [hact, h4]; rfl, step_plain hb hi (by rw [s22, hk]; decide) (by rw [s22, hk]; decide) h5 ?_ ?_ (fun S rec h => FrP_can ?_) (fun S rec h => ?_) (fun S L1 h => ?_)⟩⟩
    · rw [mR_at, if_neg (by omega), dfr 14 (by omega)]
    · rw [mR_at, if_neg (by omega), dfr 35 (by omega)]
    · have f := h.2.1
      refine (B_ref (by omega) h.1 hSh (by rw [f 22 (by omega) (by omega), s22]; exact hk)).1 ?_
      rw [f 23 (by omega) (by omega), s23, ex]
      exact ⟨h2, h3⟩
    · have f := h.2.1
      have g23 : S.1 23 i 0 = nI x := by rw [f 23 (by omega) (by omega), s23, ex]
      have g24 : S.1 24 i 0 = nI d := by rw [f 24 (by omega) (by omega), s24, ed]
      exact R_ref (by omega) h.1 hSh h3 (by rw [f 22 (by omega) (by omega), s22]; exact hk) d28 (by rw [g23]; exact d29) d30 (by rw [g24]; exact d31) (by rw [g24]; exact d32) d33
    · have f := JC_row h
      have g23 : S.1 23 i 0 = nI x := by rw [f 23 (by omega), s23, ex]
      have g24 : S.1 24 i 0 = nI d := by rw [f 24 (by omega), s24, ed]
      refine C_ref hn hM h hc h3 (by rw [f 22 (by omega), s22]; exact hk) (fun g hg => ?_) d28 (by rw [g23]; exact d29) d30 (by rw [g24]; exact d31) (by rw [g24]; exact d32) d33 (fun r k hr hk => ?_)
      · rw [mR_at, if_neg (by omega), dfr g (by omega)]
      · show (if 6 * r + k < 144 ∧ (6 * r + k) % 6 = m then -1 else T.1 34 (6 * r + k)) = _
        by_cases e : k = m
        · rw [if_pos e, if_pos (by omega)]
        · rw [if_neg e, if_neg (by omega)]; rfl
theorem step_range {n j K L q : Nat} {σ τ : Nat → Nat} {D : CSt} {B T : MSt} {c m0 m i : Nat} (hn : 24 < n) (hb : Base j K L q σ τ D B c m0) (hi : i < q) (hM : JM K B T c m0 m) (hk : B.1 23 (5 * i) = 3) (hbd : B.1 23 (5 * i + 2) ≤ B.1 23 (5 * i + 3) ∧ (-1000000) ≤ B.1 23 (5 * i + 2) ∧ B.1 23 (5 * i + 3) ≤ 1000000) : StepT n j K B D σ c m0 i T m := by
  obtain ⟨hMB, hCB, hcK, hB4, hm0, hq6, hst, hsd⟩ := id hb
  have hc : c < 4 := by have := hMB.1.1; omega
  obtain ⟨s22, s23, s24, s25, s26, -⟩ := hsd i hi
  have e23 : T.1 23 = B.1 23 := (frT_of hM).1 23 (by omega)
  have hSh := JM_sh hM hc
  have hact : ∃ y : Int32, (y ≠ 0 ↔ B.1 23 (5 * i + 4) = 1) ∧ m_X8_act n T (nI i) = (m_X8_rangeField n T (B.1 23 (5 * i + 1)) (B.1 23 (5 * i + 2)) (B.1 23 (5 * i + 3)) y).bind chk := by
    rw [p_act (by omega), e23, hk, if_neg (by decide), if_neg (by decide), if_neg (by decide), if_pos rfl]
    by_cases h1 : B.1 23 (5 * i + 4) = 1
    · rw [if_neg (fun h => h h1)]
      exact ⟨1, ⟨fun _ => h1, fun _ => one_ne⟩, rfl⟩
    · rw [if_pos h1]
      exact ⟨0, ⟨fun h => absurd rfl h, fun h => absurd h h1⟩, rfl⟩
  obtain ⟨y, hy, hact⟩ := hact
  rcases A_range (n := n) (a := B.1 23 (5 * i + 1)) (b := B.1 23 (5 * i + 2)) (d := B.1 23 (5 * i + 3)) (y := y) hn hM hc hm0 hbd with ⟨h1, h2⟩ | ⟨k0, hk0, h2, h3, h4, h5, h6⟩
  · refine ⟨T, Or.inl ⟨by rw [hact, h1]; rfl, frT_of hM, fun S rec h => FrP_can ?_⟩⟩
    have f := h.2.1
    refine (B_range (by omega) h.1 hSh (by rw [f 22 (by omega) (by omega), s22]; exact hk)).2 ?_
    rw [f 23 (by omega) (by omega), f 24 (by omega) (by omega), f 25 (by omega) (by omega), f 26 (by omega) (by omega), s23, s24, s25, s26, ← hy]
    exact h2
  · have r35 : ∀ g, g ≠ 31 → g ≠ 32 → g ≠ 34 → (rgM T c k0 (B.1 23 (5 * i + 2)) (B.1 23 (5 * i + 3))).1 g = T.1 g := fun g g1 g2 g3 => by
      unfold rgM
      funext l
      rw [mR_at, if_neg g3, mI_at, if_neg (fun h => g2 h.1), mI_at, if_neg (fun h => g1 h.1)]
    refine ⟨_, Or.inr ⟨m, by rw [hact, h5]; rfl, step_plain hb hi (by rw [s22, hk]; decide) (by rw [s22, hk]; decide) h6 (r35 14 (by omega) (by omega) (by omega)) (r35 35 (by omega) (by omega) (by omega)) (fun S rec h => FrP_can ?_) (fun S rec h => ?_) (fun S L1 h => ?_)⟩⟩
    · have f := h.2.1
      refine (B_range (by omega) h.1 hSh (by rw [f 22 (by omega) (by omega), s22]; exact hk)).1 ?_
      rw [f 23 (by omega) (by omega), f 24 (by omega) (by omega), f 25 (by omega) (by omega), f 26 (by omega) (by omega), s23, s24, s25, s26, ← hy]
      exact ⟨k0, hk0, h2, h3, h4⟩
    · have f := h.2.1
      have g24 : S.1 24 i 0 = B.1 23 (5 * i + 2) := by rw [f 24 (by omega) (by omega), s24]
      have g25 : S.1 25 i 0 = B.1 23 (5 * i + 3) := by rw [f 25 (by omega) (by omega), s25]
      refine R_range (by omega) h.1 hSh (by rw [f 22 (by omega) (by omega), s22]; exact hk) hk0 (by rw [f 23 (by omega) (by omega), s23]; exact h2) (by rw [r35 28 (by omega) (by omega) (by omega)]; exact hM.2.2.1) (r35 29 (by omega) (by omega) (by omega)) (r35 30 (by omega) (by omega) (by omega)) (fun k => ?_) (fun k => ?_) (r35 33 (by omega) (by omega) (by omega))
      · rw [g24]
        unfold rgM
        rw [mR_at, if_neg (by omega), mI_at, if_neg (by omega), mI_at]
        by_cases e : k = k0
        · rw [if_pos ⟨rfl, e⟩, if_pos e]
        · rw [if_neg (fun h => e h.2), if_neg e]
      · rw [g25]
        unfold rgM
        rw [mR_at, if_neg (by omega), mI_at]
        by_cases e : k = k0
        · rw [if_pos ⟨rfl, e⟩, if_pos e]
        · rw [if_neg (fun h => e h.2), if_neg e, mI_at, if_neg (by omega)]
    · have f := JC_row h
      have g24 : S.1 24 i 0 = B.1 23 (5 * i + 2) := by rw [f 24 (by omega), s24]
      have g25 : S.1 25 i 0 = B.1 23 (5 * i + 3) := by rw [f 25 (by omega), s25]
      have := C_range hn hM h hc (by rw [f 22 (by omega), s22]; exact hk) hk0 (by rw [f 23 (by omega), s23]; exact h2) h3 (by rw [g24, g25]; exact hbd.1)
      rw [g24, g25] at this
      exact this
theorem step_number {n j K L q : Nat} {σ τ : Nat → Nat} {D : CSt} {B T : MSt} {c m0 m i : Nat} (hn : 24 < n) (hb : Base j K L q σ τ D B c m0) (hi : i < q) (hM : JM K B T c m0 m) (hk : B.1 23 (5 * i) = 2) (hbd : B.1 23 (5 * i + 2) ≤ B.1 23 (5 * i + 3) ∧ (-1000000) ≤ B.1 23 (5 * i + 2) ∧ B.1 23 (5 * i + 3) ≤ 1000000) : StepT n j K B D σ c m0 i T m := by
  obtain ⟨hMB, hCB, hcK, hB4, hm0, hq6, hst, hsd⟩ := id hb
  have hc : c < 4 := by have := hMB.1.1; omega
  obtain ⟨s22, s23, s24, s25, s26, sF⟩ := hsd i hi
  obtain ⟨⟨x, hx, ex⟩, -⟩ := (hst i hi).1
  obtain ⟨len, hl, h24, hW, hr⟩ := (hst i hi).2 hk
  obtain ⟨f20, f21⟩ := sF hk
  have e23 : T.1 23 = B.1 23 := (frT_of hM).1 23 (by omega)
  have hSh := JM_sh hM hc
  have hShB := base_sh hMB hc hm0 hB4
  have hact : m_X8_act n T (nI i) = (m_X8_numberField n T (nI i) (nI x) (B.1 23 (5 * i + 2)) (B.1 23 (5 * i + 3))).bind chk := by rw [p_act (by omega), e23, hk, if_neg (by decide), if_neg (by decide), if_pos rfl, ex]
  have hSB := hCB.2.1 c m0 hc hm0 hB4
  have hcan : ∀ S rec, JB D S T m rec → Ok (m_X7_canDo n S i (nI c) rec) (fun o => FrP S o.2 ∧ ((o.1 = 1 ∧ (Fits B c m0 (fun k => B.1 25 (12 * i + k)) len (B.1 23 (5 * i + 2)) (B.1 23 (5 * i + 3)) ∧ (∀ k, k < m → T.1 29 k ≠ nI x) ∧ m < 6)) ∨ (o.1 = 0 ∧ ¬ (Fits B c m0 (fun k => B.1 25 (12 * i + k)) len (B.1 23 (5 * i + 2)) (B.1 23 (5 * i + 3)) ∧ (∀ k, k < m → T.1 29 k ≠ nI x) ∧ m < 6)))) := fun S rec h => by
    have f := h.2.1
    have f2 := h.2.2.1
    have := B_number (n := n) (i := i) (m := m) (K := K) (c := c) (m0 := m0) (len := len) (S := S) (T := T) (B := B) (rec := rec) (f := fun k => B.1 25 (12 * i + k)) (by omega) h.1 hSh hc (by rw [f 22 (by omega) (by omega), s22]; exact hk) hShB (by
      unfold ShC
      rw [f2 5 _ (by omega) (by omega) (by omega), f2 6 _ (by omega) (by omega) (by omega), f2 7 _ (by omega) (by omega) (by omega), f2 8 _ (by omega) (by omega) (by omega), f2 9 _ (by omega) (by omega) (by omega)]
      exact hSB) hl (by rw [f 20 (by omega) (by omega), f20]; exact h24) (fun k hk' => by rw [f 21 (by omega) (by omega)]; exact f21 len k hl h24 hk') hW hr
    rw [f 23 (by omega) (by omega), f 24 (by omega) (by omega), f 25 (by omega) (by omega), s23, s24, s25, ex] at this
    exact this
  rcases A_number (n := n) (x := x) (i := i) (len := len) (b := B.1 23 (5 * i + 2)) (d := B.1 23 (5 * i + 3)) (f := fun k => B.1 25 (12 * i + k)) hn hMB hB4 hM hc hm0 hx (by omega) hbd hl h24 (fun _ _ => rfl) hW hr with ⟨T', h1, h2, h3⟩ | ⟨h1, h2, h3, T', val, hval, h4, h5, g1, g28, g29, g30, g31, g32, g33, g34⟩
  · refine ⟨T', Or.inl ⟨by rw [hact, h1]; rfl, h2, fun S rec h => ok_mono (hcan S rec h) (fun o ho => ⟨?_, ho.1⟩)⟩⟩
    rcases ho.2 with ⟨-, z⟩ | ⟨z, -⟩
    · exact absurd z h3
    · exact z
  · refine ⟨T', Or.inr ⟨m + 1, by rw [hact, h4]; rfl, step_plain hb hi (by rw [s22, hk]; decide) (by rw [s22, hk]; decide) h5 (g1 14 (by omega)) (g1 35 (by omega)) (fun S rec h => ok_mono (hcan S rec h) (fun o ho => ⟨?_, ho.1⟩)) (fun S rec h => ?_) (fun S L1 h => ?_)⟩⟩
    · rcases ho.2 with ⟨z, -⟩ | ⟨-, z⟩
      · exact z
      · exact absurd ⟨h1, h2, h3⟩ z
    · have f := h.2.1
      have q23 : S.1 23 i 0 = nI x := by rw [f 23 (by omega) (by omega), s23, ex]
      have q24 : S.1 24 i 0 = B.1 23 (5 * i + 2) := by rw [f 24 (by omega) (by omega), s24]
      have q25 : S.1 25 i 0 = B.1 23 (5 * i + 3) := by rw [f 25 (by omega) (by omega), s25]
      exact R_number (by omega) h.1 hSh h3 (by rw [f 22 (by omega) (by omega), s22]; exact hk) g28 (by rw [q23]; exact g29) g30 (by rw [q24]; exact g31) (by rw [q25]; exact g32) g33
    · have f := JC_row h
      have q23 : S.1 23 i 0 = nI x := by rw [f 23 (by omega), s23, ex]
      have q24 : S.1 24 i 0 = B.1 23 (5 * i + 2) := by rw [f 24 (by omega), s24]
      have q25 : S.1 25 i 0 = B.1 23 (5 * i + 3) := by rw [f 25 (by omega), s25]
      refine C_number (len := len) (f := fun k => B.1 25 (12 * i + k)) (val := val) hn hMB hB4 hm0 (fun r k hr h14 hk' h0 => ?_) hM h hc h3 (by rw [f 22 (by omega), s22]; exact hk) (by rw [q24, q25]; exact hbd) hl (by rw [f 20 (by omega), f20]; exact h24) (fun k hk' => by rw [f 21 (by omega)]; exact f21 len k hl h24 hk') hW hr (by rw [q24, q25]; exact hval) g1 g28 (by rw [q23]; exact g29) g30 (by rw [q24]; exact g31) (by rw [q25]; exact g32) g33 g34
      have := hCB.2.2.2.2.2.2.1 r c k 0 ⟨hr, hc, h14, ⟨m0, hm0, hB4, hk'⟩, h0⟩
      rw [if_pos rfl] at this
      exact this
