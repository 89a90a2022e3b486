theorem p_isStepJ {n : Nat} {M : MSt} {K w : Nat} (hn : 12 < n) (hw : w ≤ 12) (h20 : M.1 20 0 = nI w) (hW : ∀ k, k < w → isW (M.1 21 k)) (hK : M.1 1 0 = nI K) (hK4 : K ≤ 4) (kd a b c d y : Int32) (hy : (y = 1 ∧ (b ≤ c ∧ (-1000000) ≤ b ∧ c ≤ 1000000)) ∨ (y = 0 ∧ ¬ (b ≤ c ∧ (-1000000) ≤ b ∧ c ≤ 1000000))) : (m_X8_isStep_J24 n M kd a b c d y = some 1 ∧ SC K (rgt (M.1 21) w = some 1) kd a b c d) ∨ (m_X8_isStep_J24 n M kd a b c d y = some 0 ∧ ¬ SC K (rgt (M.1 21) w = some 1) kd a b c d) := by
  unfold m_X8_isStep_J24 SC
  by_cases n0 : kd < 0
  · rw [if_pos n0]
    refine Or.inr ⟨rfl, fun h => ?_⟩
    rcases h.2 with h | h | h | h | h | h | h
    · rw [h] at n0; exact absurd n0 (by decide)
    · rw [h] at n0; exact absurd n0 (by decide)
    · rw [h.1] at n0; exact absurd n0 (by decide)
    · rw [h.1] at n0; exact absurd n0 (by decide)
    · rw [h.1] at n0; exact absurd n0 (by decide)
    · rw [h.1] at n0; exact absurd n0 (by decide)
    · rw [h.1] at n0; exact absurd n0 (by decide)
  rw [if_neg n0]
  by_cases n6 : 6 < kd
  · rw [if_pos n6]
    refine Or.inr ⟨rfl, fun h => ?_⟩
    rcases h.2 with h | h | h | h | h | h | h
    · rw [h] at n6; exact absurd n6 (by decide)
    · rw [h] at n6; exact absurd n6 (by decide)
    · rw [h.1] at n6; exact absurd n6 (by decide)
    · rw [h.1] at n6; exact absurd n6 (by decide)
    · rw [h.1] at n6; exact absurd n6 (by decide)
    · rw [h.1] at n6; exact absurd n6 (by decide)
    · rw [h.1] at n6; exact absurd n6 (by decide)
  rw [if_neg n6]
  rcases nI_lt3 (x := a) (N := 10) (by decide) with ha | ⟨hne, ha⟩
  · obtain ⟨x, hx, e⟩ := id ha
    rw [e, p_isName n M hx, Option.bind_some, if_pos one_ne, ← e]
    by_cases k1 : kd = 1
    · rw [if_pos k1]
      subst k1
      rcases nI_lt3 (x := b) (N := 10) (by decide) with hb | ⟨hne, hb⟩
      · obtain ⟨y, hy, e⟩ := id hb
        rw [e, p_isName n M hy, ← e]
        exact Or.inl ⟨rfl, ha, Or.inr (Or.inr (Or.inl ⟨rfl, hb⟩))⟩
      · rw [p_isName0 n M hb]
        refine Or.inr ⟨rfl, fun h => hne ?_⟩
        simpa using h.2
    rw [if_neg k1]
    by_cases k2 : kd = 2
    · rw [if_pos k2]
      subst k2
      rcases hy with ⟨hy, hr⟩ | ⟨hy, hr⟩
      · rw [hy, if_neg one_ne, p_isRight hn hw h20 hW, Option.bind_some]
        by_cases hR : rgt (M.1 21) w = some 1
        · rw [if_pos hR, if_neg one_ne]
          exact Or.inl ⟨rfl, ha, Or.inr (Or.inr (Or.inr (Or.inl ⟨rfl, hr, hR⟩)))⟩
        · rw [if_neg hR]
          refine Or.inr ⟨rfl, fun h => hR ?_⟩
          have h2 := h.2
          simp at h2
          exact h2.2
      · rw [if_pos hy]
        refine Or.inr ⟨rfl, fun h => hr ?_⟩
        have h2 := h.2
        simp only [(by decide : ¬ (2 : Int32) = 0), (by decide : ¬ (2 : Int32) = 1), (by decide : ¬ (2 : Int32) = 3), (by decide : ¬ (2 : Int32) = 4), (by decide : ¬ (2 : Int32) = 5), (by decide : ¬ (2 : Int32) = 6), false_and, false_or, or_false, true_and] at h2
        exact h2.1
    rw [if_neg k2]
    by_cases k3 : kd = 3
    · rw [if_pos k3]
      subst k3
      have simp3 : ((3 : Int32) = 0 ∨ (3 : Int32) = 6 ∨ ((3 : Int32) = 1 ∧ ∃ x, x < 10 ∧ b = nI x) ∨ ((3 : Int32) = 2 ∧ (b ≤ c ∧ (-1000000) ≤ b ∧ c ≤ 1000000) ∧ rgt (M.1 21) w = some 1) ∨ ((3 : Int32) = 3 ∧ (b ≤ c ∧ (-1000000) ≤ b ∧ c ≤ 1000000) ∧ (d = 0 ∨ d = 1)) ∨ ((3 : Int32) = 4 ∧ ∃ x, x < K ∧ b = nI x) ∨ ((3 : Int32) = 5 ∧ (∃ x, x < K ∧ b = nI x) ∧ 1 ≤ c ∧ c ≤ 1023)) → (b ≤ c ∧ (-1000000) ≤ b ∧ c ≤ 1000000) ∧ (d = 0 ∨ d = 1) := fun h2 => by
        simp only [(by decide : ¬ (3 : Int32) = 0), (by decide : ¬ (3 : Int32) = 1), (by decide : ¬ (3 : Int32) = 2), (by decide : ¬ (3 : Int32) = 4), (by decide : ¬ (3 : Int32) = 5), (by decide : ¬ (3 : Int32) = 6), false_and, false_or, or_false, true_and] at h2
        exact h2
      rcases hy with ⟨hy, hr⟩ | ⟨hy, hr⟩
      · rw [hy, if_neg one_ne]
        by_cases d0 : d = 0
        · rw [if_pos d0]
          exact Or.inl ⟨rfl, ha, Or.inr (Or.inr (Or.inr (Or.inr (Or.inl ⟨rfl, hr, Or.inl d0⟩))))⟩
        · rw [if_neg d0]
          by_cases d1 : d = 1
          · rw [if_neg (fun h => h d1)]
            exact Or.inl ⟨rfl, ha, Or.inr (Or.inr (Or.inr (Or.inr (Or.inl ⟨rfl, hr, Or.inr d1⟩))))⟩
          · rw [if_pos d1]
            refine Or.inr ⟨rfl, fun h => ?_⟩
            rcases (simp3 h.2).2 with h | h
            · exact d0 h
            · exact d1 h
      · rw [if_pos hy]
        exact Or.inr ⟨rfl, fun h => hr (simp3 h.2).1⟩
    rw [if_neg k3]
    by_cases k4 : kd = 4
    · rw [if_pos k4]
      subst k4
      rcases nI_lt3 (x := b) (N := K) (by omega) with hb | ⟨hne, hb⟩
      · obtain ⟨y, hy, e⟩ := id hb
        rw [e, p_isClass n hK hK4 hy, ← e]
        exact Or.inl ⟨rfl, ha, Or.inr (Or.inr (Or.inr (Or.inr (Or.inr (Or.inl ⟨rfl, hb⟩)))))⟩
      · rw [p_isClass0 n hK hb]
        refine Or.inr ⟨rfl, fun h => hne ?_⟩
        simpa using h.2
    rw [if_neg k4]
    by_cases k5 : kd = 5
    · rw [if_pos k5]
      subst k5
      have simp5 : ((5 : Int32) = 0 ∨ (5 : Int32) = 6 ∨ ((5 : Int32) = 1 ∧ ∃ x, x < 10 ∧ b = nI x) ∨ ((5 : Int32) = 2 ∧ (b ≤ c ∧ (-1000000) ≤ b ∧ c ≤ 1000000) ∧ rgt (M.1 21) w = some 1) ∨ ((5 : Int32) = 3 ∧ (b ≤ c ∧ (-1000000) ≤ b ∧ c ≤ 1000000) ∧ (d = 0 ∨ d = 1)) ∨ ((5 : Int32) = 4 ∧ ∃ x, x < K ∧ b = nI x) ∨ ((5 : Int32) = 5 ∧ (∃ x, x < K ∧ b = nI x) ∧ 1 ≤ c ∧ c ≤ 1023)) → (∃ x, x < K ∧ b = nI x) ∧ 1 ≤ c ∧ c ≤ 1023 := fun h2 => by
        simp only [(by decide : ¬ (5 : Int32) = 0), (by decide : ¬ (5 : Int32) = 1), (by decide : ¬ (5 : Int32) = 2), (by decide : ¬ (5 : Int32) = 4), (by decide : ¬ (5 : Int32) = 3), (by decide : ¬ (5 : Int32) = 6), false_and, false_or, or_false, true_and] at h2
        exact h2
      rcases nI_lt3 (x := b) (N := K) (by omega) with hb | ⟨hne, hb⟩
      · obtain ⟨y, hy, e⟩ := id hb
        rw [e, p_isClass n hK hK4 hy, ← e, Option.bind_some, if_neg one_ne]
        by_cases c1 : c < 1
        · rw [if_pos c1]
          exact Or.inr ⟨rfl, fun h => Int32.not_lt.mpr (simp5 h.2).2.1 c1⟩
        · rw [if_neg c1]
          by_cases c2 : 1023 < c
          · rw [if_pos c2]
            exact Or.inr ⟨rfl, fun h => Int32.not_lt.mpr (simp5 h.2).2.2 c2⟩
          · rw [if_neg c2]
            exact Or.inl ⟨rfl, ha, Or.inr (Or.inr (Or.inr (Or.inr (Or.inr (Or.inr ⟨rfl, hb, Int32.not_lt.mp c1, Int32.not_lt.mp c2⟩)))))⟩
      · rw [p_isClass0 n hK hb]
        exact Or.inr ⟨rfl, fun h => hne (simp5 h.2).1⟩
    rw [if_neg k5]
    refine Or.inl ⟨rfl, ha, ?_⟩
    by_cases k0 : kd = 0
    · exact Or.inl k0
    · refine Or.inr (Or.inl ?_)
      simp only [Int32.lt_iff_toInt_lt, Int32.reduceToInt, ← Int32.toInt_inj] at n0 n6 k0 k1 k2 k3 k4 k5 ⊢
      omega
  · rw [p_isName0 n M ha]
    exact Or.inr ⟨rfl, fun h => hne h.1⟩
theorem p_isStep {n : Nat} {M : MSt} {K w : Nat} (hn : 12 < n) (hw : w ≤ 12) (h20 : M.1 20 0 = nI w) (hW : ∀ k, k < w → isW (M.1 21 k)) (hK : M.1 1 0 = nI K) (hK4 : K ≤ 4) (kd a b c d : Int32) : (m_X8_isStep n M kd a b c d = some 1 ∧ SC K (rgt (M.1 21) w = some 1) kd a b c d) ∨ (m_X8_isStep n M kd a b c d = some 0 ∧ ¬ SC K (rgt (M.1 21) w = some 1) kd a b c d) := by
  unfold m_X8_isStep m_X8_isStep_J23
  by_cases h1 : c < b
  · rw [if_pos h1]
    exact p_isStepJ hn hw h20 hW hK hK4 kd a b c d 0 (Or.inr ⟨rfl, fun h => Int32.not_lt.mpr h.1 h1⟩)
  · rw [if_neg h1]
    by_cases h2 : b < (-1000000)
    · rw [if_pos h2]
      exact p_isStepJ hn hw h20 hW hK hK4 kd a b c d 0 (Or.inr ⟨rfl, fun h => Int32.not_lt.mpr h.2.1 h2⟩)
    · rw [if_neg h2]
      by_cases h3 : 1000000 < c
      · rw [if_pos h3]
        exact p_isStepJ hn hw h20 hW hK hK4 kd a b c d 0 (Or.inr ⟨rfl, fun h => Int32.not_lt.mpr h.2.2 h3⟩)
      · rw [if_neg h3]
        exact p_isStepJ hn hw h20 hW hK hK4 kd a b c d 1 (Or.inl ⟨rfl, Int32.not_lt.mp h1, Int32.not_lt.mp h2, Int32.not_lt.mp h3⟩)
theorem SC_StOk {K : Nat} {R : Prop} {kd a b c d : Int32} (h : SC K R kd a b c d) : StOk K kd a b c d ∧ (kd = 2 → R) := by
  obtain ⟨h0, h⟩ := h
  refine ⟨⟨h0, ?_⟩, fun e => ?_⟩
  · rcases h with h | h | h | h | h | h | h
    · exact Or.inl h
    · exact Or.inr (Or.inl h)
    · exact Or.inr (Or.inr (Or.inl h))
    · exact Or.inr (Or.inr (Or.inr (Or.inl ⟨Or.inl h.1, h.2.1⟩)))
    · exact Or.inr (Or.inr (Or.inr (Or.inl ⟨Or.inr h.1, h.2.1⟩)))
    · exact Or.inr (Or.inr (Or.inr (Or.inr (Or.inl h))))
    · refine Or.inr (Or.inr (Or.inr (Or.inr (Or.inr ⟨h.1, h.2.1, ?_⟩))))
      obtain ⟨x, hx, e⟩ := nI_of2 (x := c) (M := 1023) (n := 1023) (by decide) (fun h2 => Int32.not_lt.mpr h.2.2.1 (Int32.lt_of_lt_of_le h2 (by decide))) h.2.2.2
      refine ⟨x, ?_, hx, e⟩
      have h3 := h.2.2.1
      rw [e] at h3
      exact (nI_leI (a := 1) (b := x) (by decide) (by omega)).mp h3
  · subst e
    rcases h with h | h | h | h | h | h | h
    · exact absurd h (by decide)
    · exact absurd h (by decide)
    · exact absurd h.1 (by decide)
    · exact h.2.2
    · exact absurd h.1 (by decide)
    · exact absurd h.1 (by decide)
    · exact absurd h.1 (by decide)
/-! ===== step ===== -/
theorem p_stepL {n : Nat} {M : MSt} {q w : Nat} {a b c d e : Int32} (hn : 12 < n) (hq : q < 6) (hw : w ≤ 12) (h20 : M.1 20 0 = nI w) (h22 : M.1 22 0 = nI q) : lpO (b_X8_step_63 n a b c d e) n (M, 0) = some (mR M 25 (fun l => if 12 * q ≤ l ∧ l < 12 * q + w then M.1 21 (l - 12 * q) else M.1 25 l)) := by
  refine ok_get (ok_for2 (N := w) (by omega) (I := fun k S => S = mR M 25 (fun l => if 12 * q ≤ l ∧ l < 12 * q + k then M.1 21 (l - 12 * q) else M.1 25 l)) (fun k S hk hS => ?_) (mR_self M 25 (funext fun r => if_neg (fun h => by omega))))
  have e20 : S.1 20 = M.1 20 := by rw [hS]; rfl
  have e21 : S.1 21 = M.1 21 := by rw [hS]; rfl
  have e22 : S.1 22 = M.1 22 := by rw [hS]; rfl
  unfold b_X8_step_63
  show Ok (if S.1 20 0 ≤ nI k then _ else (bif inB (nI k) 12 then (bif inB (12 * S.1 22 0 + nI k) 72 then (nm (mI S 25 ((12 * S.1 22 0 + nI k).toNatClampNeg) (S.1 21 (nI k).toNatClampNeg)) _) else none) else none)) _
  rw [e20, e21, e22, h20, h22, ix12, Ok_ite]
  refine ⟨fun h => ?_, fun h => ?_⟩
  · have e : k = w := ge_eq (by omega) hk h
    rw [Ok_some, ← e]
    exact hS
  · have hk2 : k < w := nge_lt (by omega) hk h
    rw [Ok_bif, Ok_bif, Ok_nm, Ok_nm, Ok_some, nI_clamp (by omega), nI_clamp (by omega)]
    refine ⟨inB_nI (by omega) (by omega), inB_nI (by omega) (by omega), hk2, nI_1 k, ?_⟩
    show mI S 25 (12 * q + k) (M.1 21 k) = _
    rw [hS]
    refine mI_mR _ _ _ _ _ _ (fun l => ?_)
    by_cases e : l = 12 * q + k
    · rw [if_pos e, if_pos ⟨by omega, by omega⟩, show l - 12 * q = k by omega]
    · rw [if_neg e]
      have : (12 * q ≤ l ∧ l < 12 * q + (k + 1)) ↔ (12 * q ≤ l ∧ l < 12 * q + k) := by omega
      simp only [this]
theorem p_stepJ {n : Nat} {M : MSt} {q : Nat} {a b c d e : Int32} (hq : q < 6) (h22 : M.1 22 0 = nI q) : m_X8_step_J118 n M a b c d e = some (nI (q + 1), mI (mI (mI (mI (mI (mI M 23 (5 * q) a) 23 (5 * q + 1) b) 23 (5 * q + 2) c) 23 (5 * q + 3) d) 23 (5 * q + 4) e) 22 0 (nI (q + 1))) := by
  have i1 : 5 * nI q + 1 = nI (5 * q + 1) := by rw [ix5, nI_1]
  have i2 : 5 * nI q + 2 = nI (5 * q + 2) := by rw [ix5]; exact nI_add _ 2
  have i3 : 5 * nI q + 3 = nI (5 * q + 3) := by rw [ix5]; exact nI_add _ 3
  have i4 : 5 * nI q + 4 = nI (5 * q + 4) := by rw [ix5]; exact nI_add _ 4
  unfold m_X8_step_J118
  show (bif inB (5 * M.1 22 0) 30 then (bif inB (5 * M.1 22 0 + 1) 30 then (bif inB (5 * M.1 22 0 + 2) 30 then (bif inB (5 * M.1 22 0 + 3) 30 then (bif inB (5 * M.1 22 0 + 4) 30 then some (M.1 22 0 + 1, mI (mI (mI (mI (mI (mI M 23 (5 * M.1 22 0).toNatClampNeg a) 23 (5 * M.1 22 0 + 1).toNatClampNeg b) 23 (5 * M.1 22 0 + 2).toNatClampNeg c) 23 (5 * M.1 22 0 + 3).toNatClampNeg d) 23 (5 * M.1 22 0 + 4).toNatClampNeg e) 22 0 (M.1 22 0 + 1)) else none) else none) else none) else none) else none) = _
  rw [h22, i1, i2, i3, i4, ix5, nI_1, inB_nI (by omega) (by omega), inB_nI (by omega) (by omega), inB_nI (by omega) (by omega), inB_nI (by omega) (by omega), inB_nI (by omega) (by omega), nI_clamp (by omega), nI_clamp (by omega), nI_clamp (by omega), nI_clamp (by omega), nI_clamp (by omega)]
  rfl
