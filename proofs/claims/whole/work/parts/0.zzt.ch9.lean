/-! ===== change: how the reference begins ===== -/
def BegM (M B : MSt) (c m0 : Nat) : Prop :=
  (∀ g, g < 27 ∨ 39 < g → B.1 g = M.1 g) ∧ B.1 27 0 = nI c ∧ B.1 28 0 = nI m0 ∧ B.1 35 0 = 0 ∧ B.1 36 0 = 0 ∧
  (∀ k, k < m0 → B.1 29 k = r6 (M.1 5) c k ∧ B.1 30 k = r6 (M.1 6) c k ∧ B.1 31 k = r6 (M.1 7) c k ∧ B.1 32 k = r6 (M.1 8) c k ∧ B.1 33 k = nI k) ∧
  (∀ l, l < 144 → B.1 34 l = M.1 16 l ∧ B.1 39 l = M.1 16 l) ∧ ∀ r, r < 24 → B.1 37 r = M.1 14 r ∧ B.1 38 r = M.1 15 r
theorem p_begin {n : Nat} {M : MSt} {c m0 : Nat} (hn : 200 < n) (hc : c < 4) (h4 : M.1 4 c = nI m0) (hm0 : m0 ≤ 6) : Ok (m_X8_begin n M (nI c)) (fun B => BegM M B c m0) := by
  unfold m_X8_begin
  rw [Ok_nm, Ok_bif, Ok_nm, Ok_nm, Ok_nm, nI_clamp (by omega)]
  refine ⟨inB_nI hc (by omega), ?_⟩
  have e4 : (mI M 27 0 (nI c)).1 4 c = nI m0 := by rw [mI_at, if_neg (by omega)]; exact h4
  rw [e4]
  generalize hS : mI (mI (mI (mI M 27 0 (nI c)) 28 0 (nI m0)) 35 0 0) 36 0 0 = S
  have sO : ∀ g, g ≠ 27 → g ≠ 28 → g ≠ 35 → g ≠ 36 → S.1 g = M.1 g := fun g a b c d => by
    funext l
    rw [← hS, mI_at, if_neg (fun h => d h.1), mI_at, if_neg (fun h => c h.1), mI_at, if_neg (fun h => b h.1), mI_at, if_neg (fun h => a h.1)]
  have s27 : S.1 27 0 = nI c := by rw [← hS, mI_at, if_neg (by omega), mI_at, if_neg (by omega), mI_at, if_neg (by omega), mI_eq]
  have s28 : S.1 28 0 = nI m0 := by rw [← hS, mI_at, if_neg (by omega), mI_at, if_neg (by omega), mI_eq]
  have s35 : S.1 35 0 = 0 := by rw [← hS, mI_at, if_neg (by omega), mI_eq]
  have s36 : S.1 36 0 = 0 := by rw [← hS, mI_eq]
  -- the shape
  have l1 : Ok (lpO (b_X8_begin_27 n (nI c)) n (S, 0)) (fun T => (∀ g, g < 29 ∨ 33 < g → T.1 g = S.1 g) ∧ ∀ k, k < m0 → T.1 29 k = r6 (M.1 5) c k ∧ T.1 30 k = r6 (M.1 6) c k ∧ T.1 31 k = r6 (M.1 7) c k ∧ T.1 32 k = r6 (M.1 8) c k ∧ T.1 33 k = nI k) := by
    refine ok_for2 (N := m0) (by omega) (I := fun q T => (∀ g, g < 29 ∨ 33 < g → T.1 g = S.1 g) ∧ ∀ k, k < q → T.1 29 k = r6 (M.1 5) c k ∧ T.1 30 k = r6 (M.1 6) c k ∧ T.1 31 k = r6 (M.1 7) c k ∧ T.1 32 k = r6 (M.1 8) c k ∧ T.1 33 k = nI k) (fun k T hk hI => ?_) ⟨fun _ _ => rfl, fun k hk => absurd hk (Nat.not_lt_zero _)⟩
    obtain ⟨a1, a2⟩ := hI
    unfold b_X8_begin_27
    dsimp only
    rw [a1 28 (by omega), s28, Ok_ite]
    refine ⟨fun h3 => ?_, fun h3 => ?_⟩
    · rw [Ok_some]
      have ek := ge_eq (by omega) hk h3
      subst ek
      exact ⟨a1, a2⟩
    · have hk2 := nge_lt (by omega) hk h3
      have b24 : inB (nI (6 * c + k)) 24 = true := inB_nI (by omega) (by omega)
      have b6 : inB (nI k) 6 = true := inB_nI (by omega) (by omega)
      rw [ix6, b24, b6, nI_clamp (by omega), nI_clamp (by omega)]
      show Ok (some (Sum.inl (mI (mI (mI (mI (mI T 29 k (T.1 5 (6 * c + k))) 30 k (T.1 6 (6 * c + k))) 31 k (T.1 7 (6 * c + k))) 32 k (T.1 8 (6 * c + k))) 33 k (nI k), nI k + 1))) _
      rw [Ok_some, nI_1, a1 5 (by omega), a1 6 (by omega), a1 7 (by omega), a1 8 (by omega), sO 5 (by omega) (by omega) (by omega) (by omega), sO 6 (by omega) (by omega) (by omega) (by omega), sO 7 (by omega) (by omega) (by omega) (by omega), sO 8 (by omega) (by omega) (by omega) (by omega)]
      refine ⟨hk2, rfl, fun g hg => ?_, fun k' hk' => ?_⟩
      · funext l
        rw [mI_at, if_neg (by omega), mI_at, if_neg (by omega), mI_at, if_neg (by omega), mI_at, if_neg (by omega), mI_at, if_neg (by omega), a1 g hg]
      · by_cases e : k' = k
        · subst e
          refine ⟨?_, ?_, ?_, ?_, ?_⟩
          · rw [mI_at, if_neg (by omega), mI_at, if_neg (by omega), mI_at, if_neg (by omega), mI_at, if_neg (by omega), mI_eq]; rfl
          · rw [mI_at, if_neg (by omega), mI_at, if_neg (by omega), mI_at, if_neg (by omega), mI_eq]; rfl
          · rw [mI_at, if_neg (by omega), mI_at, if_neg (by omega), mI_eq]; rfl
          · rw [mI_at, if_neg (by omega), mI_eq]; rfl
          · rw [mI_eq]
        · obtain ⟨z1, z2, z3, z4, z5⟩ := a2 k' (by omega)
          refine ⟨?_, ?_, ?_, ?_, ?_⟩
          · rw [mI_at, if_neg (by omega), mI_at, if_neg (by omega), mI_at, if_neg (by omega), mI_at, if_neg (by omega), mI_at, if_neg (by omega)]; exact z1
          · rw [mI_at, if_neg (by omega), mI_at, if_neg (by omega), mI_at, if_neg (by omega), mI_at, if_neg (by omega), mI_at, if_neg (by omega)]; exact z2
          · rw [mI_at, if_neg (by omega), mI_at, if_neg (by omega), mI_at, if_neg (by omega), mI_at, if_neg (by omega), mI_at, if_neg (by omega)]; exact z3
          · rw [mI_at, if_neg (by omega), mI_at, if_neg (by omega), mI_at, if_neg (by omega), mI_at, if_neg (by omega), mI_at, if_neg (by omega)]; exact z4
          · rw [mI_at, if_neg (by omega), mI_at, if_neg (by omega), mI_at, if_neg (by omega), mI_at, if_neg (by omega), mI_at, if_neg (by omega)]; exact z5
  refine ok_seq l1 (fun T1 h1 => ?_)
  obtain ⟨a1, a2⟩ := h1
  have l2 : Ok (lpO (b_X8_begin_118 n) n (T1, 0)) (fun T => (∀ g, g ≠ 34 → g ≠ 39 → T.1 g = T1.1 g) ∧ ∀ l, l < 144 → T.1 34 l = M.1 16 l ∧ T.1 39 l = M.1 16 l) := by
    refine ok_for2 (N := 144) (by omega) (I := fun q T => (∀ g, g ≠ 34 → g ≠ 39 → T.1 g = T1.1 g) ∧ ∀ l, l < q → T.1 34 l = M.1 16 l ∧ T.1 39 l = M.1 16 l) (fun k T hk hI => ?_) ⟨fun _ _ _ => rfl, fun k hk => absurd hk (Nat.not_lt_zero _)⟩
    obtain ⟨b1, b2⟩ := hI
    unfold b_X8_begin_118
    dsimp only
    rw [Ok_ite]
    refine ⟨fun h3 => ?_, fun h3 => ?_⟩
    · rw [Ok_some]
      have ek : k = 144 := ge_eq (by decide) hk h3
      subst ek
      exact ⟨b1, b2⟩
    · have hk2 : k < 144 := nge_lt (by decide) hk h3
      have b144 : inB (nI k) 144 = true := inB_nI hk2 (by omega)
      rw [b144, nI_clamp (by omega)]
      show Ok (some (Sum.inl (mI (mI T 34 k (T.1 16 k)) 39 k (T.1 16 k), nI k + 1))) _
      rw [Ok_some, nI_1, b1 16 (by omega) (by omega), a1 16 (by omega), sO 16 (by omega) (by omega) (by omega) (by omega)]
      refine ⟨hk2, rfl, fun g g1 g2 => ?_, fun l hl => ?_⟩
      · funext l
        rw [mI_at, if_neg (fun h => g2 h.1), mI_at, if_neg (fun h => g1 h.1), b1 g g1 g2]
      · by_cases e : l = k
        · subst e
          exact ⟨by rw [mI_at, if_neg (by omega), mI_eq], by rw [mI_eq]⟩
        · obtain ⟨z1, z2⟩ := b2 l (by omega)
          exact ⟨by rw [mI_at, if_neg (by omega), mI_at, if_neg (by omega)]; exact z1, by rw [mI_at, if_neg (by omega), mI_at, if_neg (by omega)]; exact z2⟩
  refine ok_seq l2 (fun T2 h2 => ?_)
  obtain ⟨b1, b2⟩ := h2
  have l3 : Ok (lpO (b_X8_begin_157 n) n (T2, 0)) (fun T => (∀ g, g ≠ 37 → g ≠ 38 → T.1 g = T2.1 g) ∧ ∀ r, r < 24 → T.1 37 r = M.1 14 r ∧ T.1 38 r = M.1 15 r) := by
    refine ok_for2 (N := 24) (by omega) (I := fun q T => (∀ g, g ≠ 37 → g ≠ 38 → T.1 g = T2.1 g) ∧ ∀ r, r < q → T.1 37 r = M.1 14 r ∧ T.1 38 r = M.1 15 r) (fun k T hk hI => ?_) ⟨fun _ _ _ => rfl, fun k hk => absurd hk (Nat.not_lt_zero _)⟩
    obtain ⟨d1, d2⟩ := hI
    unfold b_X8_begin_157
    dsimp only
    rw [Ok_ite]
    refine ⟨fun h3 => ?_, fun h3 => ?_⟩
    · rw [Ok_some]
      have ek : k = 24 := ge_eq (by decide) hk h3
      subst ek
      exact ⟨d1, d2⟩
    · have hk2 : k < 24 := nge_lt (by decide) hk h3
      have b24 : inB (nI k) 24 = true := inB_nI hk2 (by omega)
      rw [b24, nI_clamp (by omega)]
      show Ok (some (Sum.inl (mI (mI T 37 k (T.1 14 k)) 38 k (T.1 15 k), nI k + 1))) _
      rw [Ok_some, nI_1, d1 14 (by omega) (by omega), d1 15 (by omega) (by omega), b1 14 (by omega) (by omega), b1 15 (by omega) (by omega), a1 14 (by omega), a1 15 (by omega), sO 14 (by omega) (by omega) (by omega) (by omega), sO 15 (by omega) (by omega) (by omega) (by omega)]
      refine ⟨hk2, rfl, fun g g1 g2 => ?_, fun l hl => ?_⟩
      · funext l
        rw [mI_at, if_neg (fun h => g2 h.1), mI_at, if_neg (fun h => g1 h.1), d1 g g1 g2]
      · by_cases e : l = k
        · subst e
          exact ⟨by rw [mI_at, if_neg (by omega), mI_eq], by rw [mI_eq]⟩
        · obtain ⟨z1, z2⟩ := d2 l (by omega)
          exact ⟨by rw [mI_at, if_neg (by omega), mI_at, if_neg (by omega)]; exact z1, by rw [mI_at, if_neg (by omega), mI_at, if_neg (by omega)]; exact z2⟩
  refine ok_seq l3 (fun T3 h3 => ?_)
  obtain ⟨d1, d2⟩ := h3
  rw [Ok_some]
  have all : ∀ g, g ≠ 34 → g ≠ 39 → g ≠ 37 → g ≠ 38 → (g < 29 ∨ 33 < g) → T3.1 g = S.1 g := fun g x1 x2 x3 x4 x5 => by rw [d1 g x3 x4, b1 g x1 x2, a1 g x5]
  refine ⟨fun g hg => by rw [all g (by omega) (by omega) (by omega) (by omega) (by omega), sO g (by omega) (by omega) (by omega) (by omega)], by rw [all 27 (by omega) (by omega) (by omega) (by omega) (by omega)]; exact s27, by rw [all 28 (by omega) (by omega) (by omega) (by omega) (by omega)]; exact s28, by rw [all 35 (by omega) (by omega) (by omega) (by omega) (by omega)]; exact s35, by rw [all 36 (by omega) (by omega) (by omega) (by omega) (by omega)]; exact s36, fun k hk => ?_, fun l hl => ?_, d2⟩
  · rw [d1 29 (by omega) (by omega), d1 30 (by omega) (by omega), d1 31 (by omega) (by omega), d1 32 (by omega) (by omega), d1 33 (by omega) (by omega), b1 29 (by omega) (by omega), b1 30 (by omega) (by omega), b1 31 (by omega) (by omega), b1 32 (by omega) (by omega), b1 33 (by omega) (by omega)]
    exact a2 k hk
  · rw [d1 34 (by omega) (by omega), d1 39 (by omega) (by omega)]
    exact b2 l hl
theorem JM_begin {K : Nat} {M B : MSt} {c m0 : Nat} (hMB : MI K B.1) (hc : c < 4) (hm0 : m0 ≤ 6) (hB4 : B.1 4 c = nI m0) (h26 : B.1 26 0 = -1) (h : BegM M B c m0) : JM K B B c m0 m0 := by
  obtain ⟨g1, g27, g28, g35, g36, gs, g34, -⟩ := h
  have hSh := base_sh hMB hc hm0 hB4
  have e34 : ∀ r k, r < 24 → k < 6 → r6 (B.1 34) r k = r6 (B.1 16) r k := fun r k hr hk => by
    show B.1 34 (6 * r + k) = B.1 16 (6 * r + k)
    rw [(g34 (6 * r + k) (by omega)).1, g1 16 (by omega)]
  have gs' : ∀ k, k < m0 → B.1 29 k = r6 (B.1 5) c k ∧ B.1 30 k = r6 (B.1 6) c k ∧ B.1 31 k = r6 (B.1 7) c k ∧ B.1 32 k = r6 (B.1 8) c k ∧ B.1 33 k = nI k := fun k hk => by
    rw [g1 5 (by omega), g1 6 (by omega), g1 7 (by omega), g1 8 (by omega)]
    exact gs k hk
  have v14 : (vS B c).1 14 = B.1 14 := vS_o B c 14 (by omega) (by omega) (by omega)
  have f : ∀ g k, 5 ≤ g → g ≤ 8 → k < m0 → r6 ((vS B c).1 g) c k = r6 (B.1 g) c k := fun g k a b hk => by
    rw [vS_s _ _ g _ _ a b (by omega), if_pos rfl]
    rcases (show g = 5 ∨ g = 6 ∨ g = 7 ∨ g = 8 by omega) with e | e | e | e
    · subst e; exact (gs' k hk).1
    · subst e; exact (gs' k hk).2.1
    · subst e; exact (gs' k hk).2.2.1
    · subst e; exact (gs' k hk).2.2.2.1
  have s16 : ∀ r k, r < 24 → k < 6 → r6 ((vS B c).1 16) r k = r6 (B.1 16) r k := fun r k hr hk => by
    rw [vS_16 _ _ _ _ hk]
    split
    · exact e34 r k hr hk
    · rfl
  have ds0 : ∀ e, dsB (B.1 36 0) e = false := fun e => by
    rw [g36]
    unfold dsB
    simp
  have hMI : MI K (vS B c).1 := by
    refine MI_reshape (m := B.1) (m' := (vS B c).1) (c := c) (q := m0) (q' := m0) (ψ := fun k => k) hMB hc hB4 hm0 (vS_o _ _ 1 (by omega) (by omega) (by omega)) (vS_o _ _ 2 (by omega) (by omega) (by omega)) (if_pos (Or.inl rfl)) (fun e ee => ?_) ((if_pos rfl).trans g28) (fun e ee => if_neg ee) (fun g a b e k ee hk => ?_) ?_ v14 (vS_o _ _ 15 (by omega) (by omega) (by omega)) (fun r k hk hne => ?_) (fun g a b => vS_o _ _ g (by omega) (by omega) (by omega)) (vS_o _ _ 17 (by omega) (by omega) (by omega)) (vS_o _ _ 19 (by omega) (by omega) (by omega)) (fun g a b => vS_o _ _ g (by omega) (by omega) (by omega)) (fun r k hr h14 hk h0 => ?_) (fun k hk h1 => ?_) (fun k hk h2 => ?_) (fun k _ _ k2 _ _ e => e)
    · show (if e = c ∨ dsB (B.1 36 0) e = true then 0 else B.1 3 e) = _
      rw [ds0, if_neg (fun h => h.elim ee (fun h => by cases h))]
    · rw [vS_s _ _ g _ _ a b hk, if_neg ee]
    · refine ⟨hm0, fun i hi j hj e => hSh.2.1 i hi j hj ?_, fun i hi => ?_⟩
      · rw [f 5 i (by omega) (by omega) hi, f 5 j (by omega) (by omega) hj] at e
        exact e
      · rw [f 5 i (by omega) (by omega) hi, f 6 i (by omega) (by omega) hi, f 7 i (by omega) (by omega) hi, f 8 i (by omega) (by omega) hi]
        exact hSh.2.2 i hi
    · rw [vS_16 _ _ _ _ hk, if_neg hne]
    · rw [f 6 k (by omega) (by omega) hk] at h0
      rw [f 7 k (by omega) (by omega) hk, f 8 k (by omega) (by omega) hk, s16 r k hr (by omega)]
      exact base_val hMB hc hm0 hB4 hr h14 hk h0
    · rw [f 6 k (by omega) (by omega) hk] at h1
      exact Or.inl ⟨k, hk, h1, fun r hr h14 => s16 r k hr (by omega)⟩
    · rw [f 6 k (by omega) (by omega) hk] at h2
      exact ⟨hk, h2, f 7 k (by omega) (by omega) hk, fun r hr h14 => s16 r k hr (by omega)⟩
  refine ⟨hMI, hm0, g28, g27, h26, ⟨fun _ _ => rfl, fun _ _ => ⟨rfl, rfl⟩, fun _ _ => rfl⟩, fun _ _ => Iff.rfl, fun _ _ _ _ _ => ⟨rfl, rfl⟩, fun k hk => ?_, fun k hk k2 hk2 e _ => ?_, Or.inl g35, ⟨0, by omega, g36, fun d hd h => by
    have h0 : ∀ d, d < 4 → dsB (nI 0) d = false := by decide
    rw [h0 d hd] at h
    cases h⟩, fun _ => ⟨g36, rfl, rfl, rfl, fun k hk _ => ?_, fun o ho _ => ⟨o, ho, (gs' o ho).2.2.2.2⟩⟩⟩
  · obtain ⟨z1, z2, z3, z4, z5⟩ := gs' k hk
    exact Or.inr ⟨k, hk, z5, z2.symm, fun _ => ⟨z3.symm, fun r hr h14 => e34 r k hr (by omega)⟩⟩
  · rw [(gs' k hk).2.2.2.2, (gs' k2 hk2).2.2.2.2] at e
    exact (nI_eq (by omega) (by omega)).mp e
  · rw [(gs' k hk).2.2.2.2]
    exact nI_ne_m1 (by omega)
