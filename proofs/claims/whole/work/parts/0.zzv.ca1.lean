/-! ===== change: the class begins to carry out ===== -/
theorem CR_start {j K L : Nat} {σ τ : Nat → Nat} {s s' : Nat → Nat → Nat → Int32} {m m' : Nat → Nat → Int32} (hM : MI K m) (hC : CR j K L σ τ s m) {c q' : Nat} (hc : c < 4) (hq6 : q' ≤ 6)
    (e2 : m' 2 = m 2) (e3c : m' 3 c = 0) (e3 : ∀ d, d ≠ c → m' 3 d = m 3 d) (e4c : m' 4 c = nI q') (e4 : ∀ d, d ≠ c → m' 4 d = m 4 d)
    (es : ∀ g, 5 ≤ g → g ≤ 8 → ∀ d k, d ≠ c → k < 6 → r6 (m' g) d k = r6 (m g) d k) (e14 : m' 14 = m 14) (e15 : m' 15 = m 15) (e16 : ∀ r k, k < 6 → m 14 r ≠ nI c → r6 (m' 16) r k = r6 (m 16) r k) (eo : ∀ g, 9 ≤ g → g ≤ 13 → m' g = m g) (e17 : m' 17 = m 17) (e19 : m' 19 = m 19) (ew : ∀ g, 20 ≤ g → g ≤ 26 → m' g = m g)
    (fr : ∀ g, g ≠ 4 → g ≠ 17 → g ≠ 18 → g ≠ 27 → (g < 5 ∨ 10 < g) → s' g = s g) (f4c : s' 4 c 0 = 0) (f4 : ∀ d, d ≠ c → s' 4 d 0 = s 4 d 0) (fs : ∀ g i, 5 ≤ g → g ≤ 9 → i < 8 → i ≠ 2 * c → i ≠ 2 * c + 1 → s' g i = s g i)
    (hS : ShC (s' 5) (s' 6) (s' 7) (s' 8) (s' 9) (2 * c) q' (r6 (m' 5) c) (r6 (m' 6) c) (r6 (m' 7) c) (r6 (m' 8) c))
    (f17 : ∀ r k, r < 24 → m 14 r ≠ -1 → m 14 r ≠ nI c → k < 6 → s' 17 (σ r) k = s 17 (σ r) k)
    (f18 : ∀ r k, r < 24 → m 14 r ≠ -1 → m 14 r ≠ nI c → s' 18 (σ r) k = s 18 (σ r) k)
    (hV : ∀ r k, r < 24 → m 14 r = nI c → k < q' → s' 17 (σ r) k = if r6 (m' 6) c k = 0 then r6 (m' 16) r k else tr σ (s 13) (r6 (m' 16) r k)) : CR j K L σ τ s' m' := by
  obtain ⟨kcls, ksh, kold, krec, kid, kcnt, kval, kroot, koldv, kwrd, kstp, kflt⟩ := id hC
  have s13 : s' 13 = s 13 := fr 13 (by omega) (by omega) (by omega) (by omega) (by omega)
  refine ⟨⟨by rw [fr 0 (by omega) (by omega) (by omega) (by omega) (by omega)]; exact kcls.1, fun d hd => ⟨by rw [fr 3 (by omega) (by omega) (by omega) (by omega) (by omega), e2]; exact (kcls.2 d hd).1, ?_⟩⟩, fun d w hd hw6 hw => ?_, fun d w hd hw6 hw h3 => ?_, by rw [s13, fr 14 (by omega) (by omega) (by omega) (by omega) (by omega), fr 15 (by omega) (by omega) (by omega) (by omega) (by omega), e14, e15]; exact krec, by rw [s13, fr 12 (by omega) (by omega) (by omega) (by omega) (by omega)]; exact kid, by rw [fr 11 (by omega) (by omega) (by omega) (by omega) (by omega), e14]; exact kcnt, fun r d k x h => ?_, by rw [s13, fr 19 (by omega) (by omega) (by omega) (by omega) (by omega), e19]; exact kroot, fun d mo r k hd h3 hmo h9 hr h14 hk => ?_, by rw [fr 20 (by omega) (by omega) (by omega) (by omega) (by omega), fr 21 (by omega) (by omega) (by omega) (by omega) (by omega), ew 20 (by omega) (by omega), ew 21 (by omega) (by omega)]; exact kwrd, ?_, by rw [fr 2 (by omega) (by omega) (by omega) (by omega) (by omega), ew 26 (by omega) (by omega)]; exact kflt⟩
  · by_cases e : d = c
    · rw [e, f4c, e3c]
    · rw [f4 d e, e3 d e]
      exact (kcls.2 d hd).2
  · by_cases e : d = c
    · subst e
      rw [e4c] at hw
      have ew : q' = w := (nI_eq (by omega) (by omega)).mp hw
      subst ew
      exact hS
    · rw [e4 d e] at hw
      obtain ⟨p1, p2⟩ := ksh d w hd hw6 hw
      refine ⟨by rw [fs 5 _ (by omega) (by omega) (by omega) (by omega) (by omega)]; exact p1, fun k hk => ?_⟩
      rw [fs 6 _ (by omega) (by omega) (by omega) (by omega) (by omega), fs 7 _ (by omega) (by omega) (by omega) (by omega) (by omega), fs 8 _ (by omega) (by omega) (by omega) (by omega) (by omega), fs 9 _ (by omega) (by omega) (by omega) (by omega) (by omega), es 5 (by omega) (by omega) d k e (by omega), es 6 (by omega) (by omega) d k e (by omega), es 7 (by omega) (by omega) d k e (by omega), es 8 (by omega) (by omega) d k e (by omega)]
      exact p2 k hk
  · have e : d ≠ c := fun e => by rw [e, e3c] at h3; exact absurd h3 (by decide)
    rw [e3 d e] at h3
    rw [eo 9 (by omega) (by omega)] at hw
    rw [eo 10 (by omega) (by omega), eo 11 (by omega) (by omega), eo 12 (by omega) (by omega), eo 13 (by omega) (by omega)]
    obtain ⟨p1, p2⟩ := kold d w hd hw6 hw h3
    refine ⟨by rw [fs 5 _ (by omega) (by omega) (by omega) (by omega) (by omega)]; exact p1, fun k hk => ?_⟩
    rw [fs 6 _ (by omega) (by omega) (by omega) (by omega) (by omega), fs 7 _ (by omega) (by omega) (by omega) (by omega) (by omega), fs 8 _ (by omega) (by omega) (by omega) (by omega) (by omega), fs 9 _ (by omega) (by omega) (by omega) (by omega) (by omega)]
    exact p2 k hk
  · rw [s13]
    have hk6 := Fld_lt h
    obtain ⟨hr, hd, h14, ⟨w, hw6, hw, hk⟩, hx⟩ := h
    rw [e14] at h14
    by_cases e : d = c
    · subst e
      rw [e4c] at hw
      have ew : q' = w := (nI_eq (by omega) (by omega)).mp hw
      rw [hV r k hr h14 (by omega), hx]
    · rw [e4 d e] at hw
      rw [es 6 (by omega) (by omega) d k e hk6] at hx
      have hne : m 14 r ≠ nI c := fun h => e (nI_inj4 hd hc (h14.symm.trans h))
      rw [f17 r k hr (by rw [h14]; exact nI_ne_m1 (by omega)) hne hk6, e16 r k hk6 hne]
      exact kval r d k x ⟨hr, hd, h14, ⟨w, hw6, hw, hk⟩, hx⟩
  · have e : d ≠ c := fun e => by rw [e, e3c] at h3; exact absurd h3 (by decide)
    rw [e3 d e] at h3
    rw [eo 9 (by omega) (by omega)] at h9
    rw [e14] at h14
    have hne : m 14 r ≠ nI c := fun h => e (nI_inj4 hd hc (h14.symm.trans h))
    rw [s13, f18 r k hr (by rw [h14]; exact nI_ne_m1 (by omega)) hne, eo 11 (by omega) (by omega), e17]
    exact koldv d mo r k hd h3 hmo h9 hr h14 hk
  · rw [fr 1 (by omega) (by omega) (by omega) (by omega) (by omega), fr 20 (by omega) (by omega) (by omega) (by omega) (by omega), fr 21 (by omega) (by omega) (by omega) (by omega) (by omega), fr 22 (by omega) (by omega) (by omega) (by omega) (by omega), fr 23 (by omega) (by omega) (by omega) (by omega) (by omega), fr 24 (by omega) (by omega) (by omega) (by omega) (by omega), fr 25 (by omega) (by omega) (by omega) (by omega) (by omega), fr 26 (by omega) (by omega) (by omega) (by omega) (by omega), ew 22 (by omega) (by omega), ew 23 (by omega) (by omega), ew 24 (by omega) (by omega), ew 25 (by omega) (by omega)]
    exact kstp
theorem q_rememberAll {n : Nat} {S : CSt} {c : Nat} (hn : 24 < n) : Ok (m_X6_rememberAll n S (nI c)) (fun S' => (∀ g, g ≠ 18 → S'.1 g = S.1 g) ∧ (∀ e, e < 24 → isC S e c → ∀ k, k < 6 → S'.1 18 e k = S.1 17 e k) ∧ ∀ e, ¬ (e < 24 ∧ isC S e c) → S'.1 18 e = S.1 18 e) := by
  unfold m_X6_rememberAll
  refine ok_seq (P := fun S' => (∀ g, g ≠ 18 → S'.1 g = S.1 g) ∧ (∀ e, e < 24 → isC S e c → ∀ k, k < 6 → S'.1 18 e k = S.1 17 e k) ∧ ∀ e, ¬ (e < 24 ∧ isC S e c) → S'.1 18 e = S.1 18 e) ?_ (fun w hw => Ok_some.mpr hw)
  refine ok_for2 (N := 24) hn (I := fun k S' => (∀ g, g ≠ 18 → S'.1 g = S.1 g) ∧ (∀ e, e < k → isC S e c → ∀ k, k < 6 → S'.1 18 e k = S.1 17 e k) ∧ ∀ e, ¬ (e < k ∧ isC S e c) → S'.1 18 e = S.1 18 e) (fun k S' hk hI => ?_) ⟨fun _ _ => rfl, fun e he => absurd he (Nat.not_lt_zero _), fun _ _ => rfl⟩
  obtain ⟨h1, h2, h3⟩ := hI
  unfold b_X6_rememberAll_2
  dsimp only
  rw [Ok_ite]
  refine ⟨fun h => ?_, fun h => ?_⟩
  · have e : k = 24 := ge_eq (by decide) hk h
    rw [Ok_some]
    subst e
    exact ⟨h1, h2, h3⟩
  · have hk2 : k < 24 := nge_lt (by decide) hk h
    rw [Ok_bif, nI_clamp (by omega), q_isOf, Ok_bind, Ok_some, h1 13 (by omega), h1 14 (by omega), Ok_ite]
    refine ⟨inB_nI hk2 (by omega), fun h4 => ?_, fun h4 => ?_⟩
    · have hno : ¬ isC S k c := fun h5 => by
        rw [if_pos (by simp [h5.1, h5.2])] at h4
        exact one_ne h4
      rw [Ok_nm, Ok_some]
      refine ⟨hk2, nI_1 k, h1, fun e he hc => ?_, fun e he => h3 e (fun h5 => he ⟨by omega, h5.2⟩)⟩
      rcases Nat.lt_succ_iff_lt_or_eq.mp he with h5 | h5
      · exact h2 e h5 hc
      · rw [h5] at hc; exact absurd hc hno
    · have hyes : isC S k c := by
        have h5 := Decidable.byContradiction (fun h3 => h4 (if_neg h3))
        simp only [Bool.and_eq_true, Bool.not_eq_true', decide_eq_false_iff_not, decide_eq_true_eq] at h5
        exact h5
      rw [Ok_bif, Ok_bif, Ok_nm, Ok_nm, Ok_some]
      refine ⟨inB_nI hk2 (by omega), inB_nI hk2 (by omega), hk2, nI_1 k, fun g hg => ?_, fun e he hc k' hk' => ?_, fun e he => ?_⟩
      · funext e l
        rw [sR_at, if_neg (fun h => hg h.1), h1 g hg]
      · by_cases e1 : e = k
        · subst e1
          rw [sR_at, if_pos ⟨rfl, rfl⟩]
          show va_cpy (S'.1 17 e) (S'.1 18 e) 0 0 6 k' = _
          unfold va_cpy
          rw [if_pos ⟨by omega, by omega⟩, h1 17 (by omega)]
          rw [show 0 + (k' - 0) = k' by omega]
        · rw [sR_at, if_neg (fun h => e1 h.2)]
          exact h2 e (by omega) hc k' hk'
      · have e1 : e ≠ k := fun e1 => he ⟨by omega, by rw [e1]; exact hyes⟩
        rw [sR_ne _ _ _ _ e1]
        exact h3 e (fun h5 => he ⟨by omega, h5.2⟩)
/-- the class as it was when the change began, the draft and the pile aside -/
def JA (D S : CSt) : Prop := (∀ g, g ≠ 27 → (g < 5 ∨ 10 < g) → S.1 g = D.1 g) ∧ ∀ g i, 5 ≤ g → g ≤ 10 → i ≠ 8 → S.1 g i = D.1 g i
theorem q_carry0 {n j K L q : Nat} {σ τ : Nat → Nat} {D S0 : CSt} {M B : MSt} {c m0 : Nat} (hn : 200 < n) (hb : Base j K L q σ τ D B c m0) (hB : BegM M B c m0) (hA : JA D S0) : Ok (m_X4_copyFrom n S0 (2 * c + 1) (2 * c)) (fun S1 => Ok (m_X6_rememberAll n S1 (nI c)) (fun S2 => Ok (m_X4_startFrom n S2 8 (2 * c)) (fun S => JC j K B D σ c m0 S B m0 L))) := by
  obtain ⟨hMB, hCB, hcK, hB4, hm0, hq6, hst, hsd⟩ := id hb
  have hc : c < 4 := by have := hMB.1.1; omega
  have hSB := hCB.2.1 c m0 hc hm0 hB4
  obtain ⟨A1, A2⟩ := hA
  have e52 : S0.1 5 (2 * c) 0 = nI m0 := by rw [A2 5 (2 * c) (by omega) (by omega) (by omega)]; exact hSB.1
  rw [q_copyFrom (n := n) (S := S0) (i := 2 * c + 1) (i2 := 2 * c) (by omega) (by omega) hm0 e52, Ok_some]
  have p1 := cpS_sh S0 (i := 2 * c + 1) (i2 := 2 * c) (m := m0) (by omega)
  have pne : ∀ g i, i ≠ 2 * c + 1 → (cpS S0 (2 * c + 1) (2 * c) m0).1 g i = S0.1 g i := fun g i h => by
    funext l
    exact cpS_ne S0 (by omega) h
  have po : ∀ g, g < 5 ∨ 10 < g → (cpS S0 (2 * c + 1) (2 * c) m0).1 g = S0.1 g := fun g h => by
    funext i l
    rw [cpS_at _ _ _ _ _ _ _ (by omega), if_neg (by omega)]
  generalize cpS S0 (2 * c + 1) (2 * c) m0 = S1 at p1 pne po
  refine ok_mono (q_rememberAll (n := n) (S := S1) (c := c) (by omega)) (fun S2 h2 => ?_)
  obtain ⟨r1, r2, r3⟩ := h2
  have e5 : S2.1 5 (2 * c) 0 = nI m0 := by rw [r1 5 (by omega), pne 5 _ (by omega)]; exact e52
  refine ok_mono (q_startFrom (n := n) (S := S2) (i2 := 2 * c) (m0 := m0) (by omega) (by omega) hm0 e5) (fun S h3 => ?_)
  obtain ⟨hF, h5, hrow⟩ := h3
  have so : ∀ g, g ≠ 27 → g ≠ 18 → (g < 5 ∨ 10 < g) → S.1 g = D.1 g := fun g a b h => by rw [hF.1 g h, r1 g b, po g h, A1 g a h]
  have ss : ∀ g i, 5 ≤ g → g ≤ 10 → i ≠ 8 → i ≠ 2 * c + 1 → S.1 g i = D.1 g i := fun g i a b h h' => by rw [hF.2 g i a b h, r1 g (by omega), pne g i h', A2 g i a b h]
  have s1 : ∀ g, 5 ≤ g → g ≤ 10 → S.1 g (2 * c + 1) = S1.1 g (2 * c + 1) := fun g a b => by rw [hF.2 g _ a b (by omega), r1 g (by omega)]
  have hDE : DE S B m0 := by
    refine ⟨hm0, h5, hB.2.2.1, fun k hk => ?_⟩
    obtain ⟨z1, z2, z3, z4, z5⟩ := hrow k hk
    obtain ⟨y1, y2, y3, y4⟩ := hSB.2 k hk
    obtain ⟨x1, x2, x3, x4, x5⟩ := hB.2.2.2.2.2.1 k hk
    have g1 := hB.1
    rw [g1 5 (by omega), ← A2 6 _ (by omega) (by omega) (by omega), ← pne 6 _ (by omega), ← r1 6 (by omega)] at y1
    rw [g1 6 (by omega), ← A2 7 _ (by omega) (by omega) (by omega), ← pne 7 _ (by omega), ← r1 7 (by omega)] at y2
    rw [g1 7 (by omega), ← A2 8 _ (by omega) (by omega) (by omega), ← pne 8 _ (by omega), ← r1 8 (by omega)] at y3
    rw [g1 8 (by omega), ← A2 9 _ (by omega) (by omega) (by omega), ← pne 9 _ (by omega), ← r1 9 (by omega)] at y4
    rw [z1, z2, z3, z4, z5, y1, y2, y3, y4, x1, x2, x3, x4, x5]
    exact ⟨rfl, rfl, rfl, rfl, rfl⟩
  have e13 : S1.1 13 = D.1 13 := by rw [po 13 (by omega), A1 13 (by omega) (by omega)]
  have e14 : S1.1 14 = D.1 14 := by rw [po 14 (by omega), A1 14 (by omega) (by omega)]
  have e17 : S1.1 17 = D.1 17 := by rw [po 17 (by omega), A1 17 (by omega) (by omega)]
  have hrec := hCB.2.2.2.1
  have x18 : ∀ r k, r < 24 → B.1 14 r = nI c → k < 6 → S.1 18 (σ r) k = D.1 17 (σ r) k := fun r k hr h14 hk => by
    obtain ⟨v1, v2, v3, v4, v5⟩ := hrec.1 r hr (by rw [h14]; exact nI_ne_m1 (by omega))
    rw [hF.1 18 (by omega), r2 (σ r) v1 ⟨by rw [e13]; exact v3, by rw [e14, v4, h14]⟩ k hk, e17]
  have y18 : ∀ r k, r < 24 → B.1 14 r ≠ -1 → B.1 14 r ≠ nI c → S.1 18 (σ r) k = D.1 18 (σ r) k := fun r k hr h1 h2 => by
    obtain ⟨v1, v2, v3, v4, v5⟩ := hrec.1 r hr h1
    rw [hF.1 18 (by omega), r3 (σ r) (fun h => h2 (by rw [← v4, ← e14]; exact h.2.2)), po 18 (by omega), A1 18 (by omega) (by omega)]
  have ds0 : ∀ e, dsB (B.1 36 0) e = false := fun e => by
    rw [hB.2.2.2.2.1]
    unfold dsB
    simp
  have g28 := hB.2.2.1
  have gs' : ∀ k, k < m0 → B.1 29 k = r6 (B.1 5) c k ∧ B.1 30 k = r6 (B.1 6) c k ∧ B.1 31 k = r6 (B.1 7) c k ∧ B.1 32 k = r6 (B.1 8) c k ∧ B.1 33 k = nI k := fun k hk => by
    have g1 := hB.1
    rw [g1 5 (by omega), g1 6 (by omega), g1 7 (by omega), g1 8 (by omega)]
    exact hB.2.2.2.2.2.1 k hk
  have e34 : ∀ r k, r < 24 → k < 6 → r6 (B.1 34) r k = r6 (B.1 16) r k := fun r k hr hk => by
    show B.1 34 (6 * r + k) = B.1 16 (6 * r + k)
    rw [(hB.2.2.2.2.2.2.1 (6 * r + k) (by omega)).1, hB.1 16 (by omega)]
  have f : ∀ g k, 5 ≤ g → g ≤ 8 → k < m0 → r6 ((vS B c).1 g) c k = B.1 (g + 24) k := fun g k a b hk => by
    rw [vS_s _ _ g _ _ a b (by omega), if_pos rfl]
  have hCR : CR j K L σ τ (uS S c).1 (vS B c).1 := by
    refine CR_start (s := D.1) (s' := (uS S c).1) (m := B.1) (m' := (vS B c).1) (c := c) (q' := m0) hMB hCB hc hm0 (vS_o _ _ 2 (by omega) (by omega) (by omega)) (if_pos (Or.inl rfl)) (fun e ee => ?_) ((if_pos rfl).trans g28) (fun e ee => if_neg ee) (fun g a b e k ee hk => ?_) (vS_o _ _ 14 (by omega) (by omega) (by omega)) (vS_o _ _ 15 (by omega) (by omega) (by omega)) (fun r k hk hne => ?_) (fun g a b => vS_o _ _ g (by omega) (by omega) (by omega)) (vS_o _ _ 17 (by omega) (by omega) (by omega)) (vS_o _ _ 19 (by omega) (by omega) (by omega)) (fun g a b => vS_o _ _ g (by omega) (by omega) (by omega))
      (fun g a1 a2 a3 a4 a5 => ?_) (if_pos ⟨rfl, rfl⟩) (fun d hd => ?_) (fun g i a b h1 h2 h3 => ?_) ?_ (fun r k hr h1 h2 hk => ?_) (fun r k hr h1 h2 => ?_) (fun r k hr h14 hk => ?_)
    · show (if e = c ∨ dsB (B.1 36 0) e = true then 0 else B.1 3 e) = _
      rw [ds0, if_neg (fun h => h.elim ee (fun h => by cases h))]
    · rw [vS_s _ _ g _ _ a b hk, if_neg ee]
    · rw [vS_16 _ _ _ _ hk, if_neg hne]
    · rw [uS_o _ _ g (by omega), so g a4 a3 a5]
    · show (if d = c ∧ (0 : Nat) = 0 then 0 else S.1 4 d 0) = _
      rw [if_neg (fun h => hd h.1), so 4 (by omega) (by omega) (by omega)]
    · rw [uS_s _ _ g i a (by omega), if_neg h2, ss g i a (by omega) (by omega) h3]
    · refine ⟨?_, fun k hk => ?_⟩
      · rw [uS_s _ _ 5 _ (by omega) (by omega), if_pos rfl]
        exact h5
      · rw [uS_s _ _ 6 _ (by omega) (by omega), uS_s _ _ 7 _ (by omega) (by omega), uS_s _ _ 8 _ (by omega) (by omega), uS_s _ _ 9 _ (by omega) (by omega), if_pos rfl, if_pos rfl, if_pos rfl, if_pos rfl, f 5 k (by omega) (by omega) hk, f 6 k (by omega) (by omega) hk, f 7 k (by omega) (by omega) hk, f 8 k (by omega) (by omega) hk]
        obtain ⟨z1, z2, z3, z4, -⟩ := hDE.2.2.2 k hk
        exact ⟨z1, z2, z3, z4⟩
    · rw [uS_o _ _ 17 (by omega), so 17 (by omega) (by omega) (by omega)]
    · rw [uS_o _ _ 18 (by omega)]
      exact y18 r k hr h1 h2
    · rw [uS_o _ _ 17 (by omega), so 17 (by omega) (by omega) (by omega), f 6 k (by omega) (by omega) hk, vS_16 _ _ _ _ (by omega), if_pos h14, e34 r k hr (by omega), (gs' k hk).2.1]
      exact hCB.2.2.2.2.2.2.1 r c k _ ⟨hr, hc, h14, ⟨m0, hm0, hB4, hk⟩, rfl⟩
  refine ⟨σ, τ, L, Nat.le_refl _, hCR, hDE, fun _ _ _ => rfl, x18, ⟨?_, fun k hk => ?_⟩, fun g hg => so g (by omega) (by omega) (by omega), fun _ => ⟨fun _ => rfl, so 13 (by omega) (by omega) (by omega)⟩⟩
  · rw [s1 5 (by omega) (by omega)]
    exact p1.1
  · obtain ⟨z1, z2, z3, z4⟩ := p1.2 k hk
    obtain ⟨y1, y2, y3, y4⟩ := hSB.2 k hk
    rw [s1 6 (by omega) (by omega), s1 7 (by omega) (by omega), s1 8 (by omega) (by omega), s1 9 (by omega) (by omega), z1, z2, z3, z4, A2 6 _ (by omega) (by omega) (by omega), A2 7 _ (by omega) (by omega) (by omega), A2 8 _ (by omega) (by omega) (by omega), A2 9 _ (by omega) (by omega) (by omega)]
    exact ⟨y1, y2, y3, y4⟩
