/-! ===== change: a class gets another shape, its records other values ===== -/
theorem MI_reshape {K : Nat} {m m' : Nat → Nat → Int32} (hM : MI K m) {c q q' : Nat} {ψ : Nat → Nat} (hc : c < 4) (hq : m 4 c = nI q) (hq6 : q ≤ 6)
    (e1 : m' 1 = m 1) (e2 : m' 2 = m 2) (e3c : m' 3 c = 0) (e3 : ∀ d, d ≠ c → m' 3 d = m 3 d) (e4c : m' 4 c = nI q') (e4 : ∀ d, d ≠ c → m' 4 d = m 4 d)
    (es : ∀ g, 5 ≤ g → g ≤ 8 → ∀ d k, d ≠ c → k < 6 → r6 (m' g) d k = r6 (m g) d k) (hSh : Sh K q' (r6 (m' 5) c) (r6 (m' 6) c) (r6 (m' 7) c) (r6 (m' 8) c))
    (e14 : m' 14 = m 14) (e15 : m' 15 = m 15) (e16 : ∀ r k, k < 6 → m 14 r ≠ nI c → r6 (m' 16) r k = r6 (m 16) r k) (eo : ∀ g, 9 ≤ g → g ≤ 13 → m' g = m g) (e17 : m' 17 = m 17) (e19 : m' 19 = m 19) (ew : ∀ g, 20 ≤ g → g ≤ 25 → m' g = m g)
    (hN : ∀ r k, r < 24 → m 14 r = nI c → k < q' → r6 (m' 6) c k = 0 → r6 (m' 7) c k ≤ r6 (m' 16) r k ∧ r6 (m' 16) r k ≤ r6 (m' 8) c k)
    (hR : ∀ k, k < q' → r6 (m' 6) c k = 1 → (∃ k0, k0 < q ∧ r6 (m 6) c k0 = 1 ∧ ∀ r, r < 24 → m 14 r = nI c → r6 (m' 16) r k = r6 (m 16) r k0) ∨ ∀ r, r < 24 → m 14 r = nI c → r6 (m' 16) r k = -1)
    (hO : ∀ k, k < q' → r6 (m' 6) c k = 2 → ψ k < q ∧ r6 (m 6) c (ψ k) = 2 ∧ r6 (m' 7) c k = r6 (m 7) c (ψ k) ∧ ∀ r, r < 24 → m 14 r = nI c → r6 (m' 16) r k = r6 (m 16) r (ψ k))
    (hOi : ∀ k, k < q' → r6 (m' 6) c k = 2 → ∀ k2, k2 < q' → r6 (m' 6) c k2 = 2 → ψ k = ψ k2 → k = k2) : MI K m' := by
  obtain ⟨hcls, hsh, hrec, hval, hroot, hrank, hold, hwrd, hstp⟩ := id hM
  have hK4 : K ≤ 4 := hcls.1
  have hq'6 := hSh.1
  have fl : ∀ {r d k x}, Fld (m' 4) (m' 6) (m' 14) r d k x → (d = c ∧ r < 24 ∧ m 14 r = nI c ∧ k < q' ∧ r6 (m' 6) c k = x) ∨ (d ≠ c ∧ Fld (m 4) (m 6) (m 14) r d k x ∧ m 14 r ≠ nI c) := by
    intro r d k x h
    have hk6 := Fld_lt h
    obtain ⟨hr, hd, h14, ⟨w, hw6, hw, hk⟩, hx⟩ := h
    rw [e14] at h14
    by_cases e : d = c
    · subst e
      rw [e4c] at hw
      have ew : q' = w := (nI_eq (by omega) (by omega)).mp hw
      exact Or.inl ⟨rfl, hr, h14, by omega, hx⟩
    · rw [e4 d e] at hw
      rw [es 6 (by omega) (by omega) d k e hk6] at hx
      exact Or.inr ⟨e, ⟨hr, hd, h14, ⟨w, hw6, hw, hk⟩, hx⟩, fun h => e (nI_inj4 hd hc (h14.symm.trans h))⟩
  have own : ∀ {r k p}, Own (m' 4) (m' 6) (m' 14) (m' 16) r k p → (m 14 r = nI c ∧ k < q' ∧ r6 (m' 6) c k = 2 ∧ Own (m 4) (m 6) (m 14) (m 16) r (ψ k) p) ∨ (m 14 r ≠ nI c ∧ Own (m 4) (m 6) (m 14) (m 16) r k p) := by
    rintro r k p ⟨d, h1, h2⟩
    rcases fl h1 with ⟨e, hr, h14, hk, hx⟩ | ⟨e, hF, h14⟩
    · obtain ⟨o1, o2, o3, o4⟩ := hO k hk hx
      rw [o4 r hr h14] at h2
      exact Or.inl ⟨h14, hk, hx, c, ⟨hr, hc, h14, ⟨q, hq6, hq, o1⟩, o2⟩, h2⟩
    · rw [e16 r k (Fld_lt h1) h14] at h2
      exact Or.inr ⟨h14, d, hF, h2⟩
  have nown : ∀ {p}, (∀ r' k', ¬ Own (m 4) (m 6) (m 14) (m 16) r' k' p) → ∀ r' k', ¬ Own (m' 4) (m' 6) (m' 14) (m' 16) r' k' p := by
    intro p hp r' k' ho
    rcases own ho with ⟨-, -, -, h⟩ | ⟨-, h⟩
    · exact hp _ _ h
    · exact hp _ _ h
  have refs : ∀ {w : Int32}, (w = -1 ∨ ∃ p, p < 24 ∧ w = nI p ∧ m 14 p ≠ -1 ∧ ∀ r' k', ¬ Own (m 4) (m 6) (m 14) (m 16) r' k' p) → (w = -1 ∨ ∃ p, p < 24 ∧ w = nI p ∧ m' 14 p ≠ -1 ∧ ∀ r' k', ¬ Own (m' 4) (m' 6) (m' 14) (m' 16) r' k' p) := by
    intro w hw
    rcases hw with hw | ⟨p, w1, w2, w3, w4⟩
    · exact Or.inl hw
    · exact Or.inr ⟨p, w1, w2, by rw [e14]; exact w3, nown w4⟩
  refine ⟨⟨hK4, by rw [e1]; exact hcls.2.1, fun d hd => ?_⟩, fun d hd => ?_, by rw [e2, e14, e15]; exact hrec, ⟨fun r d k h => ?_, fun r d k h => ?_, fun r d k h => ?_, fun r k r' k' p h h' => ?_⟩, by rw [e14, e19]; exact hroot, ?_, fun d hd => ?_, by rw [ew 20 (by omega) (by omega), ew 21 (by omega) (by omega)]; exact hwrd, by rw [ew 22 (by omega) (by omega), ew 23 (by omega) (by omega), ew 24 (by omega) (by omega), ew 25 (by omega) (by omega)]; exact hstp⟩
  · rw [e2]
    by_cases e : d = c
    · rw [e, e3c]
      obtain ⟨⟨v, v1, v2, v3⟩, v4⟩ := hcls.2.2 c hc
      exact ⟨⟨v, v1, v2, fun h => absurd h (by decide)⟩, Or.inl rfl⟩
    · rw [e3 d e]
      exact hcls.2.2 d hd
  · by_cases e : d = c
    · rw [e]
      exact ⟨q', e4c, hSh⟩
    · obtain ⟨w, hw, hS⟩ := hsh d hd
      have hw6 := hS.1
      refine ⟨w, by rw [e4 d e]; exact hw, hw6, fun i hi i' hi' h => ?_, fun i hi => ?_⟩
      · rw [es 5 (by omega) (by omega) d i e (by omega), es 5 (by omega) (by omega) d i' e (by omega)] at h
        exact hS.2.1 i hi i' hi' h
      · rw [es 5 (by omega) (by omega) d i e (by omega), es 6 (by omega) (by omega) d i e (by omega), es 7 (by omega) (by omega) d i e (by omega), es 8 (by omega) (by omega) d i e (by omega)]
        exact hS.2.2 i hi
  · rcases fl h with ⟨e, hr, h14, hk, hx⟩ | ⟨e, hF, h14⟩
    · subst e
      exact hN r k hr h14 hk hx
    · rw [e16 r k (Fld_lt h) h14, es 7 (by omega) (by omega) d k e (Fld_lt h), es 8 (by omega) (by omega) d k e (Fld_lt h)]
      exact hval.1 r d k hF
  · rcases fl h with ⟨e, hr, h14, hk, hx⟩ | ⟨e, hF, h14⟩
    · rcases hR k hk hx with ⟨k0, r1, r2, r3⟩ | r1
      · rw [r3 r hr h14]
        exact refs (hval.2.1 r c k0 ⟨hr, hc, h14, ⟨q, hq6, hq, r1⟩, r2⟩)
      · exact Or.inl (r1 r hr h14)
    · rw [e16 r k (Fld_lt h) h14]
      exact refs (hval.2.1 r d k hF)
  · rw [e14]
    rcases fl h with ⟨e, hr, h14, hk, hx⟩ | ⟨e, hF, h14⟩
    · subst e
      obtain ⟨o1, o2, o3, o4⟩ := hO k hk hx
      rw [o4 r hr h14, o3]
      exact hval.2.2.1 r d (ψ k) ⟨hr, hc, h14, ⟨q, hq6, hq, o1⟩, o2⟩
    · rw [e16 r k (Fld_lt h) h14, es 7 (by omega) (by omega) d k e (Fld_lt h)]
      exact hval.2.2.1 r d k hF
  · rcases own h with ⟨a1, a2, a3, a4⟩ | ⟨a1, a4⟩
    · rcases own h' with ⟨b1, b2, b3, b4⟩ | ⟨b1, b4⟩
      · obtain ⟨x1, x2⟩ := hval.2.2.2 _ _ _ _ _ a4 b4
        exact ⟨x1, hOi k a2 a3 k' b2 b3 x2⟩
      · obtain ⟨x1, -⟩ := hval.2.2.2 _ _ _ _ _ a4 b4
        rw [x1] at a1
        exact absurd a1 b1
    · rcases own h' with ⟨b1, b2, b3, b4⟩ | ⟨b1, b4⟩
      · obtain ⟨x1, -⟩ := hval.2.2.2 _ _ _ _ _ a4 b4
        rw [← x1] at b1
        exact absurd b1 a1
      · exact hval.2.2.2 _ _ _ _ _ a4 b4
  · obtain ⟨ρ, r1, r2, r3⟩ := hrank
    refine ⟨ρ, r1, r2, fun d w k d' hd hw6 hw hk hx hd' h7 => ?_⟩
    by_cases e : d = c
    · subst e
      rw [e4c] at hw
      have ew : q' = w := (nI_eq (by omega) (by omega)).mp hw
      obtain ⟨o1, o2, o3, -⟩ := hO k (by omega) hx
      exact r3 d q (ψ k) d' hc hq6 hq o1 o2 hd' (o3.symm.trans h7)
    · rw [e4 d e] at hw
      rw [es 6 (by omega) (by omega) d k e (by omega)] at hx
      rw [es 7 (by omega) (by omega) d k e (by omega)] at h7
      exact r3 d w k d' hd hw6 hw hk hx hd' h7
  · obtain ⟨mo, g1, g2, g3⟩ := hold d hd
    rw [eo 9 (by omega) (by omega), eo 10 (by omega) (by omega), eo 11 (by omega) (by omega), eo 12 (by omega) (by omega), eo 13 (by omega) (by omega), e14, e17]
    refine ⟨mo, g1, g2, fun h => ?_⟩
    by_cases e : d = c
    · rw [e, e3c] at h
      exact absurd h (by decide)
    · rw [e3 d e] at h
      obtain ⟨c1, c2, c3, φ, c4, c5⟩ := g3 h
      refine ⟨c1, c2, fun r k hr h14 hk hx => ?_, φ, fun k hk hx => ?_, c5⟩
      · have := refs (c3 r k hr h14 hk hx)
        rw [e14] at this
        exact this
      · obtain ⟨⟨w, d1, d2, d3⟩, d4, d5, d6⟩ := c4 k hk hx
        rw [es 6 (by omega) (by omega) d _ e (by omega), es 7 (by omega) (by omega) d _ e (by omega)]
        refine ⟨⟨w, d1, by rw [e4 d e]; exact d2, d3⟩, d4, d5, fun r hr h14 => ?_⟩
        rw [e16 r _ (by omega) (fun h => e (nI_inj4 hd hc (h14.symm.trans h)))]
        exact d6 r hr h14
theorem CR_reshape {j K L : Nat} {σ τ : Nat → Nat} {s s' : Nat → Nat → Nat → Int32} {m m' : Nat → Nat → Int32} (hM : MI K m) (hC : CR j K L σ τ s m) {c q' : Nat} (hc : c < 4) (hq6 : q' ≤ 6)
    (e2 : m' 2 = m 2) (e3c : m' 3 c = 0) (e3 : ∀ d, d ≠ c → m' 3 d = m 3 d) (e4c : m' 4 c = nI q') (e4 : ∀ d, d ≠ c → m' 4 d = m 4 d)
    (es : ∀ g, 5 ≤ g → g ≤ 8 → ∀ d k, d ≠ c → k < 6 → r6 (m' g) d k = r6 (m g) d k) (e14 : m' 14 = m 14) (e15 : m' 15 = m 15) (e16 : ∀ r k, k < 6 → m 14 r ≠ nI c → r6 (m' 16) r k = r6 (m 16) r k) (eo : ∀ g, 9 ≤ g → g ≤ 13 → m' g = m g) (e17 : m' 17 = m 17) (e19 : m' 19 = m 19) (ew : ∀ g, 20 ≤ g → g ≤ 26 → m' g = m g)
    (fr : ∀ g, g ≠ 4 → g ≠ 17 → g ≠ 27 → (g < 5 ∨ 10 < g) → s' g = s g) (f4c : s' 4 c 0 = 0) (f4 : ∀ d, d ≠ c → s' 4 d 0 = s 4 d 0) (fs : ∀ g i, 5 ≤ g → g ≤ 9 → i < 8 → i ≠ 2 * c → s' g i = s g i)
    (hS : ShC (s' 5) (s' 6) (s' 7) (s' 8) (s' 9) (2 * c) q' (r6 (m' 5) c) (r6 (m' 6) c) (r6 (m' 7) c) (r6 (m' 8) c))
    (f17 : ∀ r k, r < 24 → m 14 r ≠ -1 → m 14 r ≠ nI c → k < 6 → s' 17 (σ r) k = s 17 (σ r) k)
    (hV : ∀ r k, r < 24 → m 14 r = nI c → k < q' → s' 17 (σ r) k = if r6 (m' 6) c k = 0 then r6 (m' 16) r k else tr σ (s 13) (r6 (m' 16) r k)) : CR j K L σ τ s' m' := by
  obtain ⟨kcls, ksh, kold, krec, kid, kcnt, kval, kroot, koldv, kwrd, kstp, kflt⟩ := id hC
  have s13 : s' 13 = s 13 := fr 13 (by omega) (by omega) (by omega) (by omega)
  refine ⟨⟨by rw [fr 0 (by omega) (by omega) (by omega) (by omega)]; exact kcls.1, fun d hd => ⟨by rw [fr 3 (by omega) (by omega) (by omega) (by omega), e2]; exact (kcls.2 d hd).1, ?_⟩⟩, fun d w hd hw6 hw => ?_, fun d w hd hw6 hw h3 => ?_, by rw [s13, fr 14 (by omega) (by omega) (by omega) (by omega), fr 15 (by omega) (by omega) (by omega) (by omega), e14, e15]; exact krec, by rw [s13, fr 12 (by omega) (by omega) (by omega) (by omega)]; exact kid, by rw [fr 11 (by omega) (by omega) (by omega) (by omega), e14]; exact kcnt, fun r d k x h => ?_, by rw [s13, fr 19 (by omega) (by omega) (by omega) (by omega), e19]; exact kroot, fun d mo r k hd h3 hmo h9 hr h14 hk => ?_, by rw [fr 20 (by omega) (by omega) (by omega) (by omega), fr 21 (by omega) (by omega) (by omega) (by omega), ew 20 (by omega) (by omega), ew 21 (by omega) (by omega)]; exact kwrd, ?_, by rw [fr 2 (by omega) (by omega) (by omega) (by omega), ew 26 (by omega) (by omega)]; exact kflt⟩
  · by_cases e : d = c
    · rw [e, f4c, e3c]
    · rw [f4 d e, e3 d e]
      exact (kcls.2 d hd).2
  · by_cases e : d = c
    · subst e
      rw [e4c] at hw
      have ew : q' = w := (nI_eq (by omega) (by omega)).mp hw
      subst ew
      exact hS
    · rw [e4 d e] at hw
      obtain ⟨p1, p2⟩ := ksh d w hd hw6 hw
      refine ⟨by rw [fs 5 _ (by omega) (by omega) (by omega) (by omega)]; exact p1, fun k hk => ?_⟩
      rw [fs 6 _ (by omega) (by omega) (by omega) (by omega), fs 7 _ (by omega) (by omega) (by omega) (by omega), fs 8 _ (by omega) (by omega) (by omega) (by omega), fs 9 _ (by omega) (by omega) (by omega) (by omega), es 5 (by omega) (by omega) d k e (by omega), es 6 (by omega) (by omega) d k e (by omega), es 7 (by omega) (by omega) d k e (by omega), es 8 (by omega) (by omega) d k e (by omega)]
      exact p2 k hk
  · have e : d ≠ c := fun e => by rw [e, e3c] at h3; exact absurd h3 (by decide)
    rw [e3 d e] at h3
    rw [eo 9 (by omega) (by omega)] at hw
    rw [eo 10 (by omega) (by omega), eo 11 (by omega) (by omega), eo 12 (by omega) (by omega), eo 13 (by omega) (by omega)]
    obtain ⟨p1, p2⟩ := kold d w hd hw6 hw h3
    refine ⟨by rw [fs 5 _ (by omega) (by omega) (by omega) (by omega)]; exact p1, fun k hk => ?_⟩
    rw [fs 6 _ (by omega) (by omega) (by omega) (by omega), fs 7 _ (by omega) (by omega) (by omega) (by omega), fs 8 _ (by omega) (by omega) (by omega) (by omega), fs 9 _ (by omega) (by omega) (by omega) (by omega)]
    exact p2 k hk
  · rw [s13]
    have hk6 := Fld_lt h
    obtain ⟨hr, hd, h14, ⟨w, hw6, hw, hk⟩, hx⟩ := h
    rw [e14] at h14
    by_cases e : d = c
    · subst e
      rw [e4c] at hw
      have ew : q' = w := (nI_eq (by omega) (by omega)).mp hw
      rw [hV r k hr h14 (by omega), hx]
    · rw [e4 d e] at hw
      rw [es 6 (by omega) (by omega) d k e hk6] at hx
      have hne : m 14 r ≠ nI c := fun h => e (nI_inj4 hd hc (h14.symm.trans h))
      rw [f17 r k hr (by rw [h14]; exact nI_ne_m1 (by omega)) hne hk6, e16 r k hk6 hne]
      exact kval r d k x ⟨hr, hd, h14, ⟨w, hw6, hw, hk⟩, hx⟩
  · have e : d ≠ c := fun e => by rw [e, e3c] at h3; exact absurd h3 (by decide)
    rw [e3 d e] at h3
    rw [eo 9 (by omega) (by omega)] at h9
    rw [e14] at h14
    rw [s13, fr 18 (by omega) (by omega) (by omega) (by omega), eo 11 (by omega) (by omega), e17]
    exact koldv d mo r k hd h3 hmo h9 hr h14 hk
  · rw [fr 1 (by omega) (by omega) (by omega) (by omega), fr 20 (by omega) (by omega) (by omega) (by omega), fr 21 (by omega) (by omega) (by omega) (by omega), fr 22 (by omega) (by omega) (by omega) (by omega), fr 23 (by omega) (by omega) (by omega) (by omega), fr 24 (by omega) (by omega) (by omega) (by omega), fr 25 (by omega) (by omega) (by omega) (by omega), fr 26 (by omega) (by omega) (by omega) (by omega), ew 22 (by omega) (by omega), ew 23 (by omega) (by omega), ew 24 (by omega) (by omega), ew 25 (by omega) (by omega)]
    exact kstp
