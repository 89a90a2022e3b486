/-! ===== change: a part is joined back: the reference's memory, and the class's beside it ===== -/
/-- what the removal of the parts leaves alone -/
theorem join_own {K : Nat} {m : Nat → Nat → Int32} (hM : MI K m) {c d q k0 : Nat} {pt : Nat → Nat} (hc : c < 4) (hq : m 4 c = nI q) (hq6 : q ≤ 6) (hk0 : k0 < q) (h2 : r6 (m 6) c k0 = 2) (h7 : r6 (m 7) c k0 = nI d) (hd : d < 4)
    (hpt : ∀ r, r < 24 → m 14 r = nI c → pt r < 24 ∧ r6 (m 16) r k0 = nI (pt r)) : d ≠ c ∧ (∀ r, r < 24 → m 14 r = nI c → Own (m 4) (m 6) (m 14) (m 16) r k0 (pt r) ∧ m 14 (pt r) = nI d) ∧ (∀ r, r < 24 → m 14 r = nI c → ∀ r', r' < 24 → m 14 r' = nI c → pt r = pt r' → r = r') := by
  have hval := hM.2.2.2.1
  have ow : ∀ r, r < 24 → m 14 r = nI c → Own (m 4) (m 6) (m 14) (m 16) r k0 (pt r) := fun r hr h14 => ⟨c, ⟨hr, hc, h14, ⟨q, hq6, hq, hk0⟩, h2⟩, (hpt r hr h14).2⟩
  refine ⟨fun e => ?_, fun r hr h14 => ⟨ow r hr h14, ?_⟩, fun r hr h14 r' hr' h14' e => ?_⟩
  · obtain ⟨ρ, r1, r2, r3⟩ := hM.2.2.2.2.2.1
    have := r3 c q k0 d hc hq6 hq hk0 h2 hd h7
    rw [e] at this
    omega
  · obtain ⟨y, y1, y2, y3⟩ := hval.2.2.1 r c k0 ⟨hr, hc, h14, ⟨q, hq6, hq, hk0⟩, h2⟩
    have := (nI_eq (by have := (hpt r hr h14).1; omega) (by omega)).mp ((hpt r hr h14).2.symm.trans y2)
    rw [this, y3, h7]
  · have a := ow r hr h14
    rw [e] at a
    exact (hval.2.2.2 _ _ _ _ _ a (ow r' hr' h14')).1
theorem MI_join {K : Nat} {m m' : Nat → Nat → Int32} (hM : MI K m) {c d q q' k0 : Nat} {ψ pt : Nat → Nat} (hc : c < 4) (hq : m 4 c = nI q) (hq6 : q ≤ 6) (hk0 : k0 < q) (h2 : r6 (m 6) c k0 = 2) (h7 : r6 (m 7) c k0 = nI d) (hd : d < 4)
    (hpt : ∀ r, r < 24 → m 14 r = nI c → pt r < 24 ∧ r6 (m 16) r k0 = nI (pt r)) (hrt : ∀ i r, i < 8 → r < 24 → m 14 r = nI c → m 19 i ≠ nI (pt r))
    (e1 : m' 1 = m 1) (e2 : m' 2 = m 2) (e3c : m' 3 c = 0) (e3d : m' 3 d = 0) (e3 : ∀ e, e < 4 → e ≠ c → e ≠ d → m' 3 e = m 3 e) (e4c : m' 4 c = nI q') (e4 : ∀ e, e ≠ c → m' 4 e = m 4 e)
    (es : ∀ g, 5 ≤ g → g ≤ 8 → ∀ e k, e ≠ c → k < 6 → r6 (m' g) e k = r6 (m g) e k) (hSh : Sh K q' (r6 (m' 5) c) (r6 (m' 6) c) (r6 (m' 7) c) (r6 (m' 8) c))
    (z14 : ∀ r, r < 24 → m 14 r = nI c → m' 14 (pt r) = -1) (o14 : ∀ x, x < 24 → (∀ r, r < 24 → m 14 r = nI c → x ≠ pt r) → m' 14 x = m 14 x) (e15 : m' 15 = m 15) (o16 : ∀ x k, x < 24 → k < 6 → m 14 x ≠ nI c → r6 (m' 16) x k = r6 (m 16) x k)
    (eo : ∀ g, 9 ≤ g → g ≤ 13 → m' g = m g) (e17 : m' 17 = m 17) (e19 : m' 19 = m 19) (ew : ∀ g, 20 ≤ g → g ≤ 25 → m' g = m g)
    (hN : ∀ r k, r < 24 → m 14 r = nI c → k < q' → r6 (m' 6) c k = 0 → r6 (m' 7) c k ≤ r6 (m' 16) r k ∧ r6 (m' 16) r k ≤ r6 (m' 8) c k)
    (hR : ∀ k, k < q' → r6 (m' 6) c k = 1 → ∃ k1, k1 < q ∧ r6 (m 6) c k1 = 1 ∧ ∀ r, r < 24 → m 14 r = nI c → r6 (m' 16) r k = r6 (m 16) r k1)
    (hO : ∀ k, k < q' → r6 (m' 6) c k = 2 → ψ k < q ∧ ψ k ≠ k0 ∧ r6 (m 6) c (ψ k) = 2 ∧ r6 (m' 7) c k = r6 (m 7) c (ψ k) ∧ ∀ r, r < 24 → m 14 r = nI c → r6 (m' 16) r k = r6 (m 16) r (ψ k))
    (hOi : ∀ k, k < q' → r6 (m' 6) c k = 2 → ∀ k2, k2 < q' → r6 (m' 6) c k2 = 2 → ψ k = ψ k2 → k = k2) : MI K m' := by
  obtain ⟨hcls, hsh, hrec, hval, hroot, hrank, hold, hwrd, hstp⟩ := id hM
  obtain ⟨hcd, ow, pinj⟩ := join_own hM hc hq hq6 hk0 h2 h7 hd hpt
  have hK4 : K ≤ 4 := hcls.1
  have hq'6 := hSh.1
  have cl : ∀ {x e}, x < 24 → e < 4 → m' 14 x = nI e → m 14 x = nI e ∧ ∀ r, r < 24 → m 14 r = nI c → x ≠ pt r := by
    intro x e hx he h
    by_cases hn : ∃ r, r < 24 ∧ m 14 r = nI c ∧ x = pt r
    · obtain ⟨r, r1, r2, r3⟩ := hn
      rw [r3, z14 r r1 r2] at h
      exact absurd h (m1_ne_nI (by omega))
    · have hn' : ∀ r, r < 24 → m 14 r = nI c → x ≠ pt r := fun r r1 r2 r3 => hn ⟨r, r1, r2, r3⟩
      rw [o14 x hx hn'] at h
      exact ⟨h, hn'⟩
  have fl : ∀ {r e k x}, Fld (m' 4) (m' 6) (m' 14) r e k x → (e = c ∧ r < 24 ∧ m 14 r = nI c ∧ k < q' ∧ r6 (m' 6) c k = x) ∨ (e ≠ c ∧ Fld (m 4) (m 6) (m 14) r e k x ∧ m 14 r ≠ nI c) := by
    intro r e k x h
    have hk6 := Fld_lt h
    obtain ⟨hr, he, h14, ⟨w, hw6, hw, hk⟩, hx⟩ := h
    obtain ⟨h14, -⟩ := cl hr he h14
    by_cases ee : e = c
    · subst ee
      rw [e4c] at hw
      have ew : q' = w := (nI_eq (by omega) (by omega)).mp hw
      exact Or.inl ⟨rfl, hr, h14, by omega, hx⟩
    · rw [e4 e ee] at hw
      rw [es 6 (by omega) (by omega) e k ee hk6] at hx
      exact Or.inr ⟨ee, ⟨hr, he, h14, ⟨w, hw6, hw, hk⟩, hx⟩, fun h => ee (nI_inj4 he hc (h14.symm.trans h))⟩
  have own : ∀ {r k x}, Own (m' 4) (m' 6) (m' 14) (m' 16) r k x → (m 14 r = nI c ∧ k < q' ∧ r6 (m' 6) c k = 2 ∧ ψ k ≠ k0 ∧ Own (m 4) (m 6) (m 14) (m 16) r (ψ k) x) ∨ (m 14 r ≠ nI c ∧ Own (m 4) (m 6) (m 14) (m 16) r k x) := by
    rintro r k x ⟨e, h1, h2'⟩
    rcases fl h1 with ⟨ee, hr, h14, hk, hx⟩ | ⟨ee, hF, h14⟩
    · obtain ⟨o1, o0, o2, o3, o4⟩ := hO k hk hx
      rw [o4 r hr h14] at h2'
      exact Or.inl ⟨h14, hk, hx, o0, c, ⟨hr, hc, h14, ⟨q, hq6, hq, o1⟩, o2⟩, h2'⟩
    · rw [o16 r k hF.1 (Fld_lt h1) h14] at h2'
      exact Or.inr ⟨h14, e, hF, h2'⟩
  -- what is owned still is no part
  have npart : ∀ {r k x}, Own (m' 4) (m' 6) (m' 14) (m' 16) r k x → ∀ r', r' < 24 → m 14 r' = nI c → x ≠ pt r' := by
    intro r k x ho r' hr' h14' e
    have a := (ow r' hr' h14').1
    rw [← e] at a
    rcases own ho with ⟨b1, b2, b3, b4, b5⟩ | ⟨b1, b5⟩
    · exact b4 (hval.2.2.2 _ _ _ _ _ b5 a).2
    · have := (hval.2.2.2 _ _ _ _ _ b5 a).1
      rw [this] at b1
      exact b1 h14'
  have nown : ∀ {x}, (∀ r' k', ¬ Own (m 4) (m 6) (m 14) (m 16) r' k' x) → ∀ r' k', ¬ Own (m' 4) (m' 6) (m' 14) (m' 16) r' k' x := by
    intro x hno r' k' ho
    rcases own ho with ⟨-, -, -, -, h⟩ | ⟨-, h⟩
    · exact hno _ _ h
    · exact hno _ _ h
  have refs : ∀ {w : Int32}, (w = -1 ∨ ∃ x, x < 24 ∧ w = nI x ∧ m 14 x ≠ -1 ∧ ∀ r' k', ¬ Own (m 4) (m 6) (m 14) (m 16) r' k' x) → (w = -1 ∨ ∃ x, x < 24 ∧ w = nI x ∧ m' 14 x ≠ -1 ∧ ∀ r' k', ¬ Own (m' 4) (m' 6) (m' 14) (m' 16) r' k' x) := by
    intro w hw
    rcases hw with hw | ⟨x, w1, w2, w3, w4⟩
    · exact Or.inl hw
    · refine Or.inr ⟨x, w1, w2, ?_, nown w4⟩
      rw [o14 x w1 (fun r hr h14 e => w4 r k0 (by rw [e]; exact (ow r hr h14).1))]
      exact w3
  refine ⟨⟨hK4, by rw [e1]; exact hcls.2.1, fun e he => ?_⟩, fun e he => ?_, fun x hx => ?_, ⟨fun r e k h => ?_, fun r e k h => ?_, fun r e k h => ?_, fun r k r' k' x h h' => ?_⟩, fun i hi => ?_, ?_, fun e he => ?_, by rw [ew 20 (by omega) (by omega), ew 21 (by omega) (by omega)]; exact hwrd, by rw [ew 22 (by omega) (by omega), ew 23 (by omega) (by omega), ew 24 (by omega) (by omega), ew 25 (by omega) (by omega)]; exact hstp⟩
  · rw [e2]
    obtain ⟨⟨v, v1, v2, v3⟩, v4⟩ := hcls.2.2 e he
    by_cases ee : e = c
    · rw [ee, e3c]
      rw [ee] at v2
      exact ⟨⟨v, v1, v2, fun h => absurd h (by decide)⟩, Or.inl rfl⟩
    · by_cases ed : e = d
      · rw [ed, e3d]
        rw [ed] at v2
        exact ⟨⟨v, v1, v2, fun h => absurd h (by decide)⟩, Or.inl rfl⟩
      · rw [e3 e he ee ed]
        exact ⟨⟨v, v1, v2, v3⟩, v4⟩
  · by_cases ee : e = c
    · rw [ee]
      exact ⟨q', e4c, hSh⟩
    · obtain ⟨w, hw, hS⟩ := hsh e he
      have hw6 := hS.1
      refine ⟨w, by rw [e4 e ee]; exact hw, hw6, fun i hi i' hi' h => ?_, fun i hi => ?_⟩
      · rw [es 5 (by omega) (by omega) e i ee (by omega), es 5 (by omega) (by omega) e i' ee (by omega)] at h
        exact hS.2.1 i hi i' hi' h
      · rw [es 5 (by omega) (by omega) e i ee (by omega), es 6 (by omega) (by omega) e i ee (by omega), es 7 (by omega) (by omega) e i ee (by omega), es 8 (by omega) (by omega) e i ee (by omega)]
        exact hS.2.2 i hi
  · by_cases hn : ∃ r, r < 24 ∧ m 14 r = nI c ∧ x = pt r
    · obtain ⟨r, r1, r2, r3⟩ := hn
      exact Or.inl (by rw [r3]; exact z14 r r1 r2)
    · rw [o14 x hx (fun r r1 r2 r3 => hn ⟨r, r1, r2, r3⟩), e15, e2]
      exact hrec x hx
  · rcases fl h with ⟨ee, hr, h14, hk, hx⟩ | ⟨ee, hF, h14⟩
    · subst ee
      exact hN r k hr h14 hk hx
    · rw [o16 r k hF.1 (Fld_lt h) h14, es 7 (by omega) (by omega) e k ee (Fld_lt h), es 8 (by omega) (by omega) e k ee (Fld_lt h)]
      exact hval.1 r e k hF
  · rcases fl h with ⟨ee, hr, h14, hk, hx⟩ | ⟨ee, hF, h14⟩
    · obtain ⟨k1, r1, r2, r3⟩ := hR k hk hx
      rw [r3 r hr h14]
      exact refs (hval.2.1 r c k1 ⟨hr, hc, h14, ⟨q, hq6, hq, r1⟩, r2⟩)
    · rw [o16 r k hF.1 (Fld_lt h) h14]
      exact refs (hval.2.1 r e k hF)
  · have key : ∃ y, y < 24 ∧ r6 (m' 16) r k = nI y ∧ m 14 y = r6 (m' 7) e k := by
      rcases fl h with ⟨ee, hr, h14, hk, hx⟩ | ⟨ee, hF, h14⟩
      · subst ee
        obtain ⟨o1, o0, o2, o3, o4⟩ := hO k hk hx
        rw [o4 r hr h14, o3]
        exact hval.2.2.1 r e (ψ k) ⟨hr, hc, h14, ⟨q, hq6, hq, o1⟩, o2⟩
      · rw [o16 r k hF.1 (Fld_lt h) h14, es 7 (by omega) (by omega) e k ee (Fld_lt h)]
        exact hval.2.2.1 r e k hF
    obtain ⟨y, y1, y2, y3⟩ := key
    exact ⟨y, y1, y2, by rw [o14 y y1 (npart ⟨e, h, y2⟩)]; exact y3⟩
  · rcases own h with ⟨a1, a2, a3, a0, a4⟩ | ⟨a1, a4⟩ <;> rcases own h' with ⟨b1, b2, b3, b0, b4⟩ | ⟨b1, b4⟩
    · obtain ⟨x1, x2⟩ := hval.2.2.2 _ _ _ _ _ a4 b4
      exact ⟨x1, hOi k a2 a3 k' b2 b3 x2⟩
    · obtain ⟨x1, -⟩ := hval.2.2.2 _ _ _ _ _ a4 b4
      rw [x1] at a1
      exact absurd a1 b1
    · obtain ⟨x1, -⟩ := hval.2.2.2 _ _ _ _ _ a4 b4
      rw [← x1] at b1
      exact absurd b1 a1
    · exact hval.2.2.2 _ _ _ _ _ a4 b4
  · rw [e19]
    rcases hroot i hi with h | ⟨x, x1, x2, x3⟩
    · exact Or.inl h
    · exact Or.inr ⟨x, x1, x2, by rw [o14 x x1 (fun r hr h14 e => hrt i r hi hr h14 (by rw [x2, e]))]; exact x3⟩
  · obtain ⟨ρ, r1, r2, r3⟩ := hrank
    refine ⟨ρ, r1, r2, fun a w k b ha hw6 hw hk hx hb h7' => ?_⟩
    by_cases ea : a = c
    · subst ea
      rw [e4c] at hw
      have ew : q' = w := (nI_eq (by omega) (by omega)).mp hw
      obtain ⟨o1, -, o2, o3, -⟩ := hO k (by omega) hx
      exact r3 a q (ψ k) b hc hq6 hq o1 o2 hb (o3.symm.trans h7')
    · rw [e4 a ea] at hw
      rw [es 6 (by omega) (by omega) a k ea (by omega)] at hx
      rw [es 7 (by omega) (by omega) a k ea (by omega)] at h7'
      exact r3 a w k b ha hw6 hw hk hx hb h7'
  · obtain ⟨mo, g1, g2, g3⟩ := hold e he
    rw [eo 9 (by omega) (by omega), eo 10 (by omega) (by omega), eo 11 (by omega) (by omega), eo 12 (by omega) (by omega), eo 13 (by omega) (by omega), e17]
    refine ⟨mo, g1, g2, fun h => ?_⟩
    have ee : e ≠ c := fun ee => by rw [ee, e3c] at h; exact absurd h (by decide)
    have ed : e ≠ d := fun ed => by rw [ed, e3d] at h; exact absurd h (by decide)
    rw [e3 e he ee ed] at h
    have c14 : ∀ {r}, r < 24 → m' 14 r = nI e → m 14 r = nI e := fun {r} hr h14 => (cl hr he h14).1
    obtain ⟨c1, c2, c3, φ, c4, c5⟩ := g3 h
    refine ⟨c1, fun r k hr h14 hk hx => c2 r k hr (c14 hr h14) hk hx, fun r k hr h14 hk hx => refs (c3 r k hr (c14 hr h14) hk hx), φ, fun k hk hx => ?_, c5⟩
    obtain ⟨⟨w, d1, d2, d3⟩, d4, d5, d6⟩ := c4 k hk hx
    rw [es 6 (by omega) (by omega) e _ ee (by omega), es 7 (by omega) (by omega) e _ ee (by omega)]
    refine ⟨⟨w, d1, by rw [e4 e ee]; exact d2, d3⟩, d4, d5, fun r hr h14 => ?_⟩
    have h14 := c14 hr h14
    rw [o16 r _ hr (by omega) (fun h => ee (nI_inj4 he hc (h14.symm.trans h)))]
    exact d6 r hr h14
theorem CR_join {j K L : Nat} {σ τ : Nat → Nat} {s s' : Nat → Nat → Nat → Int32} {m m' : Nat → Nat → Int32} (hM : MI K m) (hC : CR j K L σ τ s m) {c d q q' k0 : Nat} {pt : Nat → Nat} (hc : c < 4) (hq : m 4 c = nI q) (hq6 : q ≤ 6) (hq'6 : q' ≤ 6) (hk0 : k0 < q) (h2 : r6 (m 6) c k0 = 2) (h7 : r6 (m 7) c k0 = nI d) (hd : d < 4)
    (hpt : ∀ r, r < 24 → m 14 r = nI c → pt r < 24 ∧ r6 (m 16) r k0 = nI (pt r)) (hrt : ∀ i r, i < 8 → r < 24 → m 14 r = nI c → m 19 i ≠ nI (pt r))
    (e2 : m' 2 = m 2) (e3c : m' 3 c = 0) (e3d : m' 3 d = 0) (e3 : ∀ e, e < 4 → e ≠ c → e ≠ d → m' 3 e = m 3 e) (e4c : m' 4 c = nI q') (e4 : ∀ e, e ≠ c → m' 4 e = m 4 e)
    (es : ∀ g, 5 ≤ g → g ≤ 8 → ∀ e k, e ≠ c → k < 6 → r6 (m' g) e k = r6 (m g) e k)
    (z14 : ∀ r, r < 24 → m 14 r = nI c → m' 14 (pt r) = -1) (o14 : ∀ x, x < 24 → (∀ r, r < 24 → m 14 r = nI c → x ≠ pt r) → m' 14 x = m 14 x) (e15 : m' 15 = m 15) (o16 : ∀ x k, x < 24 → k < 6 → m 14 x ≠ nI c → r6 (m' 16) x k = r6 (m 16) x k)
    (eo : ∀ g, 9 ≤ g → g ≤ 13 → m' g = m g) (e17 : m' 17 = m 17) (e19 : m' 19 = m 19) (ew : ∀ g, 20 ≤ g → g ≤ 26 → m' g = m g)
    (hRO : ∀ k, k < q' → r6 (m' 6) c k ≠ 0 → ∃ k1, k1 < q ∧ k1 ≠ k0 ∧ r6 (m 6) c k1 ≠ 0 ∧ ∀ r, r < 24 → m 14 r = nI c → r6 (m' 16) r k = r6 (m 16) r k1)
    (fr : ∀ g, g ≠ 4 → g ≠ 11 → g ≠ 13 → g ≠ 17 → g ≠ 27 → (g < 5 ∨ 10 < g) → s' g = s g) (f4c : s' 4 c 0 = 0) (f4d : s' 4 d 0 = 0) (f4 : ∀ e, e ≠ c → e ≠ d → s' 4 e 0 = s 4 e 0) (fs : ∀ g i, 5 ≤ g → g ≤ 9 → i < 8 → i ≠ 2 * c → s' g i = s g i)
    (hS : ShC (s' 5) (s' 6) (s' 7) (s' 8) (s' 9) (2 * c) q' (r6 (m' 5) c) (r6 (m' 6) c) (r6 (m' 7) c) (r6 (m' 8) c))
    (z13 : ∀ r, r < 24 → m 14 r = nI c → s' 13 (σ (pt r)) 0 = 0) (o13 : ∀ y, y < 24 → (∀ r, r < 24 → m 14 r = nI c → y ≠ σ (pt r)) → s' 13 y 0 = s 13 y 0)
    (f11 : s' 11 0 0 = nI (cn (fun e => !decide (s' 13 e 0 = 0)) 24))
    (f17 : ∀ r k, r < 24 → m 14 r ≠ -1 → m 14 r ≠ nI c → k < 6 → s' 17 (σ r) k = s 17 (σ r) k)
    (hV : ∀ r k, r < 24 → m 14 r = nI c → k < q' → s' 17 (σ r) k = if r6 (m' 6) c k = 0 then r6 (m' 16) r k else tr σ (s 13) (r6 (m' 16) r k)) : CR j K L σ τ s' m' := by
  obtain ⟨kcls, ksh, kold, krec, kid, kcnt, kval, kroot, koldv, kwrd, kstp, kflt⟩ := id hC
  obtain ⟨hcd, ow, pinj⟩ := join_own hM hc hq hq6 hk0 h2 h7 hd hpt
  have hval := hM.2.2.2.1
  have cl : ∀ {x e}, x < 24 → e < 4 → m' 14 x = nI e → m 14 x = nI e ∧ ∀ r, r < 24 → m 14 r = nI c → x ≠ pt r := by
    intro x e hx he h
    by_cases hn : ∃ r, r < 24 ∧ m 14 r = nI c ∧ x = pt r
    · obtain ⟨r, r1, r2, r3⟩ := hn
      rw [r3, z14 r r1 r2] at h
      exact absurd h (m1_ne_nI (by omega))
    · have hn' : ∀ r, r < 24 → m 14 r = nI c → x ≠ pt r := fun r r1 r2 r3 => hn ⟨r, r1, r2, r3⟩
      rw [o14 x hx hn'] at h
      exact ⟨h, hn'⟩
  have pl : ∀ r, r < 24 → m 14 r = nI c → m 14 (pt r) ≠ -1 := fun r hr h14 => by rw [(ow r hr h14).2]; exact nI_ne_m1 (by omega)
  -- a live record that is no part
  have old : ∀ {x}, x < 24 → m 14 x ≠ -1 → (∀ r, r < 24 → m 14 r = nI c → x ≠ pt r) → s' 13 (σ x) 0 = s 13 (σ x) 0 := fun {x} hx hl hn => by
    obtain ⟨a1, a2, -⟩ := krec.1 x hx hl
    refine o13 (σ x) a1 (fun r hr h14 e => hn r hr h14 ?_)
    rw [← a2, e, (krec.1 (pt r) (hpt r hr h14).1 (pl r hr h14)).2.1]
  have trO : ∀ {w : Int32}, (w = -1 ∨ ∃ x, x < 24 ∧ w = nI x ∧ m 14 x ≠ -1 ∧ ∀ r, r < 24 → m 14 r = nI c → x ≠ pt r) → tr σ (s' 13) w = tr σ (s 13) w := fun {w} hw => by
    rcases hw with hw | ⟨x, x1, x2, x3, x4⟩
    · rw [hw, tr_m1, tr_m1]
    · rw [x2, tr_nI _ _ x1, tr_nI _ _ x1, old x1 x3 x4]
  -- where another field refers
  have fref : ∀ {r e k x}, Fld (m 4) (m 6) (m 14) r e k x → x ≠ 0 → ¬ (m 14 r = nI c ∧ k = k0) → (r6 (m 16) r k = -1 ∨ ∃ y, y < 24 ∧ r6 (m 16) r k = nI y ∧ m 14 y ≠ -1 ∧ ∀ r', r' < 24 → m 14 r' = nI c → y ≠ pt r') := by
    intro r e k x hF hx hno
    obtain ⟨hr, he, h14, ⟨w, hw6, hw, hk⟩, hxk⟩ := id hF
    rcases Fld_kind hM he hw hw6 hk with h | h | h
    · exact absurd (hxk.symm.trans h) hx
    · rcases hval.2.1 r e k ⟨hr, he, h14, ⟨w, hw6, hw, hk⟩, h⟩ with h1 | ⟨y, y1, y2, y3, y4⟩
      · exact Or.inl h1
      · exact Or.inr ⟨y, y1, y2, y3, fun r' hr' h14' e' => y4 r' k0 (by rw [e']; exact (ow r' hr' h14').1)⟩
    · rcases ref_live hM ⟨hr, he, h14, ⟨w, hw6, hw, hk⟩, h⟩ (by decide) with h1 | ⟨y, y1, y2, y3⟩
      · exact Or.inl h1
      · refine Or.inr ⟨y, y1, y2, y3, fun r' hr' h14' e' => hno ?_⟩
        have a := (ow r' hr' h14').1
        rw [← e'] at a
        obtain ⟨x1, x2⟩ := hval.2.2.2 _ _ _ _ _ ⟨e, ⟨hr, he, h14, ⟨w, hw6, hw, hk⟩, h⟩, y2⟩ a
        exact ⟨by rw [x1]; exact h14', x2⟩
  have hrec' : CRrec σ τ (s' 13) (s' 14) (s' 15) (m' 14) (m' 15) := by
    rw [fr 14 (by omega) (by omega) (by omega) (by omega) (by omega) (by omega), fr 15 (by omega) (by omega) (by omega) (by omega) (by omega) (by omega), e15]
    refine ⟨fun x hx hl => ?_, fun y hy hl => ?_⟩
    · have hn : ∀ r, r < 24 → m 14 r = nI c → x ≠ pt r := fun r r1 r2 r3 => hl (by rw [r3]; exact z14 r r1 r2)
      rw [o14 x hx hn] at hl ⊢
      rw [old hx hl hn]
      exact krec.1 x hx hl
    · have hn : ∀ r, r < 24 → m 14 r = nI c → y ≠ σ (pt r) := fun r r1 r2 r3 => hl (by rw [r3]; exact z13 r r1 r2)
      rw [o13 y hy hn] at hl
      obtain ⟨a1, a2, a3⟩ := krec.2 y hy hl
      refine ⟨a1, a2, ?_⟩
      rw [o14 (τ y) a1 (fun r r1 r2 r3 => hn r r1 r2 (by rw [← r3, a2]))]
      exact a3
  have live13 : ∀ {y}, y < 24 → s' 13 y 0 ≠ 0 → s' 13 y 0 = s 13 y 0 ∧ s 13 y 0 ≠ 0 := fun {y} hy hl => by
    have hn : ∀ r, r < 24 → m 14 r = nI c → y ≠ σ (pt r) := fun r r1 r2 r3 => hl (by rw [r3]; exact z13 r r1 r2)
    have e := o13 y hy hn
    rw [e] at hl
    exact ⟨e, hl⟩
  refine ⟨⟨by rw [fr 0 (by omega) (by omega) (by omega) (by omega) (by omega) (by omega)]; exact kcls.1, fun e he => ⟨by rw [fr 3 (by omega) (by omega) (by omega) (by omega) (by omega) (by omega), e2]; exact (kcls.2 e he).1, ?_⟩⟩, fun e w he hw6 hw => ?_, fun e w he hw6 hw h3 => ?_, hrec', ⟨kid.1, by rw [fr 12 (by omega) (by omega) (by omega) (by omega) (by omega) (by omega)]; exact kid.2.1, fun y hy hl => ?_, fun y hy hl y' hy' h => ?_⟩, ?_, fun r e k x h => ?_, fun i hi => ?_, fun e mo r k he h3 hmo h9 hr h14 hk => ?_, by rw [fr 20 (by omega) (by omega) (by omega) (by omega) (by omega) (by omega), fr 21 (by omega) (by omega) (by omega) (by omega) (by omega) (by omega), ew 20 (by omega) (by omega), ew 21 (by omega) (by omega)]; exact kwrd, ?_, by rw [fr 2 (by omega) (by omega) (by omega) (by omega) (by omega) (by omega), ew 26 (by omega) (by omega)]; exact kflt⟩
  · by_cases ee : e = c
    · rw [ee, f4c, e3c]
    · by_cases ed : e = d
      · rw [ed, f4d, e3d]
      · rw [f4 e ee ed, e3 e he ee ed]
        exact (kcls.2 e he).2
  · by_cases ee : e = c
    · subst ee
      rw [e4c] at hw
      have ew : q' = w := (nI_eq (by omega) (by omega)).mp hw
      subst ew
      exact hS
    · rw [e4 e ee] at hw
      obtain ⟨p1, p2⟩ := ksh e w he hw6 hw
      refine ⟨by rw [fs 5 _ (by omega) (by omega) (by omega) (by omega)]; exact p1, fun k hk => ?_⟩
      rw [fs 6 _ (by omega) (by omega) (by omega) (by omega), fs 7 _ (by omega) (by omega) (by omega) (by omega), fs 8 _ (by omega) (by omega) (by omega) (by omega), fs 9 _ (by omega) (by omega) (by omega) (by omega), es 5 (by omega) (by omega) e k ee (by omega), es 6 (by omega) (by omega) e k ee (by omega), es 7 (by omega) (by omega) e k ee (by omega), es 8 (by omega) (by omega) e k ee (by omega)]
      exact p2 k hk
  · have ee : e ≠ c := fun ee => by rw [ee, e3c] at h3; exact absurd h3 (by decide)
    have ed : e ≠ d := fun ed => by rw [ed, e3d] at h3; exact absurd h3 (by decide)
    rw [e3 e he ee ed] at h3
    rw [eo 9 (by omega) (by omega)] at hw
    rw [eo 10 (by omega) (by omega), eo 11 (by omega) (by omega), eo 12 (by omega) (by omega), eo 13 (by omega) (by omega)]
    obtain ⟨p1, p2⟩ := kold e w he hw6 hw h3
    refine ⟨by rw [fs 5 _ (by omega) (by omega) (by omega) (by omega)]; exact p1, fun k hk => ?_⟩
    rw [fs 6 _ (by omega) (by omega) (by omega) (by omega), fs 7 _ (by omega) (by omega) (by omega) (by omega), fs 8 _ (by omega) (by omega) (by omega) (by omega), fs 9 _ (by omega) (by omega) (by omega) (by omega)]
    exact p2 k hk
  · obtain ⟨g1, g2⟩ := live13 hy hl
    rw [g1]
    exact kid.2.2.1 y hy g2
  · obtain ⟨g1, g2⟩ := live13 hy hl
    obtain ⟨g3, g4⟩ := live13 hy' (by rw [← h]; exact hl)
    exact kid.2.2.2 y hy g2 y' hy' (by rw [← g1, ← g3]; exact h)
  · show s' 11 0 0 = nI (cn (fun r => !decide (m' 14 r = -1)) 24)
    rw [f11, cnt_rec hrec']
  · have hk6 := Fld_lt h
    obtain ⟨hr, he, h14, ⟨w, hw6, hw, hk⟩, hx⟩ := h
    obtain ⟨h14, -⟩ := cl hr he h14
    have hl : m 14 r ≠ -1 := by rw [h14]; exact nI_ne_m1 (by omega)
    by_cases ee : e = c
    · subst ee
      rw [e4c] at hw
      have ew : q' = w := (nI_eq (by omega) (by omega)).mp hw
      rw [hV r k hr h14 (by omega), hx]
      by_cases h0 : x = 0
      · rw [if_pos h0, if_pos h0]
      · rw [if_neg h0, if_neg h0]
        obtain ⟨k1, k2, k3, k4, k5⟩ := hRO k (by omega) (by rw [hx]; exact h0)
        rw [k5 r hr h14]
        exact (trO (fref ⟨hr, hc, h14, ⟨q, hq6, hq, k2⟩, rfl⟩ k4 (fun h => k3 h.2))).symm
    · rw [e4 e ee] at hw
      rw [es 6 (by omega) (by omega) e k ee hk6] at hx
      have hne : m 14 r ≠ nI c := fun h => ee (nI_inj4 he hc (h14.symm.trans h))
      have hF : Fld (m 4) (m 6) (m 14) r e k x := ⟨hr, he, h14, ⟨w, hw6, hw, hk⟩, hx⟩
      rw [f17 r k hr hl hne hk6, o16 r k hr hk6 hne, kval r e k x hF]
      by_cases h0 : x = 0
      · rw [if_pos h0, if_pos h0]
      · rw [if_neg h0, if_neg h0]
        exact (trO (fref hF h0 (fun h => hne h.1))).symm
  · rw [fr 19 (by omega) (by omega) (by omega) (by omega) (by omega) (by omega), e19, kroot i hi]
    refine (trO ?_).symm
    rcases hM.2.2.2.2.1 i hi with h | ⟨x, x1, x2, x3⟩
    · exact Or.inl h
    · exact Or.inr ⟨x, x1, x2, x3, fun r hr h14 e => hrt i r hi hr h14 (by rw [x2, e])⟩
  · have ee : e ≠ c := fun ee => by rw [ee, e3c] at h3; exact absurd h3 (by decide)
    have ed : e ≠ d := fun ed => by rw [ed, e3d] at h3; exact absurd h3 (by decide)
    rw [e3 e he ee ed] at h3
    rw [eo 9 (by omega) (by omega)] at h9
    obtain ⟨h14, -⟩ := cl hr he h14
    rw [fr 18 (by omega) (by omega) (by omega) (by omega) (by omega) (by omega), eo 11 (by omega) (by omega), e17]
    obtain ⟨g1, g2⟩ := koldv e mo r k he h3 hmo h9 hr h14 hk
    refine ⟨g1, fun hne => ⟨fun hv => ?_, fun hv => ?_⟩⟩
    · rw [(g2 hne).1 hv]
      refine (trO ?_).symm
      obtain ⟨mo', x1, x2, x3⟩ := hM.2.2.2.2.2.2.1 e he
      have emo : mo = mo' := (nI_eq (by omega) (by omega)).mp (h9.symm.trans x2)
      subst emo
      obtain ⟨xs, y1, y2, φ, y3, y4⟩ := x3 h3
      rcases (xs.2.2 k hk).2 with z | ⟨z, -⟩
      · exact absurd z.1 hne
      · rcases z with z | z
        · rcases y2 r k hr h14 hk z with w | ⟨x, w1, w2, w3, w4⟩
          · exact Or.inl w
          · exact Or.inr ⟨x, w1, w2, w3, fun r' hr' h14' e' => w4 r' k0 (by rw [e']; exact (ow r' hr' h14').1)⟩
        · obtain ⟨⟨w, w1, w2, w3⟩, w4, w5, w6⟩ := y3 k hk z
          rw [w6 r hr h14]
          exact fref ⟨hr, he, h14, ⟨w, w1, w2, w3⟩, w4⟩ (by decide) (fun h => ee (nI_inj4 he hc (h14.symm.trans h.1)))
    · obtain ⟨i, i1, i2, i3⟩ := (g2 hne).2 hv
      refine ⟨i, i1, i2, fun y hy hly => ?_⟩
      obtain ⟨g3, g4⟩ := live13 hy hly
      rw [g3]
      exact i3 y hy g4
  · rw [fr 1 (by omega) (by omega) (by omega) (by omega) (by omega) (by omega), fr 20 (by omega) (by omega) (by omega) (by omega) (by omega) (by omega), fr 21 (by omega) (by omega) (by omega) (by omega) (by omega) (by omega), fr 22 (by omega) (by omega) (by omega) (by omega) (by omega) (by omega), fr 23 (by omega) (by omega) (by omega) (by omega) (by omega) (by omega), fr 24 (by omega) (by omega) (by omega) (by omega) (by omega) (by omega), fr 25 (by omega) (by omega) (by omega) (by omega) (by omega) (by omega), fr 26 (by omega) (by omega) (by omega) (by omega) (by omega) (by omega), ew 22 (by omega) (by omega), ew 23 (by omega) (by omega), ew 24 (by omega) (by omega), ew 25 (by omega) (by omega)]
    exact kstp
