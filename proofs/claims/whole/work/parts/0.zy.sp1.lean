/-! ===== change: a class is split: the reference's memory ===== -/
theorem MI_split {K : Nat} {m m' : Nat → Nat → Int32} (hM : MI K m) {c d q p q1 : Nat} {ψ ln : Nat → Nat} (hc : c < 4) (hd : d < K) (hcd : d ≠ c) (hq : m 4 c = nI q) (hq6 : q ≤ 6) (hp : m 4 d = nI p) (hp6 : p ≤ 6) (hnum : ∀ k, k < p → r6 (m 6) d k = 0)
    (e1 : m' 1 = m 1) (e2 : m' 2 = m 2) (e3c : m' 3 c = 0) (e3d : m' 3 d = 0) (e3 : ∀ e, e < 4 → e ≠ c → e ≠ d → m' 3 e = m 3 e) (e4c : m' 4 c = nI (q1 + 1)) (e4 : ∀ e, e ≠ c → m' 4 e = m 4 e)
    (es : ∀ g, 5 ≤ g → g ≤ 8 → ∀ e k, e ≠ c → k < 6 → r6 (m' g) e k = r6 (m g) e k) (hSh : Sh K (q1 + 1) (r6 (m' 5) c) (r6 (m' 6) c) (r6 (m' 7) c) (r6 (m' 8) c))
    (l1 : ∀ r, r < 24 → m 14 r = nI c → ln r < 24 ∧ m 14 (ln r) = -1) (l2 : ∀ r, r < 24 → m 14 r = nI c → ∀ r', r' < 24 → m 14 r' = nI c → ln r = ln r' → r = r')
    (n14 : ∀ r, r < 24 → m 14 r = nI c → m' 14 (ln r) = nI d ∧ m' 15 (ln r) = m 2 d) (nv : ∀ r k, r < 24 → m 14 r = nI c → k < p → r6 (m 7) d k ≤ r6 (m' 16) (ln r) k ∧ r6 (m' 16) (ln r) k ≤ r6 (m 8) d k)
    (o14 : ∀ x, x < 24 → (∀ r, r < 24 → m 14 r = nI c → x ≠ ln r) → m' 14 x = m 14 x ∧ m' 15 x = m 15 x) (o16 : ∀ x k, x < 24 → k < 6 → (∀ r, r < 24 → m 14 r = nI c → x ≠ ln r) → m 14 x ≠ nI c → r6 (m' 16) x k = r6 (m 16) x k)
    (eo : ∀ g, 9 ≤ g → g ≤ 13 → m' g = m g) (e17 : m' 17 = m 17) (e19 : m' 19 = m 19) (ew : ∀ g, 20 ≤ g → g ≤ 25 → m' g = m g)
    (hN : ∀ r k, r < 24 → m 14 r = nI c → k < q1 → r6 (m' 6) c k = 0 → r6 (m' 7) c k ≤ r6 (m' 16) r k ∧ r6 (m' 16) r k ≤ r6 (m' 8) c k)
    (hR : ∀ k, k < q1 → r6 (m' 6) c k = 1 → ∃ k0, k0 < q ∧ r6 (m 6) c k0 = 1 ∧ ∀ r, r < 24 → m 14 r = nI c → r6 (m' 16) r k = r6 (m 16) r k0)
    (hO : ∀ k, k < q1 → r6 (m' 6) c k = 2 → ψ k < q ∧ r6 (m 6) c (ψ k) = 2 ∧ r6 (m' 7) c k = r6 (m 7) c (ψ k) ∧ ∀ r, r < 24 → m 14 r = nI c → r6 (m' 16) r k = r6 (m 16) r (ψ k))
    (hOi : ∀ k, k < q1 → r6 (m' 6) c k = 2 → ∀ k2, k2 < q1 → r6 (m' 6) c k2 = 2 → ψ k = ψ k2 → k = k2)
    (hL : r6 (m' 6) c q1 = 2 ∧ r6 (m' 7) c q1 = nI d ∧ ∀ r, r < 24 → m 14 r = nI c → r6 (m' 16) r q1 = nI (ln r)) : MI K m' := by
  obtain ⟨hcls, hsh, hrec, hval, hroot, hrank, hold, hwrd, hstp⟩ := id hM
  have hK4 : K ≤ 4 := hcls.1
  have hd4 : d < 4 := by omega
  have hq16 := hSh.1
  -- a live record is not a new one
  have nnew : ∀ {x}, m 14 x ≠ -1 → ∀ r, r < 24 → m 14 r = nI c → x ≠ ln r := fun {x} hx r hr h14 e => hx (by rw [e]; exact (l1 r hr h14).2)
  have cc : ∀ {r}, m 14 r = nI c → m 14 r ≠ -1 := fun {r} h => by rw [h]; exact nI_ne_m1 (by omega)
  -- what is a record's class now
  have cl : ∀ {x e}, x < 24 → e < 4 → m' 14 x = nI e → (m 14 x = nI e ∧ ∀ r, r < 24 → m 14 r = nI c → x ≠ ln r) ∨ (e = d ∧ ∃ r, r < 24 ∧ m 14 r = nI c ∧ x = ln r) := by
    intro x e hx he h
    by_cases hn : ∃ r, r < 24 ∧ m 14 r = nI c ∧ x = ln r
    · obtain ⟨r, r1, r2, r3⟩ := hn
      have h2 := (n14 r r1 r2).1
      rw [← r3, h] at h2
      exact Or.inr ⟨nI_inj4 he hd4 h2, r, r1, r2, r3⟩
    · have hn' : ∀ r, r < 24 → m 14 r = nI c → x ≠ ln r := fun r r1 r2 r3 => hn ⟨r, r1, r2, r3⟩
      rw [(o14 x hx hn').1] at h
      exact Or.inl ⟨h, hn'⟩
  have live : ∀ {x}, x < 24 → m 14 x ≠ -1 → m' 14 x = m 14 x := fun {x} hx h => (o14 x hx (nnew h)).1
  have fl : ∀ {r e k x}, Fld (m' 4) (m' 6) (m' 14) r e k x → (e = c ∧ r < 24 ∧ m 14 r = nI c ∧ k < q1 + 1 ∧ r6 (m' 6) c k = x) ∨ (e ≠ c ∧ Fld (m 4) (m 6) (m 14) r e k x ∧ m 14 r ≠ nI c) ∨ (e = d ∧ x = 0 ∧ k < p ∧ ∃ r0, r0 < 24 ∧ m 14 r0 = nI c ∧ r = ln r0) := by
    intro r e k x h
    have hk6 := Fld_lt h
    obtain ⟨hr, he, h14, ⟨w, hw6, hw, hk⟩, hx⟩ := h
    by_cases ee : e = c
    · subst ee
      rw [e4c] at hw
      have ew : q1 + 1 = w := (nI_eq (by omega) (by omega)).mp hw
      rcases cl hr he h14 with ⟨h14, -⟩ | ⟨ed, -⟩
      · exact Or.inl ⟨rfl, hr, h14, by omega, hx⟩
      · exact absurd ed.symm hcd
    · rw [e4 e ee] at hw
      rw [es 6 (by omega) (by omega) e k ee hk6] at hx
      rcases cl hr he h14 with ⟨h14, -⟩ | ⟨ed, r0, r1, r2, r3⟩
      · exact Or.inr (Or.inl ⟨ee, ⟨hr, he, h14, ⟨w, hw6, hw, hk⟩, hx⟩, fun h => ee (nI_inj4 he hc (h14.symm.trans h))⟩)
      · subst ed
        have ew : p = w := (nI_eq (by omega) (by omega)).mp (hp.symm.trans hw)
        exact Or.inr (Or.inr ⟨rfl, by rw [← hx, hnum k (by omega)], by omega, r0, r1, r2, r3⟩)
  have own : ∀ {r k x}, Own (m' 4) (m' 6) (m' 14) (m' 16) r k x → (m 14 r = nI c ∧ k < q1 ∧ r6 (m' 6) c k = 2 ∧ Own (m 4) (m 6) (m 14) (m 16) r (ψ k) x) ∨ (m 14 r ≠ nI c ∧ Own (m 4) (m 6) (m 14) (m 16) r k x) ∨ (r < 24 ∧ m 14 r = nI c ∧ k = q1 ∧ nI x = nI (ln r)) := by
    rintro r k x ⟨e, h1, h2⟩
    rcases fl h1 with ⟨ee, hr, h14, hk, hx⟩ | ⟨ee, hF, h14⟩ | ⟨ee, h0, -⟩
    · by_cases ek : k = q1
      · subst ek
        rw [hL.2.2 r hr h14] at h2
        exact Or.inr (Or.inr ⟨hr, h14, rfl, h2.symm⟩)
      · obtain ⟨o1, o2, o3, o4⟩ := hO k (by omega) hx
        rw [o4 r hr h14] at h2
        exact Or.inl ⟨h14, by omega, hx, c, ⟨hr, hc, h14, ⟨q, hq6, hq, o1⟩, o2⟩, h2⟩
    · rw [o16 r k hF.1 (Fld_lt h1) (nnew (by rw [hF.2.2.1]; exact nI_ne_m1 (by have := hF.2.1; omega))) h14] at h2
      exact Or.inr (Or.inl ⟨h14, e, hF, h2⟩)
    · exact absurd h0 (by decide)
  -- what is owned is live
  have olive : ∀ {r k x}, Own (m 4) (m 6) (m 14) (m 16) r k x → x < 2 ^ 31 → x < 24 ∧ m 14 x ≠ -1 := by
    rintro r k x ⟨e, h1, h2⟩ hx
    obtain ⟨y, y1, y2, y3⟩ := hval.2.2.1 r e k h1
    have exy : x = y := (nI_eq hx (by omega)).mp (h2.symm.trans y2)
    subst exy
    have hk6 := Fld_lt h1
    obtain ⟨hr, he, h14, ⟨w, hw6, hw, hk⟩, hx2⟩ := h1
    obtain ⟨w', hw', hS⟩ := hsh e he
    have ew : w = w' := (nI_eq (by omega) (by have := hS.1; omega)).mp (hw.symm.trans hw')
    subst ew
    rcases (hS.2.2 k hk).2 with z | ⟨-, z, z1, z2, -⟩
    · exact absurd (hx2.symm.trans z.1) (by decide)
    · refine ⟨y1, ?_⟩
      rw [y3, z2]
      exact nI_ne_m1 (by omega)
  have nown : ∀ {x}, x < 24 → m 14 x ≠ -1 → (∀ r' k', ¬ Own (m 4) (m 6) (m 14) (m 16) r' k' x) → ∀ r' k', ¬ Own (m' 4) (m' 6) (m' 14) (m' 16) r' k' x := by
    intro x hx hlx hno r' k' ho
    rcases own ho with ⟨-, -, -, h⟩ | ⟨-, h⟩ | ⟨hr, h14, -, e⟩
    · exact hno _ _ h
    · exact hno _ _ h
    · have := (nI_eq (by omega) (by have := (l1 r' hr h14).1; omega)).mp e
      exact nnew hlx r' hr h14 this
  have refs : ∀ {w : Int32}, (w = -1 ∨ ∃ x, x < 24 ∧ w = nI x ∧ m 14 x ≠ -1 ∧ ∀ r' k', ¬ Own (m 4) (m 6) (m 14) (m 16) r' k' x) → (w = -1 ∨ ∃ x, x < 24 ∧ w = nI x ∧ m' 14 x ≠ -1 ∧ ∀ r' k', ¬ Own (m' 4) (m' 6) (m' 14) (m' 16) r' k' x) := by
    intro w hw
    rcases hw with hw | ⟨x, w1, w2, w3, w4⟩
    · exact Or.inl hw
    · exact Or.inr ⟨x, w1, w2, by rw [live w1 w3]; exact w3, nown w1 w3 w4⟩
  refine ⟨⟨hK4, by rw [e1]; exact hcls.2.1, fun e he => ?_⟩, fun e he => ?_, fun x hx => ?_, ⟨fun r e k h => ?_, fun r e k h => ?_, fun r e k h => ?_, fun r k r' k' x h h' => ?_⟩, fun i hi => ?_, ?_, fun e he => ?_, by rw [ew 20 (by omega) (by omega), ew 21 (by omega) (by omega)]; exact hwrd, by rw [ew 22 (by omega) (by omega), ew 23 (by omega) (by omega), ew 24 (by omega) (by omega), ew 25 (by omega) (by omega)]; exact hstp⟩
  · rw [e2]
    obtain ⟨⟨v, v1, v2, v3⟩, v4⟩ := hcls.2.2 e he
    by_cases ee : e = c
    · rw [ee, e3c]
      rw [ee] at v2
      exact ⟨⟨v, v1, v2, fun h => absurd h (by decide)⟩, Or.inl rfl⟩
    · by_cases ed : e = d
      · rw [ed, e3d]
        rw [ed] at v2
        exact ⟨⟨v, v1, v2, fun h => absurd h (by decide)⟩, Or.inl rfl⟩
      · rw [e3 e he ee ed]
        exact ⟨⟨v, v1, v2, v3⟩, v4⟩
  · by_cases ee : e = c
    · rw [ee]
      exact ⟨q1 + 1, e4c, hSh⟩
    · obtain ⟨w, hw, hS⟩ := hsh e he
      have hw6 := hS.1
      refine ⟨w, by rw [e4 e ee]; exact hw, hw6, fun i hi i' hi' h => ?_, fun i hi => ?_⟩
      · rw [es 5 (by omega) (by omega) e i ee (by omega), es 5 (by omega) (by omega) e i' ee (by omega)] at h
        exact hS.2.1 i hi i' hi' h
      · rw [es 5 (by omega) (by omega) e i ee (by omega), es 6 (by omega) (by omega) e i ee (by omega), es 7 (by omega) (by omega) e i ee (by omega), es 8 (by omega) (by omega) e i ee (by omega)]
        exact hS.2.2 i hi
  · by_cases hn : ∃ r, r < 24 ∧ m 14 r = nI c ∧ x = ln r
    · obtain ⟨r, r1, r2, r3⟩ := hn
      obtain ⟨h1, h2⟩ := n14 r r1 r2
      obtain ⟨⟨v, v1, v2, v3⟩, v4⟩ := hcls.2.2 d hd4
      rw [r3, h1, h2, e2, v2]
      exact Or.inr ⟨d, hd, rfl, nI_pos' (by omega), by rw [v2]; exact Int32.le_refl _⟩
    · have hn' : ∀ r, r < 24 → m 14 r = nI c → x ≠ ln r := fun r r1 r2 r3 => hn ⟨r, r1, r2, r3⟩
      rw [(o14 x hx hn').1, (o14 x hx hn').2, e2]
      exact hrec x hx
  · rcases fl h with ⟨ee, hr, h14, hk, hx⟩ | ⟨ee, hF, h14⟩ | ⟨ee, -, hk, r0, r1, r2, r3⟩
    · subst ee
      have : k ≠ q1 := fun ek => by rw [ek, hL.1] at hx; exact absurd hx (by decide)
      exact hN r k hr h14 (by omega) hx
    · rw [o16 r k hF.1 (Fld_lt h) (nnew (by rw [hF.2.2.1]; exact nI_ne_m1 (by have := hF.2.1; omega))) h14, es 7 (by omega) (by omega) e k ee (Fld_lt h), es 8 (by omega) (by omega) e k ee (Fld_lt h)]
      exact hval.1 r e k hF
    · subst ee
      rw [r3, es 7 (by omega) (by omega) e k hcd (by omega), es 8 (by omega) (by omega) e k hcd (by omega)]
      exact nv r0 k r1 r2 hk
  · rcases fl h with ⟨ee, hr, h14, hk, hx⟩ | ⟨ee, hF, h14⟩ | ⟨-, h0, -⟩
    · have : k ≠ q1 := fun ek => by rw [ek, hL.1] at hx; exact absurd hx (by decide)
      obtain ⟨k0, r1, r2, r3⟩ := hR k (by omega) hx
      rw [r3 r hr h14]
      exact refs (hval.2.1 r c k0 ⟨hr, hc, h14, ⟨q, hq6, hq, r1⟩, r2⟩)
    · rw [o16 r k hF.1 (Fld_lt h) (nnew (by rw [hF.2.2.1]; exact nI_ne_m1 (by have := hF.2.1; omega))) h14]
      exact refs (hval.2.1 r e k hF)
    · exact absurd h0 (by decide)
  · rcases fl h with ⟨ee, hr, h14, hk, hx⟩ | ⟨ee, hF, h14⟩ | ⟨-, h0, -⟩
    · subst ee
      by_cases ek : k = q1
      · subst ek
        exact ⟨ln r, (l1 r hr h14).1, hL.2.2 r hr h14, by rw [hL.2.1]; exact (n14 r hr h14).1⟩
      · obtain ⟨o1, o2, o3, o4⟩ := hO k (by omega) hx
        rw [o4 r hr h14, o3]
        have hF' : Fld (m 4) (m 6) (m 14) r e (ψ k) 2 := ⟨hr, hc, h14, ⟨q, hq6, hq, o1⟩, o2⟩
        obtain ⟨y, y1, y2, y3⟩ := hval.2.2.1 r e (ψ k) hF'
        exact ⟨y, y1, y2, by rw [live y1 (olive ⟨e, hF', y2⟩ (by omega)).2]; exact y3⟩
    · rw [o16 r k hF.1 (Fld_lt h) (nnew (by rw [hF.2.2.1]; exact nI_ne_m1 (by have := hF.2.1; omega))) h14, es 7 (by omega) (by omega) e k ee (Fld_lt h)]
      obtain ⟨y, y1, y2, y3⟩ := hval.2.2.1 r e k hF
      exact ⟨y, y1, y2, by rw [live y1 (olive ⟨e, hF, y2⟩ (by omega)).2]; exact y3⟩
    · exact absurd h0 (by decide)
  · -- each is owned once
    by_cases hx31 : x < 2 ^ 31
    · rcases own h with ⟨a1, a2, a3, a4⟩ | ⟨a1, a4⟩ | ⟨a0, a1, a2, a3⟩ <;> rcases own h' with ⟨b1, b2, b3, b4⟩ | ⟨b1, b4⟩ | ⟨b0, b1, b2, b3⟩
      · obtain ⟨x1, x2⟩ := hval.2.2.2 _ _ _ _ _ a4 b4
        exact ⟨x1, hOi k a2 a3 k' b2 b3 x2⟩
      · obtain ⟨x1, -⟩ := hval.2.2.2 _ _ _ _ _ a4 b4
        rw [x1] at a1
        exact absurd a1 b1
      · exact absurd ((nI_eq hx31 (by have := (l1 r' b0 b1).1; omega)).mp b3) (nnew (olive a4 hx31).2 r' b0 b1)
      · obtain ⟨x1, -⟩ := hval.2.2.2 _ _ _ _ _ a4 b4
        rw [← x1] at b1
        exact absurd b1 a1
      · exact hval.2.2.2 _ _ _ _ _ a4 b4
      · exact absurd ((nI_eq hx31 (by have := (l1 r' b0 b1).1; omega)).mp b3) (nnew (olive a4 hx31).2 r' b0 b1)
      · exact absurd ((nI_eq hx31 (by have := (l1 r a0 a1).1; omega)).mp a3) (nnew (olive b4 hx31).2 r a0 a1)
      · exact absurd ((nI_eq hx31 (by have := (l1 r a0 a1).1; omega)).mp a3) (nnew (olive b4 hx31).2 r a0 a1)
      · have g1 := (l1 r a0 a1).1
        have g2 := (l1 r' b0 b1).1
        exact ⟨l2 r a0 a1 r' b0 b1 ((nI_eq (by omega) (by omega)).mp (a3.symm.trans b3)), by omega⟩
    · -- a number that is none: the same slot by its number
      rcases own h with ⟨a1, a2, a3, a4⟩ | ⟨a1, a4⟩ | ⟨a0, a1, a2, a3⟩ <;> rcases own h' with ⟨b1, b2, b3, b4⟩ | ⟨b1, b4⟩ | ⟨b0, b1, b2, b3⟩
      · obtain ⟨x1, x2⟩ := hval.2.2.2 _ _ _ _ _ a4 b4
        exact ⟨x1, hOi k a2 a3 k' b2 b3 x2⟩
      · obtain ⟨x1, -⟩ := hval.2.2.2 _ _ _ _ _ a4 b4
        rw [x1] at a1
        exact absurd a1 b1
      · exfalso
        obtain ⟨e, f1, f2⟩ := a4
        exact nnew (olive ⟨e, f1, f2.trans b3⟩ (by have := (l1 r' b0 b1).1; omega)).2 r' b0 b1 rfl
      · obtain ⟨x1, -⟩ := hval.2.2.2 _ _ _ _ _ a4 b4
        rw [← x1] at b1
        exact absurd b1 a1
      · exact hval.2.2.2 _ _ _ _ _ a4 b4
      · exfalso
        obtain ⟨e, f1, f2⟩ := a4
        exact nnew (olive ⟨e, f1, f2.trans b3⟩ (by have := (l1 r' b0 b1).1; omega)).2 r' b0 b1 rfl
      · exfalso
        obtain ⟨e, f1, f2⟩ := b4
        exact nnew (olive ⟨e, f1, f2.trans a3⟩ (by have := (l1 r a0 a1).1; omega)).2 r a0 a1 rfl
      · exfalso
        obtain ⟨e, f1, f2⟩ := b4
        exact nnew (olive ⟨e, f1, f2.trans a3⟩ (by have := (l1 r a0 a1).1; omega)).2 r a0 a1 rfl
      · have g1 := (l1 r a0 a1).1
        have g2 := (l1 r' b0 b1).1
        exact ⟨l2 r a0 a1 r' b0 b1 ((nI_eq (by omega) (by omega)).mp (a3.symm.trans b3)), by omega⟩
  · rw [e19]
    rcases hroot i hi with h | ⟨x, x1, x2, x3⟩
    · exact Or.inl h
    · exact Or.inr ⟨x, x1, x2, by rw [live x1 x3]; exact x3⟩
  · -- the ranks: d goes to the end
    obtain ⟨ρ, r1, r2, r3⟩ := hrank
    have rd := r1 d hd4
    have dn : ∀ w k e', w ≤ 6 → m 4 d = nI w → k < w → r6 (m 6) d k = 2 → e' < 4 → False := fun w k e' hw6 hw hk h2 _ => by
      have ew : p = w := (nI_eq (by omega) (by omega)).mp (hp.symm.trans hw)
      rw [hnum k (by omega)] at h2
      exact absurd h2 (by decide)
    refine ⟨fun e => if e = d then 3 else if ρ d < ρ e then ρ e - 1 else ρ e, fun e he => ?_, fun a ha b hb h => ?_, fun a w k b ha hw6 hw hk hx hb h7 => ?_⟩
    · have := r1 e he
      by_cases ed : e = d
      · simp [ed]
      · have : ρ e ≠ ρ d := fun h => ed (r2 e he d hd4 h)
        simp only [ed, if_false]
        split <;> omega
    · have g1 := r1 a ha
      have g2 := r1 b hb
      by_cases ea : a = d
      · by_cases eb : b = d
        · rw [ea, eb]
        · have : ρ b ≠ ρ d := fun h => eb (r2 b hb d hd4 h)
          simp only [ea, eb, if_true, if_false] at h
          split at h <;> omega
      · have n1 : ρ a ≠ ρ d := fun h => ea (r2 a ha d hd4 h)
        by_cases eb : b = d
        · simp only [ea, eb, if_true, if_false] at h
          split at h <;> omega
        · have n2 : ρ b ≠ ρ d := fun h => eb (r2 b hb d hd4 h)
          simp only [ea, eb, if_false] at h
          refine r2 a ha b hb ?_
          split at h <;> split at h <;> omega
    · -- an owning field: old, or the new one
      have key : a ≠ d ∧ (b = d ∨ ρ a < ρ b) := by
        by_cases ea : a = c
        · subst ea
          rw [e4c] at hw
          have ew : q1 + 1 = w := (nI_eq (by omega) (by omega)).mp hw
          refine ⟨fun h => hcd h.symm, ?_⟩
          by_cases ek : k = q1
          · subst ek
            rw [hL.2.1] at h7
            exact Or.inl (nI_inj4 hd4 hb h7).symm
          · obtain ⟨o1, o2, o3, -⟩ := hO k (by omega) hx
            exact Or.inr (r3 a q (ψ k) b hc hq6 hq o1 o2 hb (o3.symm.trans h7))
        · rw [e4 a ea] at hw
          rw [es 6 (by omega) (by omega) a k ea (by omega)] at hx
          rw [es 7 (by omega) (by omega) a k ea (by omega)] at h7
          exact ⟨fun h => dn w k b hw6 (by rw [← h]; exact hw) hk (by rw [← h]; exact hx) hb, Or.inr (r3 a w k b ha hw6 hw hk hx hb h7)⟩
      have g1 := r1 a ha
      have g2 := r1 b hb
      have n1 : ρ a ≠ ρ d := fun h => key.1 (r2 a ha d hd4 h)
      by_cases eb : b = d
      · simp only [key.1, eb, if_true, if_false]
        split <;> omega
      · have n2 : ρ b ≠ ρ d := fun h => eb (r2 b hb d hd4 h)
        have := key.2.resolve_left eb
        simp only [key.1, eb, if_false]
        split <;> split <;> omega
  · obtain ⟨mo, g1, g2, g3⟩ := hold e he
    rw [eo 9 (by omega) (by omega), eo 10 (by omega) (by omega), eo 11 (by omega) (by omega), eo 12 (by omega) (by omega), eo 13 (by omega) (by omega), e17]
    refine ⟨mo, g1, g2, fun h => ?_⟩
    have ee : e ≠ c := fun ee => by rw [ee, e3c] at h; exact absurd h (by decide)
    have ed : e ≠ d := fun ed => by rw [ed, e3d] at h; exact absurd h (by decide)
    rw [e3 e he ee ed] at h
    have c14 : ∀ {r}, r < 24 → m' 14 r = nI e → m 14 r = nI e := fun {r} hr h14 => by
      rcases cl hr he h14 with ⟨h, -⟩ | ⟨h, -⟩
      · exact h
      · exact absurd h ed
    obtain ⟨c1, c2, c3, φ, c4, c5⟩ := g3 h
    refine ⟨c1, fun r k hr h14 hk hx => c2 r k hr (c14 hr h14) hk hx, fun r k hr h14 hk hx => refs (c3 r k hr (c14 hr h14) hk hx), φ, fun k hk hx => ?_, c5⟩
    obtain ⟨⟨w, d1, d2, d3⟩, d4, d5, d6⟩ := c4 k hk hx
    rw [es 6 (by omega) (by omega) e _ ee (by omega), es 7 (by omega) (by omega) e _ ee (by omega)]
    refine ⟨⟨w, d1, by rw [e4 e ee]; exact d2, d3⟩, d4, d5, fun r hr h14 => ?_⟩
    have h14 := c14 hr h14
    rw [o16 r _ hr (by omega) (nnew (by rw [h14]; exact nI_ne_m1 (by omega))) (fun h => ee (nI_inj4 he hc (h14.symm.trans h)))]
    exact d6 r hr h14
