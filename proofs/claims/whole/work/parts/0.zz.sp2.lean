/-! ===== change: a class is split: the class's memory beside it ===== -/
theorem cnt_rec {σ τ : Nat → Nat} {s13 s14 s15 : Nat → Nat → Int32} {m14 m15 : Nat → Int32} (h : CRrec σ τ s13 s14 s15 m14 m15) : cn (fun r => !decide (m14 r = -1)) 24 = cn (fun e => !decide (s13 e 0 = 0)) 24 := by
  refine cn_bij σ τ (fun r hr hp => ?_) (fun e he hp => ?_)
  · have hp : m14 r ≠ -1 := by simpa using hp
    obtain ⟨a1, a2, a3, -⟩ := h.1 r hr hp
    exact ⟨a1, by simpa using a3, a2⟩
  · have hp : s13 e 0 ≠ 0 := by simpa using hp
    obtain ⟨a1, a2, a3⟩ := h.2 e he hp
    exact ⟨a1, by simpa using a3, a2⟩
theorem CR_split {j j' K L L' : Nat} {σ τ σ2 τ2 : Nat → Nat} {s s' : Nat → Nat → Nat → Int32} {m m' : Nat → Nat → Int32} (hM : MI K m) (hC : CR j K L σ τ s m) {c d q p q1 : Nat} {ln en idn : Nat → Nat} (hc : c < 4) (hd : d < 4) (hcd : d ≠ c) (hq : m 4 c = nI q) (hq6 : q ≤ 6) (hq16 : q1 + 1 ≤ 6) (hp : m 4 d = nI p) (hp6 : p ≤ 6) (hnum : ∀ k, k < p → r6 (m 6) d k = 0)
    (e2 : m' 2 = m 2) (e3c : m' 3 c = 0) (e3d : m' 3 d = 0) (e3 : ∀ e, e < 4 → e ≠ c → e ≠ d → m' 3 e = m 3 e) (e4c : m' 4 c = nI (q1 + 1)) (e4 : ∀ e, e ≠ c → m' 4 e = m 4 e)
    (es : ∀ g, 5 ≤ g → g ≤ 8 → ∀ e k, e ≠ c → k < 6 → r6 (m' g) e k = r6 (m g) e k)
    (l1 : ∀ r, r < 24 → m 14 r = nI c → ln r < 24 ∧ m 14 (ln r) = -1)
    (n14 : ∀ r, r < 24 → m 14 r = nI c → m' 14 (ln r) = nI d ∧ m' 15 (ln r) = m 2 d)
    (o14 : ∀ x, x < 24 → (∀ r, r < 24 → m 14 r = nI c → x ≠ ln r) → m' 14 x = m 14 x ∧ m' 15 x = m 15 x) (o16 : ∀ x k, x < 24 → k < 6 → (∀ r, r < 24 → m 14 r = nI c → x ≠ ln r) → m 14 x ≠ nI c → r6 (m' 16) x k = r6 (m 16) x k)
    (eo : ∀ g, 9 ≤ g → g ≤ 13 → m' g = m g) (e17 : m' 17 = m 17) (e19 : m' 19 = m 19) (ew : ∀ g, 20 ≤ g → g ≤ 26 → m' g = m g)
    (hRO : ∀ k, k < q1 → r6 (m' 6) c k ≠ 0 → ∃ k0, k0 < q ∧ r6 (m 6) c k0 ≠ 0 ∧ ∀ r, r < 24 → m 14 r = nI c → r6 (m' 16) r k = r6 (m 16) r k0)
    (hL : r6 (m' 6) c q1 = 2 ∧ ∀ r, r < 24 → m 14 r = nI c → r6 (m' 16) r q1 = nI (ln r))
    (σn : ∀ r, r < 24 → m 14 r = nI c → σ2 (ln r) = en r) (σo : ∀ x, (∀ r, r < 24 → m 14 r = nI c → x ≠ ln r) → σ2 x = σ x)
    (τn : ∀ r, r < 24 → m 14 r = nI c → τ2 (en r) = ln r) (τo : ∀ y, (∀ r, r < 24 → m 14 r = nI c → y ≠ en r) → τ2 y = τ y)
    (fr : ∀ g, g ≠ 4 → g ≠ 11 → g ≠ 12 → g ≠ 13 → g ≠ 14 → g ≠ 15 → g ≠ 17 → g ≠ 27 → (g < 5 ∨ 10 < g) → s' g = s g) (f4c : s' 4 c 0 = 0) (f4d : s' 4 d 0 = 0) (f4 : ∀ e, e ≠ c → e ≠ d → s' 4 e 0 = s 4 e 0) (fs : ∀ g i, 5 ≤ g → g ≤ 9 → i < 8 → i ≠ 2 * c → s' g i = s g i)
    (hS : ShC (s' 5) (s' 6) (s' 7) (s' 8) (s' 9) (2 * c) (q1 + 1) (r6 (m' 5) c) (r6 (m' 6) c) (r6 (m' 7) c) (r6 (m' 8) c))
    (b1 : ∀ r, r < 24 → m 14 r = nI c → en r < 24 ∧ s 13 (en r) 0 = 0 ∧ s' 13 (en r) 0 = nI (idn r) ∧ L < idn r ∧ idn r ≤ L' ∧ s' 14 (en r) 0 = nI d ∧ s' 15 (en r) 0 = m 2 d ∧ ∀ k, k < p → s' 17 (en r) k = r6 (m' 16) (ln r) k)
    (b2 : ∀ r, r < 24 → m 14 r = nI c → ∀ r', r' < 24 → m 14 r' = nI c → idn r = idn r' → en r = en r')
    (b3 : ∀ y, y < 24 → (∀ r, r < 24 → m 14 r = nI c → y ≠ en r) → s' 13 y 0 = s 13 y 0 ∧ s' 14 y 0 = s 14 y 0 ∧ s' 15 y 0 = s 15 y 0)
    (f12 : s' 12 0 0 = nI L') (hLL : L ≤ L') (hLj : L' ≤ 200 * j') (hL31 : L' < 2 ^ 31) (f11 : s' 11 0 0 = nI (cn (fun e => !decide (s' 13 e 0 = 0)) 24))
    (f17 : ∀ r k, r < 24 → m 14 r ≠ -1 → m 14 r ≠ nI c → k < 6 → s' 17 (σ r) k = s 17 (σ r) k)
    (hV : ∀ r k, r < 24 → m 14 r = nI c → k < q1 → s' 17 (σ r) k = if r6 (m' 6) c k = 0 then r6 (m' 16) r k else tr σ (s 13) (r6 (m' 16) r k))
    (hVq : ∀ r, r < 24 → m 14 r = nI c → s' 17 (σ r) q1 = s' 13 (en r) 0) : CR j' K L' σ2 τ2 s' m' := by
  obtain ⟨kcls, ksh, kold, krec, kid, kcnt, kval, kroot, koldv, kwrd, kstp, kflt⟩ := id hC
  have nnew : ∀ {x}, m 14 x ≠ -1 → ∀ r, r < 24 → m 14 r = nI c → x ≠ ln r := fun {x} hx r hr h14 e => hx (by rw [e]; exact (l1 r hr h14).2)
  have enew : ∀ {y}, s 13 y 0 ≠ 0 → ∀ r, r < 24 → m 14 r = nI c → y ≠ en r := fun {y} hy r hr h14 e => hy (by rw [e]; exact (b1 r hr h14).2.1)
  have cl : ∀ {x e}, x < 24 → e < 4 → m' 14 x = nI e → (m 14 x = nI e ∧ ∀ r, r < 24 → m 14 r = nI c → x ≠ ln r) ∨ (e = d ∧ ∃ r, r < 24 ∧ m 14 r = nI c ∧ x = ln r) := by
    intro x e hx he h
    by_cases hn : ∃ r, r < 24 ∧ m 14 r = nI c ∧ x = ln r
    · obtain ⟨r, r1, r2, r3⟩ := hn
      have h2 := (n14 r r1 r2).1
      rw [← r3, h] at h2
      exact Or.inr ⟨nI_inj4 he hd h2, r, r1, r2, r3⟩
    · have hn' : ∀ r, r < 24 → m 14 r = nI c → x ≠ ln r := fun r r1 r2 r3 => hn ⟨r, r1, r2, r3⟩
      rw [(o14 x hx hn').1] at h
      exact Or.inl ⟨h, hn'⟩
  -- an old live record
  have old : ∀ {x}, x < 24 → m 14 x ≠ -1 → σ2 x = σ x ∧ s' 13 (σ x) 0 = s 13 (σ x) 0 := fun {x} hx hl => by
    obtain ⟨a1, a2, a3, -⟩ := krec.1 x hx hl
    exact ⟨σo x (nnew hl), (b3 (σ x) a1 (enew a3)).1⟩
  have trO : ∀ {w : Int32}, (w = -1 ∨ ∃ x, x < 24 ∧ w = nI x ∧ m 14 x ≠ -1) → tr σ2 (s' 13) w = tr σ (s 13) w := fun {w} hw => by
    rcases hw with hw | ⟨x, x1, x2, x3⟩
    · rw [hw, tr_m1, tr_m1]
    · rw [x2, tr_nI _ _ x1, tr_nI _ _ x1, (old x1 x3).1, (old x1 x3).2]
  have hrec' : CRrec σ2 τ2 (s' 13) (s' 14) (s' 15) (m' 14) (m' 15) := by
    refine ⟨fun x hx hl => ?_, fun y hy hl => ?_⟩
    · by_cases hn : ∃ r, r < 24 ∧ m 14 r = nI c ∧ x = ln r
      · obtain ⟨r, r1, r2, r3⟩ := hn
        obtain ⟨g1, g2, g3, g4, g5, g6, g7, -⟩ := b1 r r1 r2
        rw [r3, σn r r1 r2, τn r r1 r2, g3, g6, g7, (n14 r r1 r2).1, (n14 r r1 r2).2]
        exact ⟨g1, rfl, fun h => by have := (nI_eq (a := idn r) (b := 0) (by omega) (by decide)).mp h; omega, rfl, rfl⟩
      · have hn' : ∀ r, r < 24 → m 14 r = nI c → x ≠ ln r := fun r r1 r2 r3 => hn ⟨r, r1, r2, r3⟩
        rw [(o14 x hx hn').1] at hl
        obtain ⟨a1, a2, a3, a4, a5⟩ := krec.1 x hx hl
        obtain ⟨h1, h2, h3⟩ := b3 (σ x) a1 (enew a3)
        rw [σo x hn', τo (σ x) (enew a3), h1, h2, h3, (o14 x hx hn').1, (o14 x hx hn').2]
        exact ⟨a1, a2, a3, a4, a5⟩
    · by_cases hn : ∃ r, r < 24 ∧ m 14 r = nI c ∧ y = en r
      · obtain ⟨r, r1, r2, r3⟩ := hn
        rw [r3, τn r r1 r2, σn r r1 r2, (n14 r r1 r2).1]
        exact ⟨(l1 r r1 r2).1, rfl, nI_ne_m1 (by omega)⟩
      · have hn' : ∀ r, r < 24 → m 14 r = nI c → y ≠ en r := fun r r1 r2 r3 => hn ⟨r, r1, r2, r3⟩
        rw [(b3 y hy hn').1] at hl
        obtain ⟨a1, a2, a3⟩ := krec.2 y hy hl
        rw [τo y hn', σo (τ y) (nnew a3), (o14 (τ y) a1 (nnew a3)).1]
        exact ⟨a1, a2, a3⟩
  refine ⟨⟨by rw [fr 0 (by omega) (by omega) (by omega) (by omega) (by omega) (by omega) (by omega) (by omega) (by omega)]; exact kcls.1, fun e he => ⟨by rw [fr 3 (by omega) (by omega) (by omega) (by omega) (by omega) (by omega) (by omega) (by omega) (by omega), e2]; exact (kcls.2 e he).1, ?_⟩⟩, fun e w he hw6 hw => ?_, fun e w he hw6 hw h3 => ?_, hrec', ⟨hLj, f12, fun y hy hl => ?_, fun y hy hl y' hy' h => ?_⟩, ?_, fun r e k x h => ?_, fun i hi => ?_, fun e mo r k he h3 hmo h9 hr h14 hk => ?_, by rw [fr 20 (by omega) (by omega) (by omega) (by omega) (by omega) (by omega) (by omega) (by omega) (by omega), fr 21 (by omega) (by omega) (by omega) (by omega) (by omega) (by omega) (by omega) (by omega) (by omega), ew 20 (by omega) (by omega), ew 21 (by omega) (by omega)]; exact kwrd, ?_, by rw [fr 2 (by omega) (by omega) (by omega) (by omega) (by omega) (by omega) (by omega) (by omega) (by omega), ew 26 (by omega) (by omega)]; exact kflt⟩
  · by_cases ee : e = c
    · rw [ee, f4c, e3c]
    · by_cases ed : e = d
      · rw [ed, f4d, e3d]
      · rw [f4 e ee ed, e3 e he ee ed]
        exact (kcls.2 e he).2
  · by_cases ee : e = c
    · subst ee
      rw [e4c] at hw
      have ew : q1 + 1 = w := (nI_eq (by omega) (by omega)).mp hw
      subst ew
      exact hS
    · rw [e4 e ee] at hw
      obtain ⟨p1, p2⟩ := ksh e w he hw6 hw
      refine ⟨by rw [fs 5 _ (by omega) (by omega) (by omega) (by omega)]; exact p1, fun k hk => ?_⟩
      rw [fs 6 _ (by omega) (by omega) (by omega) (by omega), fs 7 _ (by omega) (by omega) (by omega) (by omega), fs 8 _ (by omega) (by omega) (by omega) (by omega), fs 9 _ (by omega) (by omega) (by omega) (by omega), es 5 (by omega) (by omega) e k ee (by omega), es 6 (by omega) (by omega) e k ee (by omega), es 7 (by omega) (by omega) e k ee (by omega), es 8 (by omega) (by omega) e k ee (by omega)]
      exact p2 k hk
  · have ee : e ≠ c := fun ee => by rw [ee, e3c] at h3; exact absurd h3 (by decide)
    have ed : e ≠ d := fun ed => by rw [ed, e3d] at h3; exact absurd h3 (by decide)
    rw [e3 e he ee ed] at h3
    rw [eo 9 (by omega) (by omega)] at hw
    rw [eo 10 (by omega) (by omega), eo 11 (by omega) (by omega), eo 12 (by omega) (by omega), eo 13 (by omega) (by omega)]
    obtain ⟨p1, p2⟩ := kold e w he hw6 hw h3
    refine ⟨by rw [fs 5 _ (by omega) (by omega) (by omega) (by omega)]; exact p1, fun k hk => ?_⟩
    rw [fs 6 _ (by omega) (by omega) (by omega) (by omega), fs 7 _ (by omega) (by omega) (by omega) (by omega), fs 8 _ (by omega) (by omega) (by omega) (by omega), fs 9 _ (by omega) (by omega) (by omega) (by omega)]
    exact p2 k hk
  · by_cases hn : ∃ r, r < 24 ∧ m 14 r = nI c ∧ y = en r
    · obtain ⟨r, r1, r2, r3⟩ := hn
      obtain ⟨g1, g2, g3, g4, g5, -⟩ := b1 r r1 r2
      exact ⟨idn r, by omega, g5, by rw [r3]; exact g3⟩
    · have hn' : ∀ r, r < 24 → m 14 r = nI c → y ≠ en r := fun r r1 r2 r3 => hn ⟨r, r1, r2, r3⟩
      rw [(b3 y hy hn').1] at hl ⊢
      obtain ⟨i, i1, i2, i3⟩ := kid.2.2.1 y hy hl
      exact ⟨i, i1, by omega, i3⟩
  · -- ids differ
    have idO : ∀ {y}, y < 24 → s' 13 y 0 ≠ 0 → (∀ r, r < 24 → m 14 r = nI c → y ≠ en r) → s 13 y 0 ≠ 0 ∧ s' 13 y 0 = s 13 y 0 ∧ ∃ i, i ≤ L ∧ s 13 y 0 = nI i := fun {y} hy hl hn => by
      rw [(b3 y hy hn).1] at hl ⊢
      obtain ⟨i, i1, i2, i3⟩ := kid.2.2.1 y hy hl
      exact ⟨hl, rfl, i, i2, i3⟩
    have hl' : s' 13 y' 0 ≠ 0 := by rw [← h]; exact hl
    by_cases hn : ∃ r, r < 24 ∧ m 14 r = nI c ∧ y = en r
    · obtain ⟨r, r1, r2, r3⟩ := hn
      obtain ⟨g1, g2, g3, g4, g5, -⟩ := b1 r r1 r2
      by_cases hn2 : ∃ r, r < 24 ∧ m 14 r = nI c ∧ y' = en r
      · obtain ⟨r', r1', r2', r3'⟩ := hn2
        obtain ⟨g1', g2', g3', g4', g5', -⟩ := b1 r' r1' r2'
        rw [r3, r3', g3, g3'] at h
        rw [r3, r3']
        exact b2 r r1 r2 r' r1' r2' ((nI_eq (by omega) (by omega)).mp h)
      · obtain ⟨_, q2, i, i1, i2⟩ := idO hy' hl' (fun r r1 r2 r3 => hn2 ⟨r, r1, r2, r3⟩)
        rw [r3, g3, q2, i2] at h
        have := (nI_eq (by omega) (by omega)).mp h
        omega
    · obtain ⟨q1', q2, i, i1, i2⟩ := idO hy hl (fun r r1 r2 r3 => hn ⟨r, r1, r2, r3⟩)
      by_cases hn2 : ∃ r, r < 24 ∧ m 14 r = nI c ∧ y' = en r
      · obtain ⟨r', r1', r2', r3'⟩ := hn2
        obtain ⟨g1', g2', g3', g4', g5', -⟩ := b1 r' r1' r2'
        rw [r3', g3', q2, i2] at h
        have := (nI_eq (by omega) (by omega)).mp h
        omega
      · obtain ⟨_, p2, -⟩ := idO hy' hl' (fun r r1 r2 r3 => hn2 ⟨r, r1, r2, r3⟩)
        exact kid.2.2.2 y hy q1' y' hy' (by rw [← q2, ← p2]; exact h)
  · show s' 11 0 0 = nI (cn (fun r => !decide (m' 14 r = -1)) 24)
    rw [f11, cnt_rec hrec']
  · have hk6 := Fld_lt h
    obtain ⟨hr, he, h14, ⟨w, hw6, hw, hk⟩, hx⟩ := h
    by_cases ee : e = c
    · subst ee
      rw [e4c] at hw
      have ew : q1 + 1 = w := (nI_eq (by omega) (by omega)).mp hw
      rcases cl hr he h14 with ⟨h14, -⟩ | ⟨ed, -⟩
      · have hl : m 14 r ≠ -1 := by rw [h14]; exact nI_ne_m1 (by omega)
        rw [(old hr hl).1]
        by_cases ek : k = q1
        · subst ek
          rw [hL.1] at hx
          rw [← hx, if_neg (by decide), hVq r hr h14, hL.2 r hr h14, tr_nI _ _ (l1 r hr h14).1, σn r hr h14]
        · rw [hV r k hr h14 (by omega), hx]
          by_cases h0 : x = 0
          · rw [if_pos h0, if_pos h0]
          · rw [if_neg h0, if_neg h0]
            obtain ⟨k0, k1, k2, k3⟩ := hRO k (by omega) (by rw [hx]; exact h0)
            rw [k3 r hr h14]
            exact (trO (ref_live hM ⟨hr, hc, h14, ⟨q, hq6, hq, k1⟩, rfl⟩ k2)).symm
      · exact absurd ed.symm hcd
    · rw [e4 e ee] at hw
      rw [es 6 (by omega) (by omega) e k ee hk6] at hx
      rcases cl hr he h14 with ⟨h14, -⟩ | ⟨ed, r0, r1, r2, r3⟩
      · have hl : m 14 r ≠ -1 := by rw [h14]; exact nI_ne_m1 (by omega)
        have hne : m 14 r ≠ nI c := fun h => ee (nI_inj4 he hc (h14.symm.trans h))
        have hF : Fld (m 4) (m 6) (m 14) r e k x := ⟨hr, he, h14, ⟨w, hw6, hw, hk⟩, hx⟩
        rw [(old hr hl).1, f17 r k hr hl hne hk6, o16 r k hr hk6 (nnew hl) hne, kval r e k x hF]
        by_cases h0 : x = 0
        · rw [if_pos h0, if_pos h0]
        · rw [if_neg h0, if_neg h0]
          exact (trO (ref_live hM hF h0)).symm
      · subst ed
        have ew : p = w := (nI_eq (by omega) (by omega)).mp (hp.symm.trans hw)
        rw [hnum k (by omega)] at hx
        rw [← hx, if_pos rfl, r3, σn r0 r1 r2]
        exact (b1 r0 r1 r2).2.2.2.2.2.2.2 k (by omega)
  · rw [fr 19 (by omega) (by omega) (by omega) (by omega) (by omega) (by omega) (by omega) (by omega) (by omega), e19, kroot i hi]
    exact (trO (hM.2.2.2.2.1 i hi)).symm
  · have ee : e ≠ c := fun ee => by rw [ee, e3c] at h3; exact absurd h3 (by decide)
    have ed : e ≠ d := fun ed => by rw [ed, e3d] at h3; exact absurd h3 (by decide)
    rw [e3 e he ee ed] at h3
    rw [eo 9 (by omega) (by omega)] at h9
    have h14 : m 14 r = nI e := by
      rcases cl hr he h14 with ⟨h, -⟩ | ⟨h, -⟩
      · exact h
      · exact absurd h ed
    have hl : m 14 r ≠ -1 := by rw [h14]; exact nI_ne_m1 (by omega)
    rw [fr 18 (by omega) (by omega) (by omega) (by omega) (by omega) (by omega) (by omega) (by omega) (by omega), eo 11 (by omega) (by omega), e17, (old hr hl).1]
    obtain ⟨g1, g2⟩ := koldv e mo r k he h3 hmo h9 hr h14 hk
    refine ⟨g1, fun hne => ⟨fun hv => ?_, fun hv => ?_⟩⟩
    · rw [(g2 hne).1 hv]
      refine (trO ?_).symm
      -- an old reference is to a live record
      obtain ⟨mo', x1, x2, x3⟩ := hM.2.2.2.2.2.2.1 e he
      have emo : mo = mo' := (nI_eq (by omega) (by omega)).mp (h9.symm.trans x2)
      subst emo
      obtain ⟨xs, y1, y2, φ, y3, y4⟩ := x3 h3
      rcases (xs.2.2 k hk).2 with z | ⟨z, -⟩
      · exact absurd z.1 hne
      · rcases z with z | z
        · rcases y2 r k hr h14 hk z with w | ⟨x, w1, w2, w3, -⟩
          · exact Or.inl w
          · exact Or.inr ⟨x, w1, w2, w3⟩
        · obtain ⟨⟨w, w1, w2, w3⟩, w4, w5, w6⟩ := y3 k hk z
          rw [w6 r hr h14]
          exact ref_live hM ⟨hr, he, h14, ⟨w, w1, w2, w3⟩, w4⟩ (by decide)
    · obtain ⟨i, i1, i2, i3⟩ := (g2 hne).2 hv
      refine ⟨i, by omega, i2, fun y hy hly => ?_⟩
      by_cases hn : ∃ r, r < 24 ∧ m 14 r = nI c ∧ y = en r
      · obtain ⟨r, r1, r2, r3⟩ := hn
        obtain ⟨g1, g2, g3, g4, g5, -⟩ := b1 r r1 r2
        rw [r3, g3]
        intro h
        have := (nI_eq (by omega) (by omega)).mp h
        omega
      · have hn' : ∀ r, r < 24 → m 14 r = nI c → y ≠ en r := fun r r1 r2 r3 => hn ⟨r, r1, r2, r3⟩
        rw [(b3 y hy hn').1] at hly ⊢
        exact i3 y hy hly
  · rw [fr 1 (by omega) (by omega) (by omega) (by omega) (by omega) (by omega) (by omega) (by omega) (by omega), fr 20 (by omega) (by omega) (by omega) (by omega) (by omega) (by omega) (by omega) (by omega) (by omega), fr 21 (by omega) (by omega) (by omega) (by omega) (by omega) (by omega) (by omega) (by omega) (by omega), fr 22 (by omega) (by omega) (by omega) (by omega) (by omega) (by omega) (by omega) (by omega) (by omega), fr 23 (by omega) (by omega) (by omega) (by omega) (by omega) (by omega) (by omega) (by omega) (by omega), fr 24 (by omega) (by omega) (by omega) (by omega) (by omega) (by omega) (by omega) (by omega) (by omega), fr 25 (by omega) (by omega) (by omega) (by omega) (by omega) (by omega) (by omega) (by omega) (by omega), fr 26 (by omega) (by omega) (by omega) (by omega) (by omega) (by omega) (by omega) (by omega) (by omega), ew 22 (by omega) (by omega), ew 23 (by omega) (by omega), ew 24 (by omega) (by omega), ew 25 (by omega) (by omega)]
    exact kstp
