theorem nI_inj4 {a b : Nat} (ha : a < 4) (hb : b < 4) (h : nI a = nI b) : a = b := (nI_eq (by omega) (by omega)).mp h
set_option maxHeartbeats 2000000 in
theorem Rel_takeBack {j K L : Nat} {σ τ : Nat → Nat} {C : CSt} {M : MSt} (hM : MI K M.1) (hC : CR j K L σ τ C.1 M.1) {c mo : Nat} (hcK : c < K) (h3 : M.1 3 c = 1) (hmo : mo ≤ 6) (h9 : M.1 9 c = nI mo) : Rel (j + 1) (sI (sI (cpS (tbE C (fun e l => if r6 (M.1 11) c l = 0 then r6 (M.1 17) (τ e) l else tr σ (C.1 13) (r6 (M.1 17) (τ e) l)) c mo 24) (2 * c) (2 * c + 1) mo) 3 c 0 (C.1 3 c 0 - 1)) 4 c 0 0) (mI (mI (mI (tbM (tbR (mI M 0 0 0) c 24) c 6) 4 c (M.1 9 c)) 2 c (M.1 2 c - 1)) 3 c 0) := by
  obtain ⟨hcls, hsh, hrec, hval, hroot, hrank, hold, hwrd, hstp⟩ := id hM
  obtain ⟨kcls, ksh, kold, krec, kid, kcnt, kval, kroot, koldv, kwrd, kstp, kflt⟩ := id hC
  have hK4 : K ≤ 4 := hcls.1
  have hc : c < 4 := by omega
  obtain ⟨mo', hmo', h9', hop⟩ := hold c hc
  have emo : mo = mo' := (nI_eq (by omega) (by omega)).mp (h9.symm.trans h9')
  subst emo
  obtain ⟨oS, o0, o1, φ, o2, oinj⟩ := hop h3
  obtain ⟨⟨v, hv9, hv, hv1⟩, -⟩ := hcls.2.2 c hc
  have hvp : 1 ≤ v := hv1 h3
  generalize hM' : (mI (mI (mI (tbM (tbR (mI M 0 0 0) c 24) c 6) 4 c (M.1 9 c)) 2 c (M.1 2 c - 1)) 3 c 0) = M'
  generalize hC' : (sI (sI (cpS (tbE C (fun e l => if r6 (M.1 11) c l = 0 then r6 (M.1 17) (τ e) l else tr σ (C.1 13) (r6 (M.1 17) (τ e) l)) c mo 24) (2 * c) (2 * c + 1) mo) 3 c 0 (C.1 3 c 0 - 1)) 4 c 0 0) = C'
  -- the rows of the reference
  have f2 : ∀ d, M'.1 2 d = if d = c then nI (v - 1) else M.1 2 d := fun d => by
    rw [← hM']
    show (mI (mI (tbM (tbR (mI M 0 0 0) c 24) c 6) 4 c (M.1 9 c)) 2 c (M.1 2 c - 1)).1 2 d = _
    rw [mI_at]
    by_cases e : d = c
    · rw [if_pos ⟨rfl, e⟩, if_pos e, hv]
      exact pk_sub (b := 1) hvp
    · rw [if_neg (fun h => e h.2), if_neg e]; rfl
  have f3 : ∀ d, M'.1 3 d = if d = c then 0 else M.1 3 d := fun d => by
    rw [← hM', mI_at]
    by_cases e : d = c
    · rw [if_pos ⟨rfl, e⟩, if_pos e]
    · rw [if_neg (fun h => e h.2), if_neg e]; rfl
  have f4 : ∀ d, M'.1 4 d = if d = c then nI mo else M.1 4 d := fun d => by
    rw [← hM']
    show (mI (tbM (tbR (mI M 0 0 0) c 24) c 6) 4 c (M.1 9 c)).1 4 d = _
    rw [mI_at, h9]
    by_cases e : d = c
    · rw [if_pos ⟨rfl, e⟩, if_pos e]
    · rw [if_neg (fun h => e h.2), if_neg e]; rfl
  have fs : ∀ g, 5 ≤ g → g ≤ 8 → ∀ d k, k < 6 → r6 (M'.1 g) d k = if d = c then r6 (M.1 (g + 5)) c k else r6 (M.1 g) d k := fun g hg1 hg2 d k hk => by
    unfold r6
    rw [← hM', mI_at, if_neg (by omega), mI_at, if_neg (by omega), mI_at, if_neg (by omega), tbM_at]
    unfold tbR
    by_cases e : d = c
    · rw [if_pos ⟨⟨hg1, hg2⟩, by omega, by omega⟩, if_pos e, e, mR_at2, if_neg (by omega), mR_at2, if_neg (by omega), mI_at, if_neg (by omega)]
    · rw [if_neg (by omega), if_neg e, mR_at2, if_neg (by omega), mR_at2, if_neg (by omega), mI_at, if_neg (by omega)]
  have f14 : M'.1 14 = M.1 14 := by rw [← hM']; rfl
  have f15 : ∀ r, M'.1 15 r = if r < 24 ∧ M.1 14 r = nI c ∧ M.1 15 r = M.1 2 c then M.1 15 r - 1 else M.1 15 r := fun r => by rw [← hM']; rfl
  have f16 : ∀ r k, r < 24 → k < 6 → r6 (M'.1 16) r k = if M.1 14 r = nI c then r6 (M.1 17) r k else r6 (M.1 16) r k := fun r k hr hk => by
    unfold r6
    rw [← hM']
    show (if 6 * r + k < 6 * 24 ∧ M.1 14 ((6 * r + k) / 6) = nI c then M.1 17 (6 * r + k) else M.1 16 (6 * r + k)) = _
    rw [show (6 * r + k) / 6 = r by omega]
    by_cases e : M.1 14 r = nI c
    · rw [if_pos ⟨by omega, e⟩, if_pos e]
    · rw [if_neg (fun h => e h.2), if_neg e]
  have f17 : M'.1 17 = M.1 17 := by rw [← hM']; rfl
  have fl : ∀ {r d k q}, Fld (M'.1 4) (M'.1 6) (M'.1 14) r d k q → (d = c ∧ r < 24 ∧ M.1 14 r = nI c ∧ k < mo ∧ r6 (M.1 11) c k = q) ∨ (d ≠ c ∧ Fld (M.1 4) (M.1 6) (M.1 14) r d k q ∧ M.1 14 r ≠ nI c) := by
    intro r d k q h
    have hk6 := Fld_lt h
    obtain ⟨hr, hd, h14, ⟨m, hm6, hm, hk⟩, hq⟩ := h
    rw [f14] at h14
    rw [f4] at hm
    rw [fs 6 (by omega) (by omega) d k hk6] at hq
    by_cases e : d = c
    · rw [if_pos e] at hm hq
      have em : mo = m := (nI_eq (by omega) (by omega)).mp hm
      exact Or.inl ⟨e, hr, by rw [h14, e], by omega, hq⟩
    · rw [if_neg e] at hm hq
      exact Or.inr ⟨e, ⟨hr, hd, h14, ⟨m, hm6, hm, hk⟩, hq⟩, fun h => e (nI_inj4 hd hc (h14.symm.trans h))⟩
  have oldF : ∀ {r k}, r < 24 → M.1 14 r = nI c → k < mo → r6 (M.1 11) c k = 2 → Fld (M.1 4) (M.1 6) (M.1 14) r c (φ k) 2 ∧ r6 (M.1 17) r k = r6 (M.1 16) r (φ k) := by
    intro r k hr h14 hk h2
    obtain ⟨hm, hq, -, hx⟩ := o2 k hk h2
    exact ⟨⟨hr, hc, h14, hm, hq⟩, hx r hr h14⟩
  have own : ∀ {r k p}, Own (M'.1 4) (M'.1 6) (M'.1 14) (M'.1 16) r k p → (M.1 14 r = nI c ∧ k < mo ∧ r6 (M.1 11) c k = 2 ∧ Own (M.1 4) (M.1 6) (M.1 14) (M.1 16) r (φ k) p) ∨ (M.1 14 r ≠ nI c ∧ Own (M.1 4) (M.1 6) (M.1 14) (M.1 16) r k p) := by
    rintro r k p ⟨d, h1, h2⟩
    have hk6 := Fld_lt h1
    have hr := h1.1
    rw [f16 r k hr hk6] at h2
    rcases fl h1 with ⟨e, -, h14, hk, hq⟩ | ⟨e, hF, h14⟩
    · rw [if_pos h14] at h2
      obtain ⟨g1, g2⟩ := oldF hr h14 hk hq
      exact Or.inl ⟨h14, hk, hq, c, g1, by rw [← g2]; exact h2⟩
    · rw [if_neg h14] at h2
      exact Or.inr ⟨h14, d, hF, h2⟩
  have nown : ∀ {p}, (∀ r' k', ¬ Own (M.1 4) (M.1 6) (M.1 14) (M.1 16) r' k' p) → ∀ r' k', ¬ Own (M'.1 4) (M'.1 6) (M'.1 14) (M'.1 16) r' k' p := by
    intro p hp r' k' ho
    rcases own ho with ⟨-, -, -, h⟩ | ⟨-, h⟩
    · exact hp _ _ h
    · exact hp _ _ h
  have refs : ∀ {w : Int32}, (w = -1 ∨ ∃ p, p < 24 ∧ w = nI p ∧ M.1 14 p ≠ -1 ∧ ∀ r' k', ¬ Own (M.1 4) (M.1 6) (M.1 14) (M.1 16) r' k' p) → (w = -1 ∨ ∃ p, p < 24 ∧ w = nI p ∧ M'.1 14 p ≠ -1 ∧ ∀ r' k', ¬ Own (M'.1 4) (M'.1 6) (M'.1 14) (M'.1 16) r' k' p) := by
    intro w hw
    rcases hw with hw | ⟨p, w1, w2, w3, w4⟩
    · exact Or.inl hw
    · exact Or.inr ⟨p, w1, w2, by rw [f14]; exact w3, nown w4⟩
  -- the rows of the class
  have sgen : ∀ g i l, C'.1 g i l = if g = 4 ∧ i = c ∧ l = 0 then 0 else if g = 3 ∧ i = c ∧ l = 0 then C.1 3 c 0 - 1 else (cpS (tbE C (fun e l => if r6 (M.1 11) c l = 0 then r6 (M.1 17) (τ e) l else tr σ (C.1 13) (r6 (M.1 17) (τ e) l)) c mo 24) (2 * c) (2 * c + 1) mo).1 g i l := fun g i l => by rw [← hC', sI_at, sI_at]
  have sshape : ∀ g i l, 5 ≤ g → g ≤ 10 → i ≠ 2 * c → C'.1 g i l = C.1 g i l := fun g i l hg1 hg2 hi => by
    rw [sgen, if_neg (by omega), if_neg (by omega), cpS_ne _ (by omega) hi]
    unfold tbE
    rw [sF_at2, if_neg (by omega), sF_at2, if_neg (by omega)]
  have s13 : C'.1 13 = C.1 13 := by rw [← hC']; rfl
  have s14 : C'.1 14 = C.1 14 := by rw [← hC']; rfl
  have s18 : C'.1 18 = C.1 18 := by rw [← hC']; rfl
  have s19 : C'.1 19 = C.1 19 := by rw [← hC']; rfl
  have s15 : ∀ e, C'.1 15 e 0 = if e < 24 ∧ 0 = 0 ∧ (!decide (C.1 13 e 0 = 0) && decide (C.1 14 e 0 = nI c)) = true ∧ C.1 15 e 0 = C.1 3 c 0 then C.1 15 e 0 - 1 else C.1 15 e 0 := fun e => by rw [← hC']; rfl
  have s17 : ∀ e l, C'.1 17 e l = if e < 24 ∧ (!decide (C.1 13 e 0 = 0) && decide (C.1 14 e 0 = nI c)) = true ∧ l < mo then (if r6 (M.1 11) c l = 0 then r6 (M.1 17) (τ e) l else tr σ (C.1 13) (r6 (M.1 17) (τ e) l)) else C.1 17 e l := fun e l => by rw [← hC']; rfl
  refine ⟨K, L, σ, τ, ⟨⟨hK4, by rw [← hM']; exact hcls.2.1, fun d hd => ?_⟩, fun d hd => ?_, fun r hr => ?_, ⟨fun r d k h => ?_, fun r d k h => ?_, fun r d k h => ?_, fun r k r' k' p h h' => ?_⟩, fun i hi => ?_, ?_, fun d hd => ?_, by rw [← hM']; exact hwrd, by rw [← hM']; exact hstp⟩, ⟨⟨by rw [← hC']; exact kcls.1, fun d hd => ⟨?_, ?_⟩⟩, fun d m hd hm6 hm => ?_, fun d m hd hm6 hm h3' => ?_, ⟨fun r hr hl => ?_, fun e he hl => ?_⟩, ?_, ?_, fun r d k q h => ?_, ?_, fun d m r k hd h3' hm6 hm hr h14 hk => ?_, by rw [← hM', ← hC']; exact kwrd, by rw [← hM', ← hC']; exact kstp, by rw [← hM', ← hC']; exact kflt⟩⟩
  · -- versions
    rw [f2, f3]
    by_cases e : d = c
    · rw [if_pos e, if_pos e]
      exact ⟨⟨v - 1, by omega, rfl, fun h => absurd h (by decide)⟩, Or.inl rfl⟩
    · rw [if_neg e, if_neg e]
      exact hcls.2.2 d hd
  · -- shapes
    by_cases e : d = c
    · subst e
      refine ⟨mo, by rw [f4, if_pos rfl], hmo, fun i hi i' hi' h => ?_, fun i hi => ?_⟩
      · rw [fs 5 (by omega) (by omega) d i (by omega), fs 5 (by omega) (by omega) d i' (by omega), if_pos rfl, if_pos rfl] at h
        exact oS.2.1 i hi i' hi' h
      · rw [fs 5 (by omega) (by omega) d i (by omega), fs 6 (by omega) (by omega) d i (by omega), fs 7 (by omega) (by omega) d i (by omega), fs 8 (by omega) (by omega) d i (by omega), if_pos rfl, if_pos rfl, if_pos rfl, if_pos rfl]
        exact oS.2.2 i hi
    · obtain ⟨m, hm, hS⟩ := hsh d hd
      have hm6 := hS.1
      refine ⟨m, by rw [f4, if_neg e]; exact hm, hm6, fun i hi i' hi' h => ?_, fun i hi => ?_⟩
      · rw [fs 5 (by omega) (by omega) d i (by omega), fs 5 (by omega) (by omega) d i' (by omega), if_neg e, if_neg e] at h
        exact hS.2.1 i hi i' hi' h
      · rw [fs 5 (by omega) (by omega) d i (by omega), fs 6 (by omega) (by omega) d i (by omega), fs 7 (by omega) (by omega) d i (by omega), fs 8 (by omega) (by omega) d i (by omega), if_neg e, if_neg e, if_neg e, if_neg e]
        exact hS.2.2 i hi
  · -- records
    rw [f14]
    rcases hrec r hr with h | ⟨d, hd, h14, hk0, hk1⟩
    · exact Or.inl h
    · refine Or.inr ⟨d, hd, h14, ?_⟩
      rw [f15, f2]
      by_cases e : d = c
      · subst e
        rw [if_pos rfl]
        rw [hv] at hk1
        obtain ⟨u, hu, eu⟩ := nI_of2 (nI_toInt (n := v) (by omega)) (Int32.not_lt.mpr hk0) hk1
        by_cases e2 : M.1 15 r = M.1 2 d
        · rw [if_pos ⟨hr, h14, e2⟩, e2, hv]
          have e3 : nI v - 1 = nI (v - 1) := pk_sub (b := 1) hvp
          rw [e3]
          exact ⟨nI_pos' (by omega), Int32.le_refl _⟩
        · rw [if_neg (fun h => e2 h.2.2), eu]
          have : u ≠ v := fun h => e2 (by rw [eu, hv, h])
          exact ⟨nI_pos' (by omega), nI_le (by omega) (by omega)⟩
      · rw [if_neg e, if_neg (fun h => e (nI_inj4 (by omega) hc (h14.symm.trans h.2.1)))]
        exact ⟨hk0, hk1⟩
  · -- numbers
    have hk6 := Fld_lt h
    have hr := h.1
    rw [f16 r k hr hk6, fs 7 (by omega) (by omega) d k hk6, fs 8 (by omega) (by omega) d k hk6]
    rcases fl h with ⟨e, -, h14, hk, hq⟩ | ⟨e, hF, h14⟩
    · rw [if_pos e, if_pos e, if_pos h14]
      exact o0 r k hr h14 hk hq
    · rw [if_neg e, if_neg e, if_neg h14]
      exact hval.1 r d k hF
  · -- references
    have hk6 := Fld_lt h
    have hr := h.1
    rw [f16 r k hr hk6]
    rcases fl h with ⟨e, -, h14, hk, hq⟩ | ⟨e, hF, h14⟩
    · rw [if_pos h14]
      exact refs (o1 r k hr h14 hk hq)
    · rw [if_neg h14]
      exact refs (hval.2.1 r d k hF)
  · -- owning
    have hk6 := Fld_lt h
    have hr := h.1
    rw [f16 r k hr hk6, fs 7 (by omega) (by omega) d k hk6, f14]
    rcases fl h with ⟨e, -, h14, hk, hq⟩ | ⟨e, hF, h14⟩
    · rw [if_pos e, if_pos h14]
      obtain ⟨g1, g2⟩ := oldF hr h14 hk hq
      obtain ⟨p, hp, p1, p2⟩ := hval.2.2.1 r c (φ k) g1
      refine ⟨p, hp, by rw [g2]; exact p1, ?_⟩
      rw [p2, (o2 k hk hq).2.2.1]
    · rw [if_neg e, if_neg h14]
      exact hval.2.2.1 r d k hF
  · -- one owner
    rcases own h with ⟨a1, a2, a3, a4⟩ | ⟨a1, a4⟩
    · rcases own h' with ⟨b1, b2, b3, b4⟩ | ⟨b1, b4⟩
      · obtain ⟨e1, e2⟩ := hval.2.2.2 _ _ _ _ _ a4 b4
        exact ⟨e1, oinj k a2 a3 k' b2 b3 e2⟩
      · obtain ⟨e1, -⟩ := hval.2.2.2 _ _ _ _ _ a4 b4
        rw [e1] at a1
        exact absurd a1 b1
    · rcases own h' with ⟨b1, b2, b3, b4⟩ | ⟨b1, b4⟩
      · obtain ⟨e1, -⟩ := hval.2.2.2 _ _ _ _ _ a4 b4
        rw [← e1] at b1
        exact absurd b1 a1
      · exact hval.2.2.2 _ _ _ _ _ a4 b4
  · -- roots
    rw [f14]
    have e19 : M'.1 19 = M.1 19 := by rw [← hM']; rfl
    rw [e19]
    exact hroot i hi
  · -- ranks
    obtain ⟨ρ, r1, r2, r3⟩ := hrank
    refine ⟨ρ, r1, r2, fun d m k d' hd hm6 hm hk hq hd' h7 => ?_⟩
    rw [f4] at hm
    rw [fs 6 (by omega) (by omega) d k (by omega)] at hq
    rw [fs 7 (by omega) (by omega) d k (by omega)] at h7
    by_cases e : d = c
    · rw [if_pos e] at hm hq h7
      have em : mo = m := (nI_eq (by omega) (by omega)).mp hm
      obtain ⟨⟨m2, g1, g2, g3⟩, g4, g5, -⟩ := o2 k (by omega) hq
      rw [e]
      exact r3 c m2 (φ k) d' hc g1 g2 g3 g4 hd' (g5.trans h7)
    · rw [if_neg e] at hm hq h7
      exact r3 d m k d' hd hm6 hm hk hq hd' h7
  · -- old versions of others
    obtain ⟨mo2, g1, g2, g3⟩ := hold d hd
    have e9 : M'.1 9 = M.1 9 := by rw [← hM']; rfl
    refine ⟨mo2, g1, by rw [e9]; exact g2, fun h => ?_⟩
    rw [f3] at h
    by_cases e : d = c
    · rw [if_pos e] at h; exact absurd h (by decide)
    · rw [if_neg e] at h
      obtain ⟨b1, b2, b3, φ', b4, b5⟩ := g3 h
      have e10 : M'.1 10 = M.1 10 := by rw [← hM']; rfl
      have e11 : M'.1 11 = M.1 11 := by rw [← hM']; rfl
      have e12 : M'.1 12 = M.1 12 := by rw [← hM']; rfl
      have e13 : M'.1 13 = M.1 13 := by rw [← hM']; rfl
      rw [e10, e11, e12, e13]
      refine ⟨b1, fun r k hr h14 hk hq => ?_, fun r k hr h14 hk hq => ?_, φ', fun k hk hq => ?_, b5⟩
      · rw [f14] at h14; rw [f17]; exact b2 r k hr h14 hk hq
      · rw [f14] at h14; rw [f17]; exact refs (b3 r k hr h14 hk hq)
      · obtain ⟨⟨m, c1, c2, c3⟩, c4, c5, c6⟩ := b4 k hk hq
        rw [fs 6 (by omega) (by omega) d _ (by omega), fs 7 (by omega) (by omega) d _ (by omega), if_neg e, if_neg e]
        refine ⟨⟨m, c1, by rw [f4, if_neg e]; exact c2, c3⟩, c4, c5, fun r hr h14 => ?_⟩
        rw [f14] at h14
        rw [f17, f16 r _ hr (by omega), if_neg (fun h => e (nI_inj4 hd hc (h14.symm.trans h)))]
        exact c6 r hr h14
  · -- the class's versions
    rw [sgen, if_neg (by omega), f2]
    by_cases e : d = c
    · rw [if_pos ⟨rfl, e, rfl⟩, if_pos e, (kcls.2 c hc).1, hv]
      exact pk_sub (b := 1) hvp
    · rw [if_neg (fun h => e h.2.1), if_neg e]
      exact (kcls.2 d hd).1
  · rw [sgen, f3]
    by_cases e : d = c
    · rw [if_pos ⟨rfl, e, rfl⟩, if_pos e]
    · rw [if_neg (fun h => e h.2.1), if_neg (by omega), if_neg e]
      exact (kcls.2 d hd).2
  · -- the class's shapes
    rw [f4] at hm
    by_cases e : d = c
    · subst e
      rw [if_pos rfl] at hm
      have em : mo = m := (nI_eq (by omega) (by omega)).mp hm
      subst em
      obtain ⟨q1, q2⟩ := cpS_sh (tbE C (fun e l => if r6 (M.1 11) d l = 0 then r6 (M.1 17) (τ e) l else tr σ (C.1 13) (r6 (M.1 17) (τ e) l)) d mo 24) (i := 2 * d) (i2 := 2 * d + 1) (m := mo) (by omega)
      obtain ⟨p1, p2⟩ := kold d mo hd hm6 h9 h3
      refine ⟨by rw [sgen, if_neg (by omega), if_neg (by omega)]; exact q1, fun k hk => ?_⟩
      rw [sgen, sgen, sgen, sgen, if_neg (by omega), if_neg (by omega), if_neg (by omega), if_neg (by omega), if_neg (by omega), if_neg (by omega), if_neg (by omega), if_neg (by omega), fs 5 (by omega) (by omega) d k (by omega), fs 6 (by omega) (by omega) d k (by omega), fs 7 (by omega) (by omega) d k (by omega), fs 8 (by omega) (by omega) d k (by omega), if_pos rfl, if_pos rfl, if_pos rfl, if_pos rfl]
      obtain ⟨q3, q4, q5, q6⟩ := q2 k hk
      rw [q3, q4, q5, q6]
      exact p2 k hk
    · rw [if_neg e] at hm
      obtain ⟨p1, p2⟩ := ksh d m hd hm6 hm
      refine ⟨by rw [sshape 5 _ _ (by omega) (by omega) (by omega)]; exact p1, fun k hk => ?_⟩
      rw [sshape 6 _ _ (by omega) (by omega) (by omega), sshape 7 _ _ (by omega) (by omega) (by omega), sshape 8 _ _ (by omega) (by omega) (by omega), sshape 9 _ _ (by omega) (by omega) (by omega), fs 5 (by omega) (by omega) d k (by omega), fs 6 (by omega) (by omega) d k (by omega), fs 7 (by omega) (by omega) d k (by omega), fs 8 (by omega) (by omega) d k (by omega), if_neg e, if_neg e, if_neg e, if_neg e]
      exact p2 k hk
  · rw [f3] at h3'
    have e : d ≠ c := fun e => by rw [if_pos e] at h3'; exact absurd h3' (by decide)
    rw [if_neg e] at h3'
    have e9 : M'.1 9 = M.1 9 := by rw [← hM']; rfl
    have e10 : M'.1 10 = M.1 10 := by rw [← hM']; rfl
    have e11 : M'.1 11 = M.1 11 := by rw [← hM']; rfl
    have e12 : M'.1 12 = M.1 12 := by rw [← hM']; rfl
    have e13 : M'.1 13 = M.1 13 := by rw [← hM']; rfl
    rw [e9] at hm
    rw [e10, e11, e12, e13]
    obtain ⟨p1, p2⟩ := kold d m hd hm6 hm h3'
    refine ⟨by rw [sshape 5 _ _ (by omega) (by omega) (by omega)]; exact p1, fun k hk => ?_⟩
    rw [sshape 6 _ _ (by omega) (by omega) (by omega), sshape 7 _ _ (by omega) (by omega) (by omega), sshape 8 _ _ (by omega) (by omega) (by omega), sshape 9 _ _ (by omega) (by omega) (by omega)]
    exact p2 k hk
  · -- the class's records
    rw [f14] at hl
    obtain ⟨g1, g2, g3, g4, g5⟩ := krec.1 r hr hl
    refine ⟨g1, g2, by rw [s13]; exact g3, by rw [s14, f14]; exact g4, ?_⟩
    rw [s15, f15, g5, g4, (kcls.2 c hc).1]
    by_cases e : M.1 14 r = nI c ∧ M.1 15 r = M.1 2 c
    · rw [if_pos ⟨g1, rfl, by simp [g3, e.1], e.2⟩, if_pos ⟨hr, e⟩]
    · rw [if_neg (fun h => e ⟨by have := h.2.2.1; simp at this; exact this.2, h.2.2.2⟩), if_neg (fun h => e h.2)]
  · rw [s13] at hl
    rw [f14]
    exact krec.2 e he hl
  · have e12 : C'.1 12 = C.1 12 := by rw [← hC']; rfl
    rw [s13, e12]
    exact CRid_up kid (by omega)
  · have e11 : C'.1 11 = C.1 11 := by rw [← hC']; rfl
    rw [f14, e11]
    exact kcnt
  · -- values
    have hk6 := Fld_lt h
    have hr := h.1
    rw [f16 r k hr hk6, s17, s13]
    rcases fl h with ⟨e, -, h14, hk, hq⟩ | ⟨e, hF, h14⟩
    · have hl : M.1 14 r ≠ -1 := by rw [h14]; exact nI_ne_m1 (by omega)
      obtain ⟨g1, g2, g3, g4, g5⟩ := krec.1 r hr hl
      rw [if_pos ⟨g1, by simp [g3, g4, h14], hk⟩, if_pos h14, g2, hq]
    · have hl : M.1 14 r ≠ -1 := by rw [hF.2.2.1]; exact nI_ne_m1 (by have := hF.2.1; omega)
      obtain ⟨g1, g2, g3, g4, g5⟩ := krec.1 r hr hl
      rw [if_neg (fun h => h14 (by have := h.2.1; simp at this; rw [← g4]; exact this.2)), if_neg h14]
      exact kval r d k q hF
  · have e19 : M'.1 19 = M.1 19 := by rw [← hM']; rfl
    rw [s13, s19, e19]
    exact kroot
  · rw [f3] at h3'
    have e : d ≠ c := fun e => by rw [if_pos e] at h3'; exact absurd h3' (by decide)
    rw [if_neg e] at h3'
    have e9 : M'.1 9 = M.1 9 := by rw [← hM']; rfl
    have e11 : M'.1 11 = M.1 11 := by rw [← hM']; rfl
    rw [e9] at hm
    rw [f14] at h14
    rw [s13, s18, e11, f17]
    exact koldv d m r k hd h3' hm6 hm hr h14 hk
theorem do_takeBack (n : Nat) (hn : 24 < n) : Do_takeBack n Rel := fun j C M hj hR x1 => by
  obtain ⟨K, L, σ, τ, hM, hC⟩ := id hR
  obtain ⟨kcls, ksh, kold, krec, kid, kcnt, kval, kroot, koldv, kwrd, kstp, kflt⟩ := id hC
  have hK4 : K ≤ 4 := hM.1.1
  rcases nI_lt3 (x := x1) (N := K) (by omega) with ⟨c, hcK, e⟩ | ⟨-, h⟩
  · subst e
    have hc : c < 4 := by omega
    rcases (hM.1.2.2 c hc).2 with h3 | h3
    · refine stI_ex (w := (0, mI M 0 0 2)) (k := 3) (C2 := C) ?_ ?_ (by decide) rfl (Rel_code 2 (Rel_up hR))
      · unfold m_X7_takeBack
        rw [q_needClass n kcls.1 hK4 hcK]
        show (bif inB (nI c) 4 then _ else none) = _
        rw [inB_nI hc (by omega), nI_clamp (by omega), (kcls.2 c hc).2, h3]
        rfl
      · unfold m_X8_takeBack
        rw [p_isClass n hM.1.2.1 hK4 hcK, Option.bind_some, if_pos one_ne, inB_nI hc (by omega), nI_clamp (by omega), h3]
        rfl
    · obtain ⟨mo, hmo, h9, hop⟩ := hM.2.2.2.2.2.2.1 c hc
      obtain ⟨oS, o0, o1, φ, o2, oinj⟩ := hop h3
      obtain ⟨p1, p2⟩ := kold c mo hc hmo h9 h3
      have hq := q_takeBack (g := fun e l => if r6 (M.1 11) c l = 0 then r6 (M.1 17) (τ e) l else tr σ (C.1 13) (r6 (M.1 17) (τ e) l)) hn kcls.1 hK4 hcK ((kcls.2 c hc).2.trans h3) hmo p1 kid.2.2.2 (fun e l he hl h14 hlm => by
        obtain ⟨g1, g2, g3⟩ := krec.2 e he hl
        obtain ⟨f1, f2, f3, f4, f5⟩ := krec.1 (τ e) g1 g3
        rw [g2] at f4
        have h14' : M.1 14 (τ e) = nI c := f4.symm.trans h14
        obtain ⟨c1, c2⟩ := koldv c mo (τ e) l hc h3 hmo h9 g1 h14' hlm
        rw [g2] at c1 c2
        unfold bk
        rw [(p2 l hlm).2.1]
        by_cases k0 : r6 (M.1 11) c l = 0
        · refine Or.inl ⟨k0, ?_⟩
          show (if r6 (M.1 11) c l = 0 then _ else _) = _
          rw [if_pos k0, c1 k0]
        · refine Or.inr ?_
          obtain ⟨c3, c4⟩ := c2 k0
          show (_ ∧ _ ∧ (if r6 (M.1 11) c l = 0 then _ else _) = _) ∨ (_ ∧ _ ∧ (if r6 (M.1 11) c l = 0 then _ else _) = _)
          rw [if_neg k0]
          by_cases hm1 : r6 (M.1 17) (τ e) l = -1
          · obtain ⟨i, i1, i2, i3⟩ := c4 hm1
            rw [hm1, tr_m1]
            exact Or.inr ⟨k0, fun e' he' hl' => by rw [i2]; exact i3 e' he' hl', rfl⟩
          · have live : ∃ p, p < 24 ∧ r6 (M.1 17) (τ e) l = nI p ∧ M.1 14 p ≠ -1 := by
              rcases (oS.2.2 l hlm).2 with hk | ⟨hk, -⟩
              · exact absurd hk.1 k0
              · rcases hk with hk | hk
                · rcases o1 (τ e) l g1 h14' hlm hk with h | ⟨p, q1, q2, q3, -⟩
                  · exact absurd h hm1
                  · exact ⟨p, q1, q2, q3⟩
                · obtain ⟨d1, d2, -, d3⟩ := o2 l hlm hk
                  have hx := d3 (τ e) g1 h14'
                  have hF : Fld (M.1 4) (M.1 6) (M.1 14) (τ e) c (φ l) 2 := ⟨g1, hc, h14', d1, d2⟩
                  rcases ref_live hM hF (by decide) with h | ⟨p, q1, q2, q3⟩
                  · exact absurd (hx.trans h) hm1
                  · exact ⟨p, q1, hx.trans q2, q3⟩
            obtain ⟨p, q1, q2, q3⟩ := live
            refine Or.inl ⟨k0, ?_, (c3 hm1).symm⟩
            rw [c3 hm1, q2, tr_nI σ _ q1]
            obtain ⟨r1, r2, r3, -⟩ := krec.1 p q1 q3
            exact ⟨σ p, r1, r3, rfl⟩)
      refine stI_ok hq (p_takeBack hn hM.1.2.1 hK4 hcK h3) rfl ?_ (Rel_takeBack hM hC hcK h3 hmo h9)
      show nI _ = nI _
      rw [cnt_of hC hc (fun v => decide (v = M.1 2 c)), (kcls.2 c hc).1]
  · refine stI_ex (w := (0, mI M 0 0 1)) (k := 1) (C2 := C) ?_ ?_ (by decide) rfl (Rel_code 1 (Rel_up hR))
    · unfold m_X7_takeBack
      rw [q_needClass0 n kcls.1 h]
      rfl
    · unfold m_X8_takeBack
      rw [p_isClass0 n hM.1.2.1 h]
      rfl
