/-! ===== make: both ===== -/
theorem nr_near {lo hi : Int32} (h : lo ≤ hi) : near0 lo hi = nr lo hi ∧ lo ≤ nr lo hi ∧ nr lo hi ≤ hi := by
  unfold near0 nr
  simp only [Int32.le_iff_toInt_le, Int32.lt_iff_toInt_lt, Int32.reduceToInt] at h ⊢
  by_cases h1 : lo.toInt ≤ 0
  · rw [if_pos h1]
    by_cases h2 : 0 ≤ hi.toInt
    · rw [if_pos h2]
      by_cases h3 : 0 < hi.toInt
      · rw [if_pos h3]
        simp only [Int32.reduceToInt]
        by_cases h4 : lo.toInt < 0
        · rw [if_pos h4]
          exact ⟨rfl, h1, h2⟩
        · rw [if_neg h4]
          exact ⟨Int32.toInt_inj.mp (by show lo.toInt = 0; omega), h1, h2⟩
      · rw [if_neg h3]
        have e0 : hi = 0 := Int32.toInt_inj.mp (by show hi.toInt = 0; omega)
        by_cases h4 : lo.toInt < hi.toInt
        · rw [if_pos h4]
          exact ⟨e0, h1, h2⟩
        · rw [if_neg h4]
          exact ⟨Int32.toInt_inj.mp (by show lo.toInt = 0; omega), h1, h2⟩
    · rw [if_neg h2, if_neg (show ¬ 0 < hi.toInt by omega)]
      by_cases h4 : lo.toInt < hi.toInt
      · rw [if_pos h4]
        exact ⟨rfl, by omega, by omega⟩
      · rw [if_neg h4]
        exact ⟨Int32.toInt_inj.mp (by omega), by omega, by omega⟩
  · rw [if_neg h1, if_pos (show 0 < hi.toInt by omega)]
    simp only [Int32.reduceToInt]
    rw [if_neg (by omega)]
    exact ⟨rfl, by omega, h⟩
theorem near_eq {lo hi : Int32} (h : lo ≤ hi) : near0 lo hi = nr lo hi := (nr_near h).1
set_option maxHeartbeats 4000000 in
theorem Rel_make {j K L : Nat} {σ τ : Nat → Nat} {C S' : CSt} {M S : MSt} (hM : MI K M.1) (hC : CR j K L σ τ C.1 M.1) (hL : L + 30 < 2 ^ 30) {c N : Nat} {ln cl en kc : Nat → Nat} {ch ch' : Nat → Nat → Nat} (hN : N ≤ 24) (hm : maI K M c N 0 N S ln cl ch) (hc : fcR K M C C S' c L N en kc ch') : ∃ σ' τ', MI K S.1 ∧ CR (j + 1) K (L + N) σ' τ' S'.1 S.1 ∧ σ' (ln 0) = en 0 := by
  obtain ⟨hcls, hsh, hrec, hval, hroot, hrank, hold, hwrd, hstp⟩ := id hM
  obtain ⟨kcls, ksh, kold, krec, kid, kcnt, kval, kroot, koldv, kwrd, kstp, kflt⟩ := id hC
  have hK4 : K ≤ 4 := hcls.1
  obtain ⟨a1, a2, a3, a4, a5, a6, a7, a8⟩ := hm
  obtain ⟨b1, b2, b3, b4, b5, b6, b7, b8, b9, b10⟩ := hc
  have tA : Tree (ownM M) (loM M) c N cl ch := PT_iff a1 (fun i k hi => ⟨fun h => h.1, fun h => ⟨h, Or.inl hi⟩⟩)
  have tB : Tree (ownM M) (loM M) c N kc ch' := PT_iff b1 (fun i k hi => ⟨fun h => h.1, fun h => ⟨h, fun _ => ownM_lt h⟩⟩)
  have hN0 : 0 < N := tA.1
  obtain ⟨f, f0, f1, f2⟩ := tree_map tA tB
  obtain ⟨g, g0, g1, g2⟩ := tree_map tB tA
  have gf := tree_inv tA f0 g0 f1 f2 g2
  have fg := tree_inv tB g0 f0 g1 g2 f2
  obtain ⟨σ', s1, s2⟩ := fn_ext (ln := ln) (t := fun i => en (f i)) σ N a3
  obtain ⟨τ', t1, t2⟩ := fn_ext (ln := en) (t := fun i => ln (g i)) τ N b3
  -- old and new
  have oldS : ∀ {r}, M.1 14 r ≠ -1 → ∀ i, i < N → r ≠ ln i := fun {r} h i hi e => h (by rw [e]; exact (a2 i hi).2.2.1)
  have oldE : ∀ {e}, C.1 13 e 0 ≠ 0 → ∀ i, i < N → e ≠ en i := fun {e} h i hi e1 => h (by rw [e1]; exact (b2 i hi).2.2.1)
  have m14 : ∀ {r}, M.1 14 r ≠ -1 → S.1 14 r = M.1 14 r := fun {r} h => (a4 r (oldS h)).1
  have s13o : ∀ {e}, C.1 13 e 0 ≠ 0 → S'.1 13 e 0 = C.1 13 e 0 := fun {e} h => by rw [(b4 e (oldE h)).1]
  have sgo : ∀ {r}, M.1 14 r ≠ -1 → σ' r = σ r := fun {r} h => s2 r (oldS h)
  have newl : ∀ {i}, i < N → S.1 14 (ln i) ≠ -1 := fun {i} hi => by
    rw [(a2 i hi).2.2.2.2.1]
    have := (a2 i hi).2.1
    exact nI_ne_m1 (by omega)
  -- a live slot is new, or it was live
  have live : ∀ {r}, S.1 14 r ≠ -1 → (∃ i, i < N ∧ r = ln i) ∨ (M.1 14 r ≠ -1 ∧ ∀ i, i < N → r ≠ ln i) := fun {r} h => by
    by_cases e : ∃ i, i < N ∧ r = ln i
    · exact Or.inl e
    · have e2 : ∀ i, i < N → r ≠ ln i := fun i hi e1 => e ⟨i, hi, e1⟩
      rw [(a4 r e2).1] at h
      exact Or.inr ⟨h, e2⟩
  have w4 := a6 4 (by unfold frM; omega)
  have w5 := a6 5 (by unfold frM; omega)
  have w6 := a6 6 (by unfold frM; omega)
  have w7 := a6 7 (by unfold frM; omega)
  have w8 := a6 8 (by unfold frM; omega)
  have w2 := a6 2 (by unfold frM; omega)
  have w19 := a6 19 (by unfold frM; omega)
  have w17 := a6 17 (by unfold frM; omega)
  have w9 := a6 9 (by unfold frM; omega)
  have w11 := a6 11 (by unfold frM; omega)
  have m3 : ∀ {d}, S.1 3 d = 1 → M.1 3 d = 1 ∧ ∀ i, i < N → cl i ≠ d := fun {d} h => by
    refine ⟨?_, fun i hi e => ?_⟩
    · rcases a7 d with h1 | ⟨h1, -⟩
      · rw [← h1]; exact h
      · rw [h1] at h; exact absurd h (by decide)
    · have := (a2 i hi).2.2.2.2.2.2
      rw [e, h] at this
      exact absurd this (by decide)
  -- fields of new records, fields of old ones
  have fl : ∀ {r d k q}, Fld (S.1 4) (S.1 6) (S.1 14) r d k q → (∃ i, i < N ∧ r = ln i ∧ d = cl i) ∨ (Fld (M.1 4) (M.1 6) (M.1 14) r d k q ∧ M.1 14 r ≠ -1 ∧ ∀ i, i < N → r ≠ ln i) := fun {r d k q} h => by
    obtain ⟨h1, h2, h3, h4, h5⟩ := h
    have hl : S.1 14 r ≠ -1 := by rw [h3]; exact nI_ne_m1 (by omega)
    rcases live hl with ⟨i, hi, e⟩ | ⟨e1, e2⟩
    · refine Or.inl ⟨i, hi, e, ?_⟩
      rw [e, (a2 i hi).2.2.2.2.1] at h3
      exact (nI_inj4 (by have := (a2 i hi).2.1; omega) h2 h3).symm
    · rw [m14 e1] at h3
      rw [w4] at h4
      rw [w6] at h5
      exact Or.inr ⟨⟨h1, h2, h3, h4, h5⟩, e1, e2⟩
  have c16 : ∀ {r k}, (∀ i, i < N → r ≠ ln i) → k < 6 → r6 (S.1 16) r k = r6 (M.1 16) r k := fun {r k} h hk => (a4 r h).2.2 k hk
  -- the cells of new records
  have n16 : ∀ {i k q m}, i < N → m ≤ 6 → M.1 4 (cl i) = nI m → k < m → r6 (M.1 6) (cl i) k = q → (q = 0 → r6 (S.1 16) (ln i) k = nr (r6 (M.1 7) (cl i) k) (r6 (M.1 8) (cl i) k)) ∧ (q = 1 → r6 (S.1 16) (ln i) k = -1) ∧ (q = 2 → ownM M (cl i) k ∧ r6 (S.1 16) (ln i) k = nI (ln (ch i k))) := fun {i k q m} hi hm6 hm hk hq => by
    obtain ⟨x1, x2⟩ := a5 i m k hi hm6 hm (by omega)
    refine ⟨fun h0 => ?_, fun h1 => ?_, fun h2 => ?_⟩
    · rw [x2 (fun ho => by obtain ⟨_, _, _, _, o⟩ := ho.1; rw [hq, h0] at o; exact absurd o (by decide))]
      exact if_pos ⟨hk, hq.trans h0⟩
    · rw [x2 (fun ho => by obtain ⟨_, _, _, _, o⟩ := ho.1; rw [hq, h1] at o; exact absurd o (by decide))]
      exact if_neg (fun h => by rw [hq, h1] at h; exact absurd h.2 (by decide))
    · have ho : ownM M (cl i) k := ⟨m, hm6, hm, hk, hq.trans h2⟩
      exact ⟨ho, x1 ⟨ho, Or.inl hi⟩⟩
  have flm : ∀ {r d k q}, Fld (S.1 4) (S.1 6) (S.1 14) r d k q → ∃ m, m ≤ 6 ∧ M.1 4 d = nI m ∧ k < m ∧ r6 (M.1 6) d k = q ∧ d < 4 := fun {r d k q} h => by
    obtain ⟨h1, h2, h3, ⟨m, h4, h5, h6⟩, h7⟩ := h
    rw [w4] at h5
    rw [w6] at h7
    exact ⟨m, h4, h5, h6, h7, h2⟩
  have own : ∀ {r k p}, Own (S.1 4) (S.1 6) (S.1 14) (S.1 16) r k p → (∃ i, i < N ∧ r = ln i ∧ ownM M (cl i) k ∧ r6 (S.1 16) r k = nI (ln (ch i k))) ∨ Own (M.1 4) (M.1 6) (M.1 14) (M.1 16) r k p := fun {r k p} ⟨d, h1, h2⟩ => by
    have hk6 := Fld_lt h1
    obtain ⟨m, m1, m2, m3, m4, m5⟩ := flm h1
    rcases fl h1 with ⟨i, i1, i2, i3⟩ | ⟨hF, e1, e2⟩
    · subst i3
      obtain ⟨-, -, x⟩ := n16 i1 m1 m2 m3 m4
      obtain ⟨o1, o2⟩ := x rfl
      exact Or.inl ⟨i, i1, i2, o1, by rw [i2]; exact o2⟩
    · rw [c16 e2 hk6] at h2
      exact Or.inr ⟨d, hF, h2⟩
  have chN : ∀ {i k}, i < N → ownM M (cl i) k → ch i k < N := fun {i k} hi ho => (tA.2.2.1 i k hi ho).2.1
  -- what is owned and was live is owned as before
  have nown : ∀ {p}, p < 24 → M.1 14 p ≠ -1 → (∀ r' k', ¬ Own (M.1 4) (M.1 6) (M.1 14) (M.1 16) r' k' p) → ∀ r' k', ¬ Own (S.1 4) (S.1 6) (S.1 14) (S.1 16) r' k' p := fun {p} hp hl h r' k' ho => by
    rcases own ho with ⟨i, i1, i2, i3, i4⟩ | ho'
    · obtain ⟨d, -, h2⟩ := ho
      have e : ln (ch i k') = p := (nI_eq (by have := (a2 _ (chN i1 i3)).1; omega) (by omega)).mp (i4.symm.trans h2)
      exact oldS hl _ (chN i1 i3) e.symm
    · exact h r' k' ho'
  have refs : ∀ {w : Int32}, (w = -1 ∨ ∃ p, p < 24 ∧ w = nI p ∧ M.1 14 p ≠ -1 ∧ ∀ r' k', ¬ Own (M.1 4) (M.1 6) (M.1 14) (M.1 16) r' k' p) → (w = -1 ∨ ∃ p, p < 24 ∧ w = nI p ∧ S.1 14 p ≠ -1 ∧ ∀ r' k', ¬ Own (S.1 4) (S.1 6) (S.1 14) (S.1 16) r' k' p) := fun {w} h => by
    rcases h with h | ⟨p, p1, p2, p3, p4⟩
    · exact Or.inl h
    · exact Or.inr ⟨p, p1, p2, by rw [m14 p3]; exact p3, nown p1 p3 p4⟩
  have trs : ∀ {w : Int32}, (w = -1 ∨ ∃ p, p < 24 ∧ w = nI p ∧ M.1 14 p ≠ -1) → tr σ' (S'.1 13) w = tr σ (C.1 13) w := fun {w} h => by
    rcases h with h | ⟨p, p1, p2, p3⟩
    · rw [h, tr_m1, tr_m1]
    · rw [p2, tr_nI _ _ p1, tr_nI _ _ p1, sgo p3, s13o (krec.1 p p1 p3).2.2.1]
  have shk : ∀ {d k m}, d < 4 → m ≤ 6 → M.1 4 d = nI m → k < m → r6 (M.1 6) d k = 0 → r6 (M.1 7) d k ≤ r6 (M.1 8) d k := fun {d k m} hd hm6 hm hk h0 => by
    obtain ⟨m', h1, hS⟩ := hsh d hd
    have h6 := hS.1
    have e : m = m' := (nI_eq (by omega) (by omega)).mp (hm.symm.trans h1)
    subst e
    rcases (hS.2.2 k hk).2 with h | h
    · exact h.2.1
    · rcases h.1 with h | h
      · exact absurd (h0.symm.trans h) (by decide)
      · exact absurd (h0.symm.trans h) (by decide)
  refine ⟨σ', τ', ⟨⟨hK4, ?_, fun d hd => ?_⟩, ?_, fun r hr => ?_, ⟨fun r d k h => ?_, fun r d k h => ?_, fun r d k h => ?_, fun r k r' k' p h h' => ?_⟩, fun i hi => ?_, ?_, fun d hd => ?_, ?_, ?_⟩, ⟨⟨?_, fun d hd => ⟨?_, ?_⟩⟩, ?_, ?_, ⟨fun r hr hl => ?_, fun e he hl => ?_⟩, ⟨?_, b7, fun e he hl => ?_, fun e he hl e' he' h => ?_⟩, ?_, fun r d k q h => ?_, fun i hi => ?_, fun d mo r k hd h3 hmo h9 hr h14 hk => ?_, ?_, ?_, ?_⟩, ?_⟩
  · rw [a6 1 (by unfold frM; omega)]; exact hcls.2.1
  · rw [w2]
    obtain ⟨⟨v, v1, v2, v3⟩, v4⟩ := hcls.2.2 d hd
    refine ⟨⟨v, v1, v2, fun h => v3 (m3 h).1⟩, ?_⟩
    rcases a7 d with h1 | ⟨h1, -⟩
    · rw [h1]; exact v4
    · exact Or.inl h1
  · rw [w4, w5, w6, w7, w8]; exact hsh
  · rw [w2]
    by_cases e : ∃ i, i < N ∧ r = ln i
    · obtain ⟨i, hi, e⟩ := e
      obtain ⟨c1, c2, c3, c4, c5, c6, -⟩ := a2 i hi
      refine Or.inr ⟨cl i, c2, by rw [e]; exact c5, ?_⟩
      rw [e, c6]
      obtain ⟨⟨v, v1, v2, -⟩, -⟩ := hcls.2.2 (cl i) (by omega)
      rw [v2]
      exact ⟨nI_pos' (by omega), Int32.le_refl _⟩
    · obtain ⟨c1, c2, -⟩ := a4 r (fun i hi e1 => e ⟨i, hi, e1⟩)
      rw [c1, c2]
      exact hrec r hr
  · -- numbers
    rw [w7, w8]
    obtain ⟨m, m1, m2, m3, m4, m5⟩ := flm h
    rcases fl h with ⟨i, i1, i2, i3⟩ | ⟨hF, e1, e2⟩
    · subst i3
      obtain ⟨x, -, -⟩ := n16 i1 m1 m2 m3 m4
      rw [i2, x rfl]
      exact (nr_near (shk m5 m1 m2 m3 m4)).2
    · rw [c16 e2 (Fld_lt h)]
      exact hval.1 r d k hF
  · obtain ⟨m, m1, m2, m3, m4, m5⟩ := flm h
    rcases fl h with ⟨i, i1, i2, i3⟩ | ⟨hF, e1, e2⟩
    · subst i3
      obtain ⟨-, x, -⟩ := n16 i1 m1 m2 m3 m4
      rw [i2, x rfl]
      exact Or.inl rfl
    · rw [c16 e2 (Fld_lt h)]
      exact refs (hval.2.1 r d k hF)
  · rw [w7]
    obtain ⟨m, m1, m2, m3, m4, m5⟩ := flm h
    rcases fl h with ⟨i, i1, i2, i3⟩ | ⟨hF, e1, e2⟩
    · subst i3
      obtain ⟨-, -, x⟩ := n16 i1 m1 m2 m3 m4
      obtain ⟨o1, o2⟩ := x rfl
      obtain ⟨c1, -, -, -, c5, -⟩ := a2 (ch i k) (chN i1 o1)
      refine ⟨ln (ch i k), c1, by rw [i2]; exact o2, ?_⟩
      rw [c5, (tA.2.2.1 i k i1 o1).2.2]
      obtain ⟨d', d1, d2, -⟩ := kid_of hM m5 m2 m1 m3 m4
      unfold loM
      rw [d2, nI_clamp (by omega)]
    · rw [c16 e2 (Fld_lt h)]
      obtain ⟨p, p1, p2, p3⟩ := hval.2.2.1 r d k hF
      refine ⟨p, p1, p2, ?_⟩
      have hl : M.1 14 p ≠ -1 := by
        rcases ref_live hM hF (by decide) with g | ⟨p', g1, g2, g3⟩
        · rw [g] at p2; exact absurd p2 (m1_ne_nI (by omega))
        · rw [(nI_eq (by omega) (by omega)).mp (p2.symm.trans g2)]; exact g3
      rw [m14 hl]
      exact p3
  · -- one owner
    have key : ∀ {r k r' k' p}, Own (S.1 4) (S.1 6) (S.1 14) (S.1 16) r k p → (∃ i, i < N ∧ r = ln i ∧ ownM M (cl i) k ∧ r6 (S.1 16) r k = nI (ln (ch i k))) → Own (M.1 4) (M.1 6) (M.1 14) (M.1 16) r' k' p → False := fun {r k r' k' p} h ⟨i, i1, i2, i3, i4⟩ ho => by
      obtain ⟨d, h1, h2⟩ := h
      obtain ⟨d', h3, h4⟩ := ho
      obtain ⟨p', p1, p2, p3⟩ := hval.2.2.1 r' d' k' h3
      have hl : M.1 14 p' ≠ -1 := by
        rcases ref_live hM h3 (by decide) with g | ⟨p'', g1, g2, g3⟩
        · rw [g] at p2; exact absurd p2 (m1_ne_nI (by omega))
        · rw [(nI_eq (by omega) (by omega)).mp (p2.symm.trans g2)]; exact g3
      have e0 := (a2 _ (chN i1 i3)).1
      have e1 : nI (ln (ch i k)) = nI p' := by rw [← i4, h2, ← h4, p2]
      exact oldS hl _ (chN i1 i3) ((nI_eq (by omega) (by omega)).mp e1).symm
    rcases own h with hn | ho
    · rcases own h' with hn' | ho'
      · obtain ⟨i, i1, i2, i3, i4⟩ := hn
        obtain ⟨i', i1', i2', i3', i4'⟩ := hn'
        obtain ⟨d, -, h2⟩ := h
        obtain ⟨d', -, h2'⟩ := h'
        have e0 := (a2 _ (chN i1 i3)).1
        have e0' := (a2 _ (chN i1' i3')).1
        have e1 : nI (ln (ch i k)) = nI (ln (ch i' k')) := by rw [← i4, h2, ← h2', i4']
        have e2 := a3 _ (chN i1 i3) _ (chN i1' i3') ((nI_eq (by omega) (by omega)).mp e1)
        obtain ⟨e3, e4⟩ := tA.2.2.2.2 i k i' k' i1 i1' i3 i3' e2
        exact ⟨by rw [i2, i2', e3], e4⟩
      · exact (key h hn ho').elim
    · rcases own h' with hn' | ho'
      · exact (key h' hn' ho).elim
      · exact hval.2.2.2 _ _ _ _ _ ho ho'
  · rw [w19]
    rcases hroot i hi with h | ⟨p, p1, p2, p3⟩
    · exact Or.inl h
    · exact Or.inr ⟨p, p1, p2, by rw [m14 p3]; exact p3⟩
  · rw [w4, w6, w7]; exact hrank
  · -- old versions
    obtain ⟨mo, g1, g2, g3⟩ := hold d hd
    rw [w9, a6 10 (by unfold frM; omega), w11, a6 12 (by unfold frM; omega), a6 13 (by unfold frM; omega)]
    refine ⟨mo, g1, g2, fun h3 => ?_⟩
    obtain ⟨h3, hne⟩ := m3 h3
    obtain ⟨c1, c2, c3, φ, c4, c5⟩ := g3 h3
    have old : ∀ {r}, S.1 14 r = nI d → M.1 14 r = nI d ∧ ∀ i, i < N → r ≠ ln i := fun {r} h14 => by
      have hl : S.1 14 r ≠ -1 := by rw [h14]; exact nI_ne_m1 (by omega)
      rcases live hl with ⟨i, hi, e⟩ | ⟨e1, e2⟩
      · rw [e, (a2 i hi).2.2.2.2.1] at h14
        exact absurd (nI_inj4 (by have := (a2 i hi).2.1; omega) hd h14) (hne i hi)
      · rw [m14 e1] at h14
        exact ⟨h14, e2⟩
    rw [w17]
    refine ⟨c1, fun r k hr h14 hk hq => c2 r k hr (old h14).1 hk hq, fun r k hr h14 hk hq => refs (c3 r k hr (old h14).1 hk hq), φ, fun k hk hq => ?_, c5⟩
    obtain ⟨⟨m, d1, d2, d3⟩, d4, d5, d6⟩ := c4 k hk hq
    rw [w4, w6, w7]
    refine ⟨⟨m, d1, d2, d3⟩, d4, d5, fun r hr h14 => ?_⟩
    rw [c16 (old h14).2 (by omega)]
    exact d6 r hr (old h14).1
  · rw [a6 20 (by unfold frM; omega), a6 21 (by unfold frM; omega)]; exact hwrd
  · rw [a6 22 (by unfold frM; omega), a6 23 (by unfold frM; omega), a6 24 (by unfold frM; omega), a6 25 (by unfold frM; omega)]; exact hstp
  · rw [b6 0 (by unfold frC; omega)]; exact kcls.1
  · rw [b6 3 (by unfold frC; omega), w2]; exact (kcls.2 d hd).1
  · -- what can be taken back
    by_cases e : ∃ i, i < N ∧ cl i = d
    · obtain ⟨i, hi, e⟩ := e
      obtain ⟨e1, e2⟩ := f1 i hi
      have x1 := (a2 i hi).2.2.2.2.2.2
      have x2 := (b2 (f i) e1).2.2.2.2.2.2
      rw [← e2] at x2
      rw [← e, x1, x2]
    · have h1 : S.1 3 d = M.1 3 d := by
        rcases a7 d with h1 | ⟨-, i, i1, i2⟩
        · exact h1
        · exact absurd ⟨i, i1, i2⟩ e
      have h2 : S'.1 4 d 0 = C.1 4 d 0 := by
        rcases b9 d with h2 | ⟨-, i, i1, i2⟩
        · exact h2
        · obtain ⟨e1, e2⟩ := g1 i i1
          exact absurd ⟨g i, e1, by rw [← e2]; exact i2⟩ e
      rw [h1, h2]
      exact (kcls.2 d hd).2
  · rw [b6 5 (by unfold frC; omega), b6 6 (by unfold frC; omega), b6 7 (by unfold frC; omega), b6 8 (by unfold frC; omega), b6 9 (by unfold frC; omega), w4, w5, w6, w7, w8]; exact ksh
  · intro d m hd hm6 hm9 h3
    rw [w9] at hm9
    rw [b6 5 (by unfold frC; omega), b6 6 (by unfold frC; omega), b6 7 (by unfold frC; omega), b6 8 (by unfold frC; omega), b6 9 (by unfold frC; omega), a6 10 (by unfold frM; omega), w11, a6 12 (by unfold frM; omega), a6 13 (by unfold frM; omega)]
    exact kold d m hd hm6 hm9 (m3 h3).1
  · -- the class's records
    rcases live hl with ⟨i, hi, e⟩ | ⟨e1, e2⟩
    · subst e
      obtain ⟨q1, q2⟩ := f1 i hi
      obtain ⟨x1, x2, x3, x4, x5, x6, x7⟩ := b2 (f i) q1
      obtain ⟨y1, y2, y3, y4, y5, y6, y7⟩ := a2 i hi
      have es : σ' (ln i) = en (f i) := s1 i hi
      rw [es]
      refine ⟨x1, ?_, ?_, ?_, ?_⟩
      · have : τ' (en (f i)) = ln (g (f i)) := t1 (f i) q1
        rw [this, gf i hi]
      · rw [x4]; exact nI_ne0 (by omega) (by omega)
      · rw [x5, y5, q2]
      · rw [x6, y6, q2]
        exact (kcls.2 (kc (f i)) (by omega)).1
    · obtain ⟨z1, z2, z3, z4, z5⟩ := krec.1 r hr e1
      rw [sgo e1]
      obtain ⟨u1, u2, u3, -⟩ := b4 (σ r) (oldE z3)
      refine ⟨z1, ?_, by rw [u1]; exact z3, by rw [u2, m14 e1]; exact z4, by rw [u3, (a4 r e2).2.1]; exact z5⟩
      rw [t2 (σ r) (oldE z3)]
      exact z2
  · by_cases e1 : ∃ i, i < N ∧ e = en i
    · obtain ⟨i, hi, e1⟩ := e1
      subst e1
      obtain ⟨q1, q2⟩ := g1 i hi
      have et : τ' (en i) = ln (g i) := t1 i hi
      rw [et]
      refine ⟨(a2 (g i) q1).1, ?_, newl q1⟩
      have : σ' (ln (g i)) = en (f (g i)) := s1 (g i) q1
      rw [this, fg i hi]
    · have e2 : ∀ i, i < N → e ≠ en i := fun i hi h => e1 ⟨i, hi, h⟩
      rw [(b4 e e2).1] at hl
      obtain ⟨z1, z2, z3⟩ := krec.2 e he hl
      rw [t2 e e2]
      exact ⟨z1, by rw [sgo z3]; exact z2, by rw [m14 z3]; exact z3⟩
  · have := kid.1; omega
  · by_cases e1 : ∃ i, i < N ∧ e = en i
    · obtain ⟨i, hi, e1⟩ := e1
      subst e1
      exact ⟨L + 1 + i, by omega, by omega, (b2 i hi).2.2.2.1⟩
    · have e2 : ∀ i, i < N → e ≠ en i := fun i hi h => e1 ⟨i, hi, h⟩
      rw [(b4 e e2).1] at hl ⊢
      obtain ⟨i, i1, i2, i3⟩ := kid.2.2.1 e he hl
      exact ⟨i, i1, by omega, i3⟩
  · -- ids apart
    have oldid : ∀ {e}, e < 24 → C.1 13 e 0 ≠ 0 → ∀ i, i < N → C.1 13 e 0 ≠ nI (L + 1 + i) := fun {e} he h i hi h2 => by
      obtain ⟨i', i1, i2, i3⟩ := kid.2.2.1 e he h
      rw [i3] at h2
      have := (nI_eq (by omega) (by omega)).mp h2
      omega
    by_cases e1 : ∃ i, i < N ∧ e = en i
    · obtain ⟨i, hi, e1⟩ := e1
      by_cases e2 : ∃ i', i' < N ∧ e' = en i'
      · obtain ⟨i', hi', e2⟩ := e2
        rw [e1, e2, (b2 i hi).2.2.2.1, (b2 i' hi').2.2.2.1] at h
        have := (nI_eq (by omega) (by omega)).mp h
        rw [e1, e2, show i = i' by omega]
      · have e3 : ∀ i, i < N → e' ≠ en i := fun i hi h => e2 ⟨i, hi, h⟩
        rw [e1, (b2 i hi).2.2.2.1, (b4 e' e3).1] at h
        have hne : C.1 13 e' 0 ≠ 0 := by rw [← h]; exact nI_ne0 (by omega) (by omega)
        exact absurd h.symm (oldid he' hne i hi)
    · have e3 : ∀ i, i < N → e ≠ en i := fun i hi h => e1 ⟨i, hi, h⟩
      rw [(b4 e e3).1] at hl h
      by_cases e2 : ∃ i', i' < N ∧ e' = en i'
      · obtain ⟨i', hi', e2⟩ := e2
        rw [e2, (b2 i' hi').2.2.2.1] at h
        exact absurd h (oldid he hl i' hi')
      · have e4 : ∀ i, i < N → e' ≠ en i := fun i hi h => e2 ⟨i, hi, h⟩
        rw [(b4 e' e4).1] at h
        exact kid.2.2.2 e he hl e' he' h
  · show S'.1 11 0 0 = _
    have hk : C.1 11 0 0 = nI (cn (fun r => !decide (M.1 14 r = -1)) 24) := kcnt
    rw [b8, hk, nI_add, a8]
  · -- values
    have hk6 := Fld_lt h
    obtain ⟨m, m1, m2, m3, m4, m5⟩ := flm h
    rcases fl h with ⟨i, i1, i2, i3⟩ | ⟨hF, e1, e2⟩
    · subst i2 i3
      obtain ⟨q1, q2⟩ := f1 i i1
      have es : σ' (ln i) = en (f i) := s1 i i1
      rw [es]
      obtain ⟨x0, x1, x2⟩ := n16 i1 m1 m2 m3 m4
      obtain ⟨y0, y1, y2⟩ := b5 (f i) m k q1 m1 (by rw [← q2]; exact m2) m3 (fun _ => hk6)
      rw [← q2] at y0 y1 y2
      rcases Fld_kind hM m5 m2 m1 m3 with h0 | h1 | h2
      · have hq0 : q = 0 := m4.symm.trans h0
        rw [if_pos hq0, x0 hq0, y0 h0]
        exact near_eq (shk m5 m1 m2 m3 h0)
      · have hq1 : q = 1 := m4.symm.trans h1
        rw [if_neg (by rw [hq1]; decide), x1 hq1, y1 h1, tr_m1]
      · have hq2 : q = 2 := m4.symm.trans h2
        obtain ⟨o1, o2⟩ := x2 hq2
        have hcN := chN i1 o1
        rw [if_neg (by rw [hq2]; decide), o2, y2 h2, tr_nI _ _ (a2 _ hcN).1]
        have e3 : σ' (ln (ch i k)) = en (f (ch i k)) := s1 _ hcN
        rw [e3, (b2 _ (f1 _ hcN).1).2.2.2.1, f2 i k i1 o1]
    · obtain ⟨z1, z2, z3, z4, z5⟩ := krec.1 r h.1 e1
      rw [sgo e1, (b4 (σ r) (oldE z3)).2.2.2, c16 e2 hk6]
      have hv := kval r d k q hF
      by_cases hq0 : q = 0
      · rw [if_pos hq0] at hv ⊢; exact hv
      · rw [if_neg hq0] at hv ⊢
        rw [trs (ref_live hM hF hq0)]
        exact hv
  · rw [b6 19 (by unfold frC; omega), w19, trs (hroot i hi)]
    exact kroot i hi
  · -- old values
    obtain ⟨h3, hne⟩ := m3 h3
    rw [w9] at h9
    have hl : S.1 14 r ≠ -1 := by rw [h14]; exact nI_ne_m1 (by omega)
    have old : M.1 14 r = nI d ∧ ∀ i, i < N → r ≠ ln i := by
      rcases live hl with ⟨i, hi, e⟩ | ⟨e1, e2⟩
      · rw [e, (a2 i hi).2.2.2.2.1] at h14
        exact absurd (nI_inj4 (by have := (a2 i hi).2.1; omega) hd h14) (hne i hi)
      · rw [m14 e1] at h14
        exact ⟨h14, e2⟩
    have hlM : M.1 14 r ≠ -1 := by rw [old.1]; exact nI_ne_m1 (by omega)
    rw [w11, w17, b6 18 (by unfold frC; omega), sgo hlM]
    obtain ⟨o1, o2⟩ := koldv d mo r k hd h3 hmo h9 hr old.1 hk
    refine ⟨o1, fun k0 => ?_⟩
    obtain ⟨o3, o4⟩ := o2 k0
    refine ⟨fun hne' => ?_, fun hm1 => ?_⟩
    · rw [trs ?_]
      · exact o3 hne'
      · obtain ⟨mo2, q1, q2, q3⟩ := hold d hd
        have em : mo = mo2 := (nI_eq (by omega) (by omega)).mp (h9.symm.trans q2)
        subst em
        obtain ⟨c1, c2, c3, φ, c4, c5⟩ := q3 h3
        rcases (c1.2.2 k hk).2 with hq | ⟨hq, -⟩
        · exact absurd hq.1 k0
        · rcases hq with hq | hq
          · rcases c3 r k hr old.1 hk hq with w | ⟨p, w1, w2, w3, -⟩
            · exact Or.inl w
            · exact Or.inr ⟨p, w1, w2, w3⟩
          · obtain ⟨d1, d2, -, d4⟩ := c4 k hk hq
            have hx := d4 r hr old.1
            have hF : Fld (M.1 4) (M.1 6) (M.1 14) r d (φ k) 2 := ⟨hr, hd, old.1, d1, d2⟩
            rw [hx]
            exact ref_live hM hF (by decide)
    · obtain ⟨i, i1, i2, i3⟩ := o4 hm1
      refine ⟨i, by omega, i2, fun e he hle => ?_⟩
      by_cases e1 : ∃ i', i' < N ∧ e = en i'
      · obtain ⟨i', hi', e1⟩ := e1
        rw [e1, (b2 i' hi').2.2.2.1]
        intro h
        have := (nI_eq (by omega) (by omega)).mp h
        omega
      · have e2 : ∀ i, i < N → e ≠ en i := fun i hi h => e1 ⟨i, hi, h⟩
        rw [(b4 e e2).1] at hle ⊢
        exact i3 e he hle
  · rw [b6 20 (by unfold frC; omega), b6 21 (by unfold frC; omega), a6 20 (by unfold frM; omega), a6 21 (by unfold frM; omega)]; exact kwrd
  · rw [b6 1 (by unfold frC; omega), b6 20 (by unfold frC; omega), b6 21 (by unfold frC; omega), b6 22 (by unfold frC; omega), b6 23 (by unfold frC; omega), b6 24 (by unfold frC; omega), b6 25 (by unfold frC; omega), b6 26 (by unfold frC; omega), a6 22 (by unfold frM; omega), a6 23 (by unfold frM; omega), a6 24 (by unfold frM; omega), a6 25 (by unfold frM; omega)]; exact kstp
  · rw [b6 2 (by unfold frC; omega), a6 26 (by unfold frM; omega)]; exact kflt
  · have : σ' (ln 0) = en (f 0) := s1 0 hN0
    rw [this, f0]
theorem do_make (n : Nat) (hn : 60 < n) : Do_make n Rel := fun j C M hj hR x1 x2 => by
  obtain ⟨K, L, σ, τ, hM, hC⟩ := id hR
  obtain ⟨kcls, ksh, kold, krec, kid, kcnt, kval, kroot, koldv, kwrd, kstp, kflt⟩ := id hC
  have hK4 : K ≤ 4 := hM.1.1
  rcases nI_lt3 (x := x1) (N := K) (by omega) with ⟨c, hcK, e⟩ | ⟨-, h⟩
  · subst e
    have hc : c < 4 := by omega
    rcases nI_lt3 (x := x2) (N := 8) (by decide) with ⟨i, hi, e⟩ | ⟨-, h⟩
    · subst e
      have hcnt24 := cn_le (fun r => !decide (M.1 14 r = -1)) 24
      have hfl := fsz_le hM c hc
      obtain ⟨o, ho, row, o1, o2⟩ := p_needed (n := n) hn hM hcK
      have hrecA : m_X8_records n M (-1) = some (nI (cn (fun r => !decide (M.1 14 r = -1)) 24)) := by
        rw [p_recordsA (by omega)]
        congr 2
        refine cn_cong (fun r hr => ?_)
        rcases hM.2.2.1 r hr with h | ⟨d, hd, h, -⟩
        · rw [h]; decide
        · rw [h]
          simp [nI_pos (show d < 2 ^ 31 by omega), nI_ne_m1 (show d < 2 ^ 31 by omega)]
      have hm0 : m_X8_make n M (nI c) (nI i) = if (nI (cn (fun r => !decide (M.1 14 r = -1)) 24) + o.1) ≤ 24 then m_X8_make_J41 n o.2 (nI c) (nI i) 0 else m_X8_make_J41 n o.2 (nI c) (nI i) 2 := by
        unfold m_X8_make
        rw [p_isClass n hM.1.2.1 hK4 hcK, Option.bind_some, if_neg one_ne, p_isRoot n M hi, Option.bind_some, if_pos one_ne, hrecA, Option.bind_some, ho, Option.bind_some]
      have hc0 : m_X7_make n C (nI c) (nI i) = if (C.1 11 0 0 + nI (fam M.1 c)) ≤ 24 then ((m_X7_newFamily_d0 n C (nI c) 0).bind (fun z35 => bif inB (nI i) 8 then (nm (sI z35.2 19 0 (nI i).toNatClampNeg z35.1) (fun S37 => some (.inl S37))) else none)) else (some (.inr (3, C))) := by
        unfold m_X7_make
        rw [q_needClass n kcls.1 hK4 hcK, q_needRoot n C hi, q_fs0 (by omega) hM hC hc]
        rfl
      have hk : C.1 11 0 0 = nI (cn (fun r => !decide (M.1 14 r = -1)) 24) := kcnt
      rw [hk, nI_add] at hc0
      by_cases hroom : cn (fun r => !decide (M.1 14 r = -1)) 24 + fam M.1 c ≤ 24
      · obtain ⟨z1, z2⟩ := o2.resolve_right (fun h => by omega)
        rw [z1, nI_add, if_pos (show nI _ ≤ 24 from nI_le (b := 24) hroom (by decide))] at hm0
        rw [if_pos (show nI _ ≤ 24 from nI_le (b := 24) hroom (by decide)), inB_nI hi (by omega), nI_clamp (by omega)] at hc0
        -- the base: line and code written
        have hMB : MI K (mI (mR M 43 row) 0 0 0).1 := hM
        have hCB : CR j K L σ τ C.1 (mI (mR M 43 row) 0 0 0).1 := hC
        obtain ⟨q, hq, hSh⟩ := hM.2.1 c hc
        obtain ⟨s, s1, s2, s3⟩ := p_free (n := n) (M := mI (mR M 43 row) 0 0 0) (by omega) (fun r hr => by
          rcases hM.2.2.1 r hr with h | ⟨d, hd, h, -⟩
          · exact Or.inl h
          · exact Or.inr ⟨d, by omega, h⟩) (by
          have hfp := fam_pos (m := M.1) c
          show cn (fun r => !decide (M.1 14 r = -1)) 24 < 24
          omega)
        have hb := p_bare (n := n) (M := mI (mR M 43 row) 0 0 0) (c := c) (q := q) (s := s) (by omega) hc hq hSh.1 s1 s3
        obtain ⟨S, hS, ln, cl, ch, hma, hln⟩ := p_makeL (n := n) (M := mI (mR M 43 row) 0 0 0) (x2 := nI i) (x3 := nI s) hn hMB hcK hroom hq hSh.1 s1 s2
        have hm1 : m_X8_make n M (nI c) (nI i) = some (mI S 19 i (nI s)) := by
          rw [hm0, o1]
          unfold m_X8_make_J41
          rw [code0, hb, Option.bind_some]
          show (lpO (b_X8_make_71 n (nI i) (nI s)) n (mI (baM (mI (mR M 43 row) 0 0 0) c q s) 43 0 (nI s), 1, 0)).bind _ = _
          rw [hS, Option.bind_some, inB_nI hi (by omega), nI_clamp (by omega)]
          rfl
        have hdead : cn (fun e => decide (C.1 13 e 0 = 0)) 24 = 24 - cn (fun r => !decide (M.1 14 r = -1)) 24 := by
          have h1 : cn (fun r => !decide (M.1 14 r = -1)) 24 = cn (fun e => !decide (C.1 13 e 0 = 0)) 24 := by
            refine cn_bij σ τ (fun r hr hp => ?_) (fun e he hp => ?_)
            · simp only [Bool.not_eq_true', decide_eq_false_iff_not] at hp ⊢
              obtain ⟨g1, g2, g3, -⟩ := krec.1 r hr hp
              exact ⟨g1, g3, g2⟩
            · simp only [Bool.not_eq_true', decide_eq_false_iff_not] at hp ⊢
              obtain ⟨g1, g2, g3⟩ := krec.2 e he hp
              exact ⟨g1, g3, g2⟩
          have h2 := cn_split (fun _ => true) (fun e => decide (C.1 13 e 0 = 0)) 24
          simp only [Bool.true_and] at h2
          have h3 : cn (fun _ => true) 24 = 24 := by decide
          omega
        have hkid := kid.1
        obtain ⟨w, hw, w1, en, kc, ch', hfc⟩ := q_nf0 (n := n) (by omega) hMB hCB hcK C L (fun g _ => rfl) kid.2.1 (by
          show fam M.1 c ≤ _
          omega) (by omega)
        have hc1 : m_X7_make n C (nI c) (nI i) = some (.inl (sI w.2 19 0 i w.1)) := by
          rw [hc0]
          have hw' : m_X7_newFamily_d0 n C (nI c) 0 = some w := hw
          rw [hw', Option.bind_some]
          rfl
        obtain ⟨σ', τ', f1, f2, f3⟩ := Rel_make (N := fam M.1 c) hMB hCB (by omega) (by omega) hma hfc
        have hlive : S.1 14 s ≠ -1 := by
          have h5 := (hma.2.1 0 (fam_pos c)).2.2.2.2.1
          have h6 := (hma.2.1 0 (fam_pos c)).2.1
          rw [← hln, h5]
          exact nI_ne_m1 (by omega)
        obtain ⟨r1, r2⟩ := Rel_root f1 f2 (i := i) (v := nI s) (Or.inr ⟨s, s1, rfl, hlive⟩)
        refine stV_ok hc1 hm1 ?_ ⟨K, L + fam M.1 c, σ', τ', r1, ?_⟩
        · show S.1 0 0 = 0
          rw [hma.2.2.2.2.2.1 0 (by unfold frM; omega)]
          rfl
        · have et : tr σ' (w.2.1 13) (nI s) = w.1 := by
            rw [tr_nI _ _ s1, ← hln, f3, w1]
            exact (hfc.2.1 0 (fam_pos c)).2.2.2.1
          rw [← et]
          exact r2
      · have hbig : ¬ (nI (cn (fun r => !decide (M.1 14 r = -1)) 24 + fam M.1 c)) ≤ 24 := nI_ge (b := cn (fun r => !decide (M.1 14 r = -1)) 24 + fam M.1 c) (a := 24) (by omega) (by omega)
        rw [if_neg hbig] at hc0
        have hbig2 : ¬ (nI (cn (fun r => !decide (M.1 14 r = -1)) 24) + o.1 ≤ 24) := by
          rcases o2 with ⟨z1, z2⟩ | ⟨z1, z2⟩
          · rw [z1, nI_add]; exact hbig
          · rw [z1, nI_add]
            exact nI_ge (b := cn (fun r => !decide (M.1 14 r = -1)) 24 + 25) (a := 24) (by omega) (by omega)
        rw [if_neg hbig2, o1] at hm0
        refine stV_ex (w := mI (mR M 43 row) 0 0 2) (k := 3) (C2 := C) hc0 ?_ (by decide) rfl (Rel_code 2 (Rel_up (M := mR M 43 row) hR))
        rw [hm0]
        unfold m_X8_make_J41
        rw [codeX (by decide)]
    · refine stV_ex (w := mI M 0 0 1) (k := 1) (C2 := C) ?_ ?_ (by decide) rfl (Rel_code 1 (Rel_up hR))
      · unfold m_X7_make
        rw [q_needClass n kcls.1 hK4 hcK, q_needRoot0 n C h]
        rfl
      · unfold m_X8_make
        rw [p_isClass n hM.1.2.1 hK4 hcK, Option.bind_some, if_neg one_ne, p_isRoot0 n M h]
        rfl
  · refine stV_ex (w := mI M 0 0 1) (k := 1) (C2 := C) ?_ ?_ (by decide) rfl (Rel_code 1 (Rel_up hR))
    · unfold m_X7_make
      rw [q_needClass0 n kcls.1 h]
      rfl
    · unfold m_X8_make
      rw [p_isClass0 n hM.1.2.1 h]
      rfl
