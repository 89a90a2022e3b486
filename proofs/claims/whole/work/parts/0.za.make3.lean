/-! ===== new families of the class's ===== -/
def ownM (M : MSt) (c k : Nat) : Prop := ∃ q, q ≤ 6 ∧ M.1 4 c = nI q ∧ k < q ∧ r6 (M.1 6) c k = 2
def loM (M : MSt) (c k : Nat) : Nat := (r6 (M.1 7) c k).toNatClampNeg
/-- a tree of which some owning fields are still to come: P: those that are there -/
def PT (P : Nat → Nat → Prop) (lo : Nat → Nat → Nat) (c N : Nat) (cl : Nat → Nat) (ch : Nat → Nat → Nat) : Prop := 0 < N ∧ cl 0 = c ∧ (∀ i k, i < N → P i k → i < ch i k ∧ ch i k < N ∧ cl (ch i k) = lo (cl i) k) ∧ (∀ j, 0 < j → j < N → ∃ i k, i < j ∧ P i k ∧ ch i k = j) ∧ ∀ i k i' k', i < N → i' < N → P i k → P i' k' → ch i k = ch i' k' → i = i' ∧ k = k'
theorem PT_iff {P P' : Nat → Nat → Prop} {lo : Nat → Nat → Nat} {c N : Nat} {cl : Nat → Nat} {ch : Nat → Nat → Nat} (h : PT P lo c N cl ch) (hp : ∀ i k, i < N → (P i k ↔ P' i k)) : PT P' lo c N cl ch := by
  obtain ⟨t1, t2, t3, t4, t5⟩ := h
  refine ⟨t1, t2, fun i k hi hq => t3 i k hi ((hp i k hi).mpr hq), fun j hj hN => ?_, fun i k i' k' hi hi' h1 h2 e => t5 i k i' k' hi hi' ((hp i k hi).mpr h1) ((hp i' k' hi').mpr h2) e⟩
  obtain ⟨i, k, i1, i2, i3⟩ := t4 j hj hN
  exact ⟨i, k, i1, (hp i k (by omega)).mp i2, i3⟩
def near0 (lo hi : Int32) : Int32 := if lo < (if 0 < hi then 0 else hi) then (if 0 < hi then 0 else hi) else lo
def frC (g : Nat) : Prop := g ≠ 4 ∧ g ≠ 11 ∧ g ≠ 12 ∧ g ≠ 13 ∧ g ≠ 14 ∧ g ≠ 15 ∧ g ≠ 17
/-- from S to S' a family of class c has come, ids from L + 1 on; of its first record the fields below k0 are filled -/
def fcP (K : Nat) (M : MSt) (C S S' : CSt) (c L N k0 : Nat) (en kc : Nat → Nat) (ch : Nat → Nat → Nat) : Prop :=
  PT (fun i k => ownM M (kc i) k ∧ (i = 0 → k < k0)) (loM M) c N kc ch ∧
  (∀ j, j < N → en j < 24 ∧ kc j < K ∧ S.1 13 (en j) 0 = 0 ∧ S'.1 13 (en j) 0 = nI (L + 1 + j) ∧ S'.1 14 (en j) 0 = nI (kc j) ∧ S'.1 15 (en j) 0 = C.1 3 (kc j) 0 ∧ S'.1 4 (kc j) 0 = 0) ∧
  (∀ i, i < N → ∀ j, j < N → en i = en j → i = j) ∧
  (∀ e, (∀ j, j < N → e ≠ en j) → S'.1 13 e = S.1 13 e ∧ S'.1 14 e = S.1 14 e ∧ S'.1 15 e = S.1 15 e ∧ S'.1 17 e = S.1 17 e) ∧
  (∀ j q k, j < N → q ≤ 6 → M.1 4 (kc j) = nI q → k < q → (j = 0 → k < k0) → (r6 (M.1 6) (kc j) k = 0 → S'.1 17 (en j) k = near0 (r6 (M.1 7) (kc j) k) (r6 (M.1 8) (kc j) k)) ∧ (r6 (M.1 6) (kc j) k = 1 → S'.1 17 (en j) k = 0) ∧ (r6 (M.1 6) (kc j) k = 2 → S'.1 17 (en j) k = nI (L + 1 + ch j k))) ∧
  (∀ g, frC g → S'.1 g = S.1 g) ∧ S'.1 12 0 0 = nI (L + N) ∧ S'.1 11 0 0 = S.1 11 0 0 + nI N ∧ (∀ d, S'.1 4 d 0 = S.1 4 d 0 ∨ (S'.1 4 d 0 = 0 ∧ ∃ j, j < N ∧ kc j = d)) ∧
  cn (fun e => decide (S'.1 13 e 0 = 0)) 24 + N = cn (fun e => decide (S.1 13 e 0 = 0)) 24
/-- the whole family is there -/
def fcR (K : Nat) (M : MSt) (C S S' : CSt) (c L N : Nat) (en kc : Nat → Nat) (ch : Nat → Nat → Nat) : Prop := fcP K M C S S' c L N 6 en kc ch
theorem ownM_lt {M : MSt} {c k : Nat} (h : ownM M c k) : k < 6 := by
  obtain ⟨q, h1, -, h2, -⟩ := h
  omega
theorem sI_13 {S : CSt} {e k : Nat} {v : Int32} (i : Nat) : (sI S 17 e k v).1 17 i = if i = e then (fun l => if l = k then v else S.1 17 i l) else S.1 17 i := by
  funext l
  rw [sI_at]
  by_cases h : i = e
  · rw [if_pos h]
    by_cases h2 : l = k
    · rw [if_pos ⟨rfl, h, h2⟩, if_pos h2]
    · rw [if_neg (fun h3 => h2 h3.2.2), if_neg h2]
  · rw [if_neg h, if_neg (fun h3 => h h3.2.1)]
/-- a number or a reference of the first record is filled -/
theorem fc_fill {K : Nat} {M : MSt} {C S S' : CSt} {c L N k : Nat} {en kc : Nat → Nat} {ch : Nat → Nat → Nat} (h : fcP K M C S S' c L N k en kc ch) {v : Int32} (h2 : ¬ ownM M c k) (h0 : r6 (M.1 6) c k = 0 → v = near0 (r6 (M.1 7) c k) (r6 (M.1 8) c k)) (h1 : r6 (M.1 6) c k = 1 → v = 0) : fcP K M C S (sI S' 17 (en 0) k v) c L N (k + 1) en kc ch := by
  obtain ⟨a1, a2, a3, a4, a5, a6, a7, a8, a9, a10⟩ := h
  have hN := a1.1
  have hk0 := a1.2.1
  refine ⟨PT_iff a1 (fun i k' hi => ⟨fun hp => ⟨hp.1, fun e => by have := hp.2 e; omega⟩, fun hp => ⟨hp.1, fun e => ?_⟩⟩), a2, a3, fun e he => ?_, fun j q k' hj hq hm hk' hlt => ?_, fun g hg => ?_, a7, a8, a9, a10⟩
  · have h3 := hp.2 e
    rcases Nat.lt_succ_iff_lt_or_eq.mp h3 with h4 | h4
    · exact h4
    · rw [e, h4, hk0] at hp
      exact absurd hp.1 h2
  · obtain ⟨b1, b2, b3, b4⟩ := a4 e he
    refine ⟨b1, b2, b3, ?_⟩
    rw [sI_13, if_neg (he 0 hN)]
    exact b4
  · rw [sI_at]
    by_cases e : en j = en 0 ∧ k' = k
    · obtain ⟨e1, e2⟩ := e
      have ej := a3 j hj 0 hN e1
      subst ej e2
      rw [if_pos ⟨rfl, rfl, rfl⟩, hk0]
      rw [hk0] at hm
      exact ⟨h0, h1, fun h3 => absurd ⟨q, hq, hm, hk', h3⟩ h2⟩
    · rw [if_neg (fun h3 => e h3.2)]
      refine a5 j q k' hj hq hm hk' (fun ej => ?_)
      have := hlt ej
      rcases Nat.lt_succ_iff_lt_or_eq.mp this with h4 | h4
      · exact h4
      · exact absurd ⟨by rw [ej], h4⟩ e
  · have e : (sI S' 17 (en 0) k v).1 g = S'.1 g := by
      funext i l
      rw [sI_at, if_neg (fun h3 => hg.2.2.2.2.2.2 h3.1)]
    rw [e]
    exact a6 g hg
/-- the family of an owning field comes -/
theorem fc_own {K : Nat} {M : MSt} {C S S' S'' : CSt} {c d L N N2 k : Nat} {en kc en2 kc2 : Nat → Nat} {ch ch2 : Nat → Nat → Nat} (h : fcP K M C S S' c L N k en kc ch) (h' : fcR K M C S' S'' d (L + N) N2 en2 kc2 ch2) (ho : ownM M c k) (hd : loM M c k = d) (hb : L + N + N2 < 2 ^ 31) : fcP K M C S (sI S'' 17 (en 0) k (nI (L + N + 1))) c L (N + N2) (k + 1) (fun j => if j < N then en j else en2 (j - N)) (fun j => if j < N then kc j else kc2 (j - N)) (fun i k' => if i < N then (if i = 0 ∧ k' = k then N else ch i k') else N + ch2 (i - N) k') := by
  obtain ⟨⟨t1, t2, t3, t4, t5⟩, a2, a3, a4, a5, a6, a7, a8, a9, a10⟩ := h
  obtain ⟨⟨u1, u2, u3, u4, u5⟩, b2, b3, b4, b5, b6, b7, b8, b9, b10⟩ := h'
  -- the new entries were free, so they are none of the first
  have apart : ∀ i, i < N → ∀ j, j < N2 → en i ≠ en2 j := fun i hi j hj e => by
    have h1 := (a2 i hi).2.2.2.1
    have h2 := (b2 j hj).2.2.1
    rw [e, h2] at h1
    exact nI_ne0 (by omega) (by omega) h1.symm
  have kin : ownM M c k := ho
  have full : ∀ {i k'}, ownM M (kc2 i) k' → ownM M (kc2 i) k' ∧ (i = 0 → k' < 6) := fun {i k'} h => ⟨h, fun _ => ownM_lt h⟩
  -- nodes by halves
  have enL : ∀ {j}, j < N → (if j < N then en j else en2 (j - N)) = en j := fun {j} h => if_pos h
  have enR : ∀ {j}, ¬ j < N → (if j < N then en j else en2 (j - N)) = en2 (j - N) := fun {j} h => if_neg h
  have kcL : ∀ {j}, j < N → (if j < N then kc j else kc2 (j - N)) = kc j := fun {j} h => if_pos h
  have kcR : ∀ {j}, ¬ j < N → (if j < N then kc j else kc2 (j - N)) = kc2 (j - N) := fun {j} h => if_neg h
  refine ⟨⟨by omega, ?_, fun i k' hi hp => ?_, fun j hj hjN => ?_, fun i k1 i' k2 hi hi' hp hp' e => ?_⟩, fun j hj => ?_, fun i hi j hj e => ?_, fun e he => ?_, fun j q k' hj hq hm hk' hlt => ?_, fun g hg => ?_, ?_, ?_, fun d' => ?_, ?_⟩
  · show (if 0 < N then kc 0 else kc2 (0 - N)) = c
    rw [kcL t1, t2]
  · -- children
    by_cases hiN : i < N
    · have hp1 : ownM M (kc i) k' := by
        have h9 : ownM M (if i < N then kc i else kc2 (i - N)) k' := hp.1
        rwa [kcL hiN] at h9
      dsimp only
      rw [if_pos hiN, kcL hiN]
      by_cases e : i = 0 ∧ k' = k
      · rw [if_pos e, kcR (Nat.lt_irrefl N), Nat.sub_self, u2, e.1, e.2, t2, hd]
        exact ⟨t1, by omega, rfl⟩
      · rw [if_neg e]
        obtain ⟨q1, q2, q3⟩ := t3 i k' hiN ⟨hp1, fun e0 => by have := hp.2 e0; omega⟩
        rw [kcL q2]
        exact ⟨q1, by omega, q3⟩
    · have hp1 : ownM M (kc2 (i - N)) k' := by
        have h9 : ownM M (if i < N then kc i else kc2 (i - N)) k' := hp.1
        rwa [kcR hiN] at h9
      obtain ⟨q1, q2, q3⟩ := u3 (i - N) k' (by omega) (full hp1)
      dsimp only
      rw [if_neg hiN, kcR hiN, kcR (show ¬ N + ch2 (i - N) k' < N by omega), show N + ch2 (i - N) k' - N = ch2 (i - N) k' by omega]
      exact ⟨by omega, by omega, q3⟩
  · -- every node has its owner
    by_cases hjN1 : j < N
    · obtain ⟨i, k', i1, i2, i3⟩ := t4 j hj hjN1
      refine ⟨i, k', i1, ⟨?_, fun e0 => by have := i2.2 e0; omega⟩, ?_⟩
      · show ownM M (if i < N then kc i else kc2 (i - N)) k'
        rw [kcL (by omega)]; exact i2.1
      · show (if i < N then (if i = 0 ∧ k' = k then N else ch i k') else _) = j
        rw [if_pos (by omega), if_neg (fun e => by have := i2.2 e.1; omega), i3]
    · by_cases hj0 : j = N
      · refine ⟨0, k, by omega, ⟨?_, fun _ => by omega⟩, ?_⟩
        · show ownM M (if 0 < N then kc 0 else kc2 (0 - N)) k
          rw [kcL t1, t2]; exact ho
        · show (if 0 < N then (if 0 = 0 ∧ k = k then N else ch 0 k) else _) = j
          rw [if_pos t1, if_pos ⟨rfl, rfl⟩, hj0]
      · obtain ⟨i, k', i1, i2, i3⟩ := u4 (j - N) (by omega) (by omega)
        refine ⟨N + i, k', by omega, ⟨?_, fun e0 => by omega⟩, ?_⟩
        · show ownM M (if N + i < N then kc (N + i) else kc2 (N + i - N)) k'
          rw [kcR (by omega), show N + i - N = i by omega]; exact i2.1
        · show (if N + i < N then _ else N + ch2 (N + i - N) k') = j
          rw [if_neg (by omega), show N + i - N = i by omega, i3]
          omega
  · -- one owner
    have e : (if i < N then (if i = 0 ∧ k1 = k then N else ch i k1) else N + ch2 (i - N) k1) = (if i' < N then (if i' = 0 ∧ k2 = k then N else ch i' k2) else N + ch2 (i' - N) k2) := e
    have q : ∀ {i k1}, i < N → (ownM M (if i < N then kc i else kc2 (i - N)) k1 ∧ (i = 0 → k1 < k + 1)) → ¬ (i = 0 ∧ k1 = k) → ownM M (kc i) k1 ∧ (i = 0 → k1 < k) := fun {i k1} hi hp hne => by
      rw [kcL hi] at hp
      exact ⟨hp.1, fun e0 => by have := hp.2 e0; omega⟩
    have q2 : ∀ {i k1}, ¬ i < N → (ownM M (if i < N then kc i else kc2 (i - N)) k1 ∧ (i = 0 → k1 < k + 1)) → ownM M (kc2 (i - N)) k1 ∧ (i - N = 0 → k1 < 6) := fun {i k1} hi hp => by
      rw [kcR hi] at hp
      exact full hp.1
    by_cases hiN : i < N
    · rw [if_pos hiN] at e
      by_cases hi'N : i' < N
      · rw [if_pos hi'N] at e
        by_cases e1 : i = 0 ∧ k1 = k
        · rw [if_pos e1] at e
          by_cases e2 : i' = 0 ∧ k2 = k
          · exact ⟨by omega, by omega⟩
          · rw [if_neg e2] at e
            have := (t3 i' k2 hi'N (q hi'N hp' e2)).2.1
            omega
        · rw [if_neg e1] at e
          have h1 := (t3 i k1 hiN (q hiN hp e1)).2.1
          by_cases e2 : i' = 0 ∧ k2 = k
          · rw [if_pos e2] at e
            omega
          · rw [if_neg e2] at e
            exact t5 i k1 i' k2 hiN hi'N (q hiN hp e1) (q hi'N hp' e2) e
      · rw [if_neg hi'N] at e
        have h2 := (u3 (i' - N) k2 (by omega) (q2 hi'N hp')).1
        by_cases e1 : i = 0 ∧ k1 = k
        · rw [if_pos e1] at e
          omega
        · rw [if_neg e1] at e
          have h1 := (t3 i k1 hiN (q hiN hp e1)).2.1
          omega
    · rw [if_neg hiN] at e
      have h1 := (u3 (i - N) k1 (by omega) (q2 hiN hp)).1
      by_cases hi'N : i' < N
      · rw [if_pos hi'N] at e
        by_cases e2 : i' = 0 ∧ k2 = k
        · rw [if_pos e2] at e
          omega
        · rw [if_neg e2] at e
          have h2 := (t3 i' k2 hi'N (q hi'N hp' e2)).2.1
          omega
      · rw [if_neg hi'N] at e
        obtain ⟨e1, e2⟩ := u5 (i - N) k1 (i' - N) k2 (by omega) (by omega) (q2 hiN hp) (q2 hi'N hp') (by omega)
        exact ⟨by omega, e2⟩
  · -- the entries
    show (if j < N then en j else en2 (j - N)) < 24 ∧ (if j < N then kc j else kc2 (j - N)) < K ∧ S.1 13 (if j < N then en j else en2 (j - N)) 0 = 0 ∧ S''.1 13 (if j < N then en j else en2 (j - N)) 0 = nI (L + 1 + j) ∧ S''.1 14 (if j < N then en j else en2 (j - N)) 0 = nI (if j < N then kc j else kc2 (j - N)) ∧ S''.1 15 (if j < N then en j else en2 (j - N)) 0 = C.1 3 (if j < N then kc j else kc2 (j - N)) 0 ∧ S''.1 4 (if j < N then kc j else kc2 (j - N)) 0 = 0
    by_cases hjN : j < N
    · rw [enL hjN, kcL hjN]
      obtain ⟨c1, c2, c3, c4, c5, c6, c7⟩ := a2 j hjN
      obtain ⟨d1, d2, d3, -⟩ := b4 (en j) (fun j2 hj2 => apart j hjN j2 hj2)
      refine ⟨c1, c2, c3, by rw [d1]; exact c4, by rw [d2]; exact c5, by rw [d3]; exact c6, ?_⟩
      rcases b9 (kc j) with h1 | h1
      · rw [h1]; exact c7
      · exact h1.1
    · rw [enR hjN, kcR hjN]
      obtain ⟨c1, c2, c3, c4, c5, c6, c7⟩ := b2 (j - N) (by omega)
      refine ⟨c1, c2, ?_, by rw [c4]; congr 1; omega, c5, c6, c7⟩
      rw [← (a4 (en2 (j - N)) (fun i hi => (apart i hi (j - N) (by omega)).symm)).1]
      exact c3
  · have e : (if i < N then en i else en2 (i - N)) = (if j < N then en j else en2 (j - N)) := e
    by_cases hiN : i < N
    · rw [enL hiN] at e
      by_cases hjN : j < N
      · rw [enL hjN] at e
        exact a3 i hiN j hjN e
      · rw [enR hjN] at e
        exact absurd e (apart i hiN (j - N) (by omega))
    · rw [enR hiN] at e
      by_cases hjN : j < N
      · rw [enL hjN] at e
        exact absurd e.symm (apart j hjN (i - N) (by omega))
      · rw [enR hjN] at e
        have := b3 (i - N) (by omega) (j - N) (by omega) e
        omega
  · -- the others
    have h1 : ∀ j, j < N → e ≠ en j := fun j hj => by
      have h9 : e ≠ (if j < N then en j else en2 (j - N)) := he j (by omega)
      rwa [enL hj] at h9
    have h2 : ∀ j, j < N2 → e ≠ en2 j := fun j hj => by
      have h9 : e ≠ (if N + j < N then en (N + j) else en2 (N + j - N)) := he (N + j) (by omega)
      rwa [enR (by omega), show N + j - N = j by omega] at h9
    obtain ⟨c1, c2, c3, c4⟩ := a4 e h1
    obtain ⟨d1, d2, d3, d4⟩ := b4 e h2
    refine ⟨d1.trans c1, d2.trans c2, d3.trans c3, ?_⟩
    rw [sI_13, if_neg (h1 0 t1)]
    exact d4.trans c4
  · -- the values
    have hm : M.1 4 (if j < N then kc j else kc2 (j - N)) = nI q := hm
    show (r6 (M.1 6) (if j < N then kc j else kc2 (j - N)) k' = 0 → (sI S'' 17 (en 0) k (nI (L + N + 1))).1 17 (if j < N then en j else en2 (j - N)) k' = near0 (r6 (M.1 7) (if j < N then kc j else kc2 (j - N)) k') (r6 (M.1 8) (if j < N then kc j else kc2 (j - N)) k')) ∧ (r6 (M.1 6) (if j < N then kc j else kc2 (j - N)) k' = 1 → (sI S'' 17 (en 0) k (nI (L + N + 1))).1 17 (if j < N then en j else en2 (j - N)) k' = 0) ∧ (r6 (M.1 6) (if j < N then kc j else kc2 (j - N)) k' = 2 → (sI S'' 17 (en 0) k (nI (L + N + 1))).1 17 (if j < N then en j else en2 (j - N)) k' = nI (L + 1 + (if j < N then (if j = 0 ∧ k' = k then N else ch j k') else N + ch2 (j - N) k')))
    by_cases hjN : j < N
    · rw [kcL hjN] at hm ⊢
      rw [enL hjN, sI_at, if_pos hjN]
      by_cases e : en j = en 0 ∧ k' = k
      · have ej := a3 j hjN 0 t1 e.1
        rw [if_pos ⟨rfl, e⟩, if_pos ⟨ej, e.2⟩]
        obtain ⟨q', -, -, -, hk2⟩ := ho
        rw [ej, t2, e.2, hk2]
        exact ⟨fun h => absurd h (by decide), fun h => absurd h (by decide), fun _ => by congr 1; omega⟩
      · rw [if_neg (fun h => e h.2), if_neg (fun h => e ⟨by rw [h.1], h.2⟩), (b4 (en j) (fun j2 hj2 => apart j hjN j2 hj2)).2.2.2]
        refine a5 j q k' hjN hq hm hk' (fun ej => ?_)
        have := hlt ej
        rcases Nat.lt_succ_iff_lt_or_eq.mp this with h4 | h4
        · exact h4
        · exact absurd ⟨by rw [ej], h4⟩ e
    · rw [kcR hjN] at hm ⊢
      rw [enR hjN, sI_at, if_neg (fun h => apart 0 t1 (j - N) (by omega) h.2.1.symm), if_neg hjN]
      have := b5 (j - N) q k' (by omega) hq hm hk' (fun _ => by omega)
      rw [show L + 1 + (N + ch2 (j - N) k') = L + N + 1 + ch2 (j - N) k' by omega]
      exact this
  · have e : (sI S'' 17 (en 0) k (nI (L + N + 1))).1 g = S''.1 g := by
      funext i l
      rw [sI_at, if_neg (fun h3 => hg.2.2.2.2.2.2 h3.1)]
    rw [e]
    exact (b6 g hg).trans (a6 g hg)
  · show S''.1 12 0 0 = _
    rw [b7, Nat.add_assoc]
  · show S''.1 11 0 0 = _
    rw [b8, a8, Int32.add_assoc, nI_add]
  · show S''.1 4 d' 0 = S.1 4 d' 0 ∨ (S''.1 4 d' 0 = 0 ∧ ∃ j, j < N + N2 ∧ (if j < N then kc j else kc2 (j - N)) = d')
    rcases b9 d' with h1 | ⟨h1, j, j1, j2⟩
    · rcases a9 d' with h2 | ⟨h2, j, j1, j2⟩
      · exact Or.inl (h1.trans h2)
      · exact Or.inr ⟨h1.trans h2, j, by omega, by rw [kcL j1]; exact j2⟩
    · exact Or.inr ⟨h1, N + j, by omega, by rw [kcR (by omega), show N + j - N = j by omega]; exact j2⟩
  · show cn (fun e => decide (S''.1 13 e 0 = 0)) 24 + (N + N2) = _
    omega
