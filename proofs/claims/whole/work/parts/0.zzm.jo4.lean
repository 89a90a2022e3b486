/-! ===== change: a part is joined back: the reference in the midst of a change ===== -/
theorem JM_join {K : Nat} {B T T' : MSt} {c d p m0 m k0 : Nat} {pt : Nat → Nat} (h : JM K B T c m0 m) (hc : c < 4) (hd : d < K) (hp : T.1 4 d = nI p) (hShd : Sh K p (r6 (T.1 5) d) (r6 (T.1 6) d) (r6 (T.1 7) d) (r6 (T.1 8) d)) (hk0 : k0 < m) (h2 : T.1 30 k0 = 2) (h31 : T.1 31 k0 = nI d) (hpt : ∀ r, r < 24 → T.1 14 r = nI c → pt r < 24 ∧ r6 (T.1 34) r k0 = nI (pt r) ∧ T.1 14 (pt r) = nI d) (hC : CanJ T c d p m k0) (hJ : JoiM T T' c d p m k0 pt) : JM K B T' c m0 (m - 1 + p) := by
  have hSh := JM_sh h hc
  obtain ⟨hM, hm6, hm, h27, h26, hfr, hcl, hcv, hor, hoi, hmx, ⟨w, hw, hds, hdK⟩, hmix⟩ := id h
  have hK4 : K ≤ 4 := hM.1.1
  have hp6 := hShd.1
  have hd4 : d < 4 := by omega
  obtain ⟨c1, c2, c3, c4, c5⟩ := hC
  obtain ⟨g1, g2, g3, g4, g5, g6, g7, g8, g9, g10⟩ := hJ
  have cB : ∀ {r}, r < 24 → T.1 14 r = nI c → B.1 14 r = nI c := fun {r} hr h14 => (hcl r hr).mp h14
  have skl : ∀ k, k < m - 1 → sk k0 k < m ∧ sk k0 k ≠ k0 := fun k hk => by unfold sk; split <;> omega
  have ski : ∀ k k2, sk k0 k = sk k0 k2 → k = k2 := fun k k2 e => by
    unfold sk at e
    split at e <;> split at e <;> omega
  have e4 : (vS T c).1 4 c = nI m := (if_pos rfl).trans hm
  have v14 : (vS T c).1 14 = T.1 14 := vS_o T c 14 (by omega) (by omega) (by omega)
  have v14' : (vS T' c).1 14 = T'.1 14 := vS_o T' c 14 (by omega) (by omega) (by omega)
  have f6 : ∀ k, k < 6 → r6 ((vS T c).1 6) c k = T.1 30 k := fun k hk => by rw [vS_s _ _ 6 _ _ (by omega) (by omega) hk, if_pos rfl]
  have f7 : ∀ k, k < 6 → r6 ((vS T c).1 7) c k = T.1 31 k := fun k hk => by rw [vS_s _ _ 7 _ _ (by omega) (by omega) hk, if_pos rfl]
  have f6' : ∀ k, k < 6 → r6 ((vS T' c).1 6) c k = T'.1 30 k := fun k hk => by rw [vS_s _ _ 6 _ _ (by omega) (by omega) hk, if_pos rfl]
  have f7' : ∀ k, k < 6 → r6 ((vS T' c).1 7) c k = T'.1 31 k := fun k hk => by rw [vS_s _ _ 7 _ _ (by omega) (by omega) hk, if_pos rfl]
  have f8' : ∀ k, k < 6 → r6 ((vS T' c).1 8) c k = T'.1 32 k := fun k hk => by rw [vS_s _ _ 8 _ _ (by omega) (by omega) hk, if_pos rfl]
  have s16 : ∀ r k, r < 24 → T.1 14 r = nI c → k < 6 → r6 ((vS T c).1 16) r k = r6 (T.1 34) r k := fun r k hr h14 hk => by rw [vS_16 _ _ _ _ hk, if_pos h14]
  have hpt' : ∀ r, r < 24 → (vS T c).1 14 r = nI c → pt r < 24 ∧ r6 ((vS T c).1 16) r k0 = nI (pt r) := fun r hr h14 => by
    rw [v14] at h14
    rw [s16 r k0 hr h14 (by omega)]
    exact ⟨(hpt r hr h14).1, (hpt r hr h14).2.1⟩
  obtain ⟨hcd, ow, pinj⟩ := join_own hM hc e4 hm6 hk0 (by rw [f6 _ (by omega)]; exact h2) (by rw [f7 _ (by omega)]; exact h31) hd4 hpt'
  have clN : ∀ r, r < 24 → (T'.1 14 r = nI c ↔ T.1 14 r = nI c) := fun r hr => by
    by_cases hn' : ∃ r0, r0 < 24 ∧ T.1 14 r0 = nI c ∧ r = pt r0
    · obtain ⟨r0, a1, a3, a4⟩ := hn'
      rw [a4, g2 r0 a1 a3, (hpt r0 a1 a3).2.2]
      exact ⟨fun h => absurd h (m1_ne_nI (by omega)), fun h => absurd (nI_inj4 hd4 hc h) hcd⟩
    · rw [g3 r (fun r0 a1 a3 a4 => hn' ⟨r0, a1, a3, a4⟩)]
  have s16' : ∀ r k, r < 24 → T.1 14 r = nI c → k < 6 → r6 ((vS T' c).1 16) r k = r6 (T'.1 34) r k := fun r k hr h14 hk => by rw [vS_16 _ _ _ _ hk, if_pos ((clN r hr).mpr h14)]
  -- the new shape
  have hSh' : Sh K (m - 1 + p) (T'.1 29) (T'.1 30) (T'.1 31) (T'.1 32) := by
    refine ⟨c4, fun i hi j hj e => ?_, fun i hi => ?_⟩
    · have cross : ∀ i k, i < m - 1 → k < p → T'.1 29 i ≠ T'.1 29 (m - 1 + k) := fun i k hi hk e => by
        rw [g5 29 i (by omega) (by omega) hi, (g6 k hk).1] at e
        exact c5 k hk (sk k0 i) (skl i hi).1 (skl i hi).2 e
      by_cases ei : i < m - 1
      · by_cases ej : j < m - 1
        · rw [g5 29 i (by omega) (by omega) ei, g5 29 j (by omega) (by omega) ej] at e
          exact ski i j (hSh.2.1 _ (skl i ei).1 _ (skl j ej).1 e)
        · rw [show j = m - 1 + (j - (m - 1)) by omega] at e
          exact absurd e (cross i (j - (m - 1)) ei (by omega))
      · by_cases ej : j < m - 1
        · rw [show i = m - 1 + (i - (m - 1)) by omega] at e
          exact absurd e.symm (cross j (i - (m - 1)) ej (by omega))
        · have a1 := (g6 (i - (m - 1)) (by omega)).1
          have a2 := (g6 (j - (m - 1)) (by omega)).1
          rw [show m - 1 + (i - (m - 1)) = i by omega] at a1
          rw [show m - 1 + (j - (m - 1)) = j by omega] at a2
          rw [a1, a2] at e
          have := hShd.2.1 _ (by omega) _ (by omega) e
          omega
    · by_cases ei : i < m - 1
      · rw [g5 29 i (by omega) (by omega) ei, g5 30 i (by omega) (by omega) ei, g5 31 i (by omega) (by omega) ei, g5 32 i (by omega) (by omega) ei]
        exact hSh.2.2 _ (skl i ei).1
      · obtain ⟨a1, a2, a3, a4, -⟩ := g6 (i - (m - 1)) (by omega)
        rw [show m - 1 + (i - (m - 1)) = i by omega] at a1 a2 a3 a4
        have := hShd.2.2 (i - (m - 1)) (by omega)
        rw [c2 _ (by omega)] at this
        rw [a1, a2, a3, a4]
        exact this
  obtain ⟨⟨w', hw', ew'⟩, dse⟩ := ds_or w hw d hd4
  have hMI : MI K (vS T' c).1 := by
    refine MI_join (m := (vS T c).1) (m' := (vS T' c).1) hM (c := c) (d := d) (q := m) (q' := m - 1 + p) (k0 := k0) (ψ := sk k0) (pt := pt) hc e4 hm6 hk0 (by rw [f6 _ (by omega)]; exact h2) (by rw [f7 _ (by omega)]; exact h31) hd4 hpt' (fun i r hi hr h14 e => ?_) ?_ ?_ (if_pos (Or.inl rfl)) ?_ (fun e he ee ed => ?_) ((if_pos rfl).trans g4) (fun e ee => ?_) (fun g a b e k ee hk => ?_) ?_ (fun r hr h14 => ?_) (fun y hy hno => ?_) ?_ (fun y k hy hk hne => ?_) (fun g a b => ?_) ?_ ?_ (fun g a b => ?_) (fun r k hr h14 hk h0 => ?_) (fun k hk h1 => ?_) (fun k hk h2' => ?_) (fun k hk h2' k2 hk2 h22 e => ski k k2 e)
    · rw [v14] at h14
      rw [vS_o _ _ 19 (by omega) (by omega) (by omega)] at e
      exact c3 ⟨r, i, hr, hi, h14, by rw [e]; exact nI_pos (by have := (hpt r hr h14).1; omega), e.trans (hpt r hr h14).2.1.symm⟩
    · rw [vS_o _ _ 1 (by omega) (by omega) (by omega), vS_o _ _ 1 (by omega) (by omega) (by omega), g1 1 (by omega)]
    · rw [vS_o _ _ 2 (by omega) (by omega) (by omega), vS_o _ _ 2 (by omega) (by omega) (by omega), g1 2 (by omega)]
    · refine if_pos (Or.inr ?_)
      rw [g10, hds, dse d hd4]
      simp
    · show (if e = c ∨ dsB (T'.1 36 0) e = true then 0 else T'.1 3 e) = (if e = c ∨ dsB (T.1 36 0) e = true then 0 else T.1 3 e)
      rw [g10, hds, dse e he, g1 3 (by omega)]
      simp [ed]
    · show (if e = c then T'.1 28 0 else T'.1 4 e) = (if e = c then T.1 28 0 else T.1 4 e)
      rw [if_neg ee, if_neg ee, g1 4 (by omega)]
    · rw [vS_s _ _ g _ _ a b hk, vS_s _ _ g _ _ a b hk, if_neg ee, if_neg ee, g1 g (by omega)]
    · refine ⟨c4, fun i hi j hj e => hSh'.2.1 i hi j hj ?_, fun i hi => ?_⟩
      · rw [vS_s _ _ 5 _ _ (by omega) (by omega) (by omega), vS_s _ _ 5 _ _ (by omega) (by omega) (by omega), if_pos rfl, if_pos rfl] at e
        exact e
      · rw [vS_s _ _ 5 _ _ (by omega) (by omega) (by omega), f6' i (by omega), f7' i (by omega), f8' i (by omega), if_pos rfl]
        exact hSh'.2.2 i hi
    · rw [v14] at h14
      rw [v14']
      exact g2 r hr h14
    · rw [v14] at hno
      rw [v14', v14]
      exact g3 y hno
    · rw [vS_o _ _ 15 (by omega) (by omega) (by omega), vS_o _ _ 15 (by omega) (by omega) (by omega), g1 15 (by omega)]
    · rw [v14] at hne
      have hne' : ¬ T'.1 14 y = nI c := fun e => hne ((clN y hy).mp e)
      rw [vS_16 _ _ _ _ hk, vS_16 _ _ _ _ hk, if_neg hne', if_neg hne, g1 16 (by omega)]
    · rw [vS_o _ _ g (by omega) (by omega) (by omega), vS_o _ _ g (by omega) (by omega) (by omega), g1 g (by omega)]
    · rw [vS_o _ _ 17 (by omega) (by omega) (by omega), vS_o _ _ 17 (by omega) (by omega) (by omega), g1 17 (by omega)]
    · rw [vS_o _ _ 19 (by omega) (by omega) (by omega), vS_o _ _ 19 (by omega) (by omega) (by omega), g1 19 (by omega)]
    · rw [vS_o _ _ g (by omega) (by omega) (by omega), vS_o _ _ g (by omega) (by omega) (by omega), g1 g (by omega)]
    · rw [v14] at h14
      rw [f7' k (by omega), f8' k (by omega), s16' r k hr h14 (by omega)]
      rw [f6' k (by omega)] at h0
      by_cases ek : k < m - 1
      · rw [g5 30 k (by omega) (by omega) ek] at h0
        rw [g5 31 k (by omega) (by omega) ek, g5 32 k (by omega) (by omega) ek, g7 r k hr ek]
        exact (JM_val h hc hr (cB hr h14) (skl k ek).1).1 h0
      · obtain ⟨a1, a2, a3, a4, -⟩ := g6 (k - (m - 1)) (by omega)
        have a8 := g8 r (k - (m - 1)) hr h14 (by omega)
        rw [show m - 1 + (k - (m - 1)) = k by omega] at a3 a4 a8
        rw [a3, a4, a8]
        obtain ⟨x1, x2, x3⟩ := hpt r hr h14
        have hne : ¬ T.1 14 (pt r) = nI c := by rw [x3]; exact fun e => hcd (nI_inj4 hd4 hc e)
        have := hM.2.2.2.1.1 (pt r) d (k - (m - 1)) ⟨x1, hd4, by rw [v14]; exact x3, ⟨p, hp6, (if_neg hcd).trans hp, by omega⟩, by rw [vS_s _ _ 6 _ _ (by omega) (by omega) (by omega), if_neg hcd]; exact c2 _ (by omega)⟩
        rw [vS_s _ _ 7 _ _ (by omega) (by omega) (by omega), vS_s _ _ 8 _ _ (by omega) (by omega) (by omega), if_neg hcd, if_neg hcd, vS_16 _ _ _ _ (by omega), if_neg hne] at this
        exact this
    · rw [f6' k (by omega)] at h1
      by_cases ek : k < m - 1
      · rw [g5 30 k (by omega) (by omega) ek] at h1
        have := (skl k ek).1
        refine ⟨sk k0 k, this, by rw [f6 _ (by omega)]; exact h1, fun r hr h14 => ?_⟩
        rw [v14] at h14
        rw [s16' r k hr h14 (by omega), s16 r _ hr h14 (by omega), g7 r k hr ek]
      · have := (g6 (k - (m - 1)) (by omega)).2.1
        rw [show m - 1 + (k - (m - 1)) = k by omega, h1] at this
        exact absurd this (by decide)
    · rw [f6' k (by omega)] at h2'
      by_cases ek : k < m - 1
      · rw [g5 30 k (by omega) (by omega) ek] at h2'
        have := skl k ek
        refine ⟨this.1, this.2, by rw [f6 _ (by omega)]; exact h2', by rw [f7' k (by omega), f7 _ (by omega), g5 31 k (by omega) (by omega) ek], fun r hr h14 => ?_⟩
        rw [v14] at h14
        rw [s16' r k hr h14 (by omega), s16 r _ hr h14 (by omega), g7 r k hr ek]
      · have := (g6 (k - (m - 1)) (by omega)).2.1
        rw [show m - 1 + (k - (m - 1)) = k by omega, h2'] at this
        exact absurd this (by decide)
  refine ⟨hMI, c4, g4, by rw [g1 27 (by omega)]; exact h27, by rw [g1 26 (by omega)]; exact h26, ⟨fun g hg => ?_, fun r hr => ?_, fun l hl => ?_⟩, fun r hr => (clN r hr).trans (hcl r hr), fun r k hr h14 hk => ?_, fun k hk => ?_, fun k hk k2 hk2 e1 e2 => ?_, Or.inr g9, ⟨w', hw', by rw [g10, hds]; exact ew', fun e he h => by
    rw [← ew', dse e he] at h
    rcases (Bool.or_eq_true _ _).mp h with h | h
    · exact hdK e he h
    · rw [of_decide_eq_true h]; exact hd⟩, fun e => absurd (g9.symm.trans e) one_ne⟩
  · rw [g1 g (by omega)]; exact hfr.1 g hg
  · rw [g3 r (fun r0 hr0 h0 e => by have := (hpt r0 hr0 h0).1; omega), g1 15 (by omega)]
    exact hfr.2.1 r hr
  · rw [g1 16 (by omega)]; exact hfr.2.2 l hl
  · rw [g1 15 (by omega), g1 16 (by omega)]
    exact hcv r k hr h14 hk
  · by_cases ek : k < m - 1
    · rw [g5 33 k (by omega) (by omega) ek, g5 30 k (by omega) (by omega) ek, g5 31 k (by omega) (by omega) ek]
      rcases hor (sk k0 k) (skl k ek).1 with e | ⟨o, o1, o2, o3, o4⟩
      · exact Or.inl e
      · refine Or.inr ⟨o, o1, o2, o3, fun hne => ⟨(o4 hne).1, fun r hr h14 => ?_⟩⟩
        rw [g7 r k hr ek]
        exact (o4 hne).2 r hr h14
    · have := (g6 (k - (m - 1)) (by omega)).2.2.2.2
      rw [show m - 1 + (k - (m - 1)) = k by omega] at this
      exact Or.inl this
  · have neg : ∀ k, k < m - 1 + p → ¬ k < m - 1 → T'.1 33 k = -1 := fun k hk hn => by
      have := (g6 (k - (m - 1)) (by omega)).2.2.2.2
      rw [show m - 1 + (k - (m - 1)) = k by omega] at this
      exact this
    by_cases ek : k < m - 1
    · by_cases ek2 : k2 < m - 1
      · rw [g5 33 k (by omega) (by omega) ek, g5 33 k2 (by omega) (by omega) ek2] at e1
        rw [g5 33 k (by omega) (by omega) ek] at e2
        exact ski k k2 (hoi _ (skl k ek).1 _ (skl k2 ek2).1 e1 e2)
      · rw [e1, neg k2 hk2 ek2] at e2
        exact absurd rfl e2
    · rw [neg k hk ek] at e2
      exact absurd rfl e2
