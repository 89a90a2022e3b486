/-! ===== change: a class is split: the reference in the midst of a change ===== -/
theorem ds_or : ∀ w, w < 16 → ∀ d, d < 4 → (∃ w', w' < 16 ∧ nI w ||| ((1 : Int32) <<< (nI d &&& 31)) = nI w') ∧ ∀ e, e < 4 → dsB (nI w ||| ((1 : Int32) <<< (nI d &&& 31))) e = (dsB (nI w) e || decide (e = d)) := by decide +kernel
theorem JM_split {K : Nat} {B T T' : MSt} {c d p m0 m s x : Nat} {ln : Nat → Nat} (h : JM K B T c m0 m) (hc : c < 4) (hd : d < K) (hp : T.1 4 d = nI p) (hShd : Sh K p (r6 (T.1 5) d) (r6 (T.1 6) d) (r6 (T.1 7) d) (r6 (T.1 8) d)) (hs : s < 1024) (hx : x < 10) (hC : CanS T c d p m s) (hN : NameOk T m s x) (hS : SplM T T' c d p m s (nI x) ln) : JM K B T' c m0 (cn (kM T s) m + 1) := by
  have hSh := JM_sh h hc
  obtain ⟨hM, hm6, hm, h27, h26, hfr, hcl, hcv, hor, hoi, hmx, ⟨w, hw, hds, hdK⟩, hmix⟩ := id h
  have hK4 : K ≤ 4 := hM.1.1
  have hp6 := hShd.1
  obtain ⟨c1, c2, c3, c4, c5⟩ := hC
  obtain ⟨g1, g2, g3, g4, g5, g6, g7, ⟨g29, g30, g31, g32, g33⟩, g9, g10, g11, g12, g13⟩ := hS
  have hd4 : d < 4 := by omega
  have cB : ∀ {r}, r < 24 → T.1 14 r = nI c → B.1 14 r = nI c := fun {r} hr h14 => (hcl r hr).mp h14
  -- the source of a field
  have src : ∀ k, k < cn (kM T s) m → ∃ i, i < m ∧ kM T s i = true ∧ cn (kM T s) i = k := fun k hk => rk_sur hk
  have hψ : ∃ ψ : Nat → Nat, ∀ k, k < cn (kM T s) m → ψ k < m ∧ kM T s (ψ k) = true ∧ cn (kM T s) (ψ k) = k := by
    have : ∀ k, ∃ i, k < cn (kM T s) m → i < m ∧ kM T s i = true ∧ cn (kM T s) i = k := fun k => by
      by_cases hk : k < cn (kM T s) m
      · obtain ⟨i, hi⟩ := src k hk
        exact ⟨i, fun _ => hi⟩
      · exact ⟨0, fun h => absurd h hk⟩
    exact Classical.axiomOfChoice this
  obtain ⟨ψ, hψ⟩ := hψ
  have rowk : ∀ g k, 29 ≤ g → g ≤ 33 → k < cn (kM T s) m → T'.1 g k = T.1 g (ψ k) := fun g k a b hk => by
    obtain ⟨i1, i2, i3⟩ := hψ k hk
    have := g7 g (ψ k) a b i1 i2
    rw [i3] at this
    exact this
  have valk : ∀ r k, r < 24 → k < cn (kM T s) m → r6 (T'.1 34) r k = r6 (T.1 34) r (ψ k) := fun r k hr hk => by
    obtain ⟨i1, i2, i3⟩ := hψ k hk
    have := g9 r (ψ k) hr i1 i2
    rw [i3] at this
    exact this
  have ψinj : ∀ k, k < cn (kM T s) m → ∀ k2, k2 < cn (kM T s) m → ψ k = ψ k2 → k = k2 := fun k hk k2 hk2 e => by
    rw [← (hψ k hk).2.2, ← (hψ k2 hk2).2.2, e]
  -- the new shape
  have hSh' : Sh K (cn (kM T s) m + 1) (T'.1 29) (T'.1 30) (T'.1 31) (T'.1 32) := by
    refine ⟨by omega, fun i hi j hj e => ?_, fun i hi => ?_⟩
    · have nn : ∀ i, i < cn (kM T s) m → T'.1 29 i ≠ nI x := fun i hi e => by
        rw [rowk 29 i (by omega) (by omega) hi] at e
        have h1 := hN (ψ i) (hψ i hi).1 e
        have h2 := (hψ i hi).2.1
        unfold kM at h2
        rw [e, nI_clamp (by omega), h1] at h2
        cases h2
      by_cases ei : i = cn (kM T s) m
      · by_cases ej : j = cn (kM T s) m
        · omega
        · rw [ei, g29] at e
          exact absurd e.symm (nn j (by omega))
      · by_cases ej : j = cn (kM T s) m
        · rw [ej, g29] at e
          exact absurd e (nn i (by omega))
        · rw [rowk 29 i (by omega) (by omega) (by omega), rowk 29 j (by omega) (by omega) (by omega)] at e
          exact ψinj i (by omega) j (by omega) (hSh.2.1 _ (hψ i (by omega)).1 _ (hψ j (by omega)).1 e)
    · by_cases ei : i = cn (kM T s) m
      · rw [ei, g29, g30, g31, g32]
        exact ⟨⟨x, hx, rfl⟩, Or.inr ⟨Or.inr rfl, d, hd, rfl, rfl⟩⟩
      · rw [rowk 29 i (by omega) (by omega) (by omega), rowk 30 i (by omega) (by omega) (by omega), rowk 31 i (by omega) (by omega) (by omega), rowk 32 i (by omega) (by omega) (by omega)]
        exact hSh.2.2 _ (hψ i (by omega)).1
  have e4 : (vS T c).1 4 c = nI m := (if_pos rfl).trans hm
  have v14 : (vS T c).1 14 = T.1 14 := vS_o T c 14 (by omega) (by omega) (by omega)
  have v14' : (vS T' c).1 14 = T'.1 14 := vS_o T' c 14 (by omega) (by omega) (by omega)
  have clN : ∀ r, r < 24 → (T'.1 14 r = nI c ↔ T.1 14 r = nI c) := fun r hr => by
    by_cases hn' : ∃ r0, r0 < 24 ∧ T.1 14 r0 = nI c ∧ r = ln r0
    · obtain ⟨r0, a1, a3, a4⟩ := hn'
      obtain ⟨b1, b2, b3, -⟩ := g2 r0 a1 a3
      rw [a4, b2, b3]
      exact ⟨fun h => absurd (nI_inj4 hd4 hc h) c1, fun h => absurd h (m1_ne_nI (by omega))⟩
    · rw [(g4 r (fun r0 a1 a3 a4 => hn' ⟨r0, a1, a3, a4⟩)).1]
  have nln : ∀ {y}, T.1 14 y ≠ -1 → ∀ r, r < 24 → T.1 14 r = nI c → y ≠ ln r := fun {y} hy r hr h14 e => hy (by rw [e]; exact (g2 r hr h14).2.1)
  have lc : ∀ {r}, T.1 14 r = nI c → T.1 14 r ≠ -1 := fun {r} h => by rw [h]; exact nI_ne_m1 (by omega)
  have s16 : ∀ r k, r < 24 → T.1 14 r = nI c → k < 6 → r6 ((vS T c).1 16) r k = r6 (T.1 34) r k := fun r k hr h14 hk => by rw [vS_16 _ _ _ _ hk, if_pos h14]
  have s16' : ∀ r k, r < 24 → T.1 14 r = nI c → k < 6 → r6 ((vS T' c).1 16) r k = r6 (T'.1 34) r k := fun r k hr h14 hk => by rw [vS_16 _ _ _ _ hk, if_pos ((clN r hr).mpr h14)]
  have f6 : ∀ k, k < 6 → r6 ((vS T c).1 6) c k = T.1 30 k := fun k hk => by rw [vS_s _ _ 6 _ _ (by omega) (by omega) hk, if_pos rfl]
  have f7 : ∀ k, k < 6 → r6 ((vS T c).1 7) c k = T.1 31 k := fun k hk => by rw [vS_s _ _ 7 _ _ (by omega) (by omega) hk, if_pos rfl]
  have f6' : ∀ k, k < 6 → r6 ((vS T' c).1 6) c k = T'.1 30 k := fun k hk => by rw [vS_s _ _ 6 _ _ (by omega) (by omega) hk, if_pos rfl]
  have f7' : ∀ k, k < 6 → r6 ((vS T' c).1 7) c k = T'.1 31 k := fun k hk => by rw [vS_s _ _ 7 _ _ (by omega) (by omega) hk, if_pos rfl]
  have f8' : ∀ k, k < 6 → r6 ((vS T' c).1 8) c k = T'.1 32 k := fun k hk => by rw [vS_s _ _ 8 _ _ (by omega) (by omega) hk, if_pos rfl]
  have o7 : ∀ g k, 5 ≤ g → g ≤ 8 → k < 6 → r6 ((vS T c).1 g) d k = r6 (T.1 g) d k := fun g k a b hk => by rw [vS_s _ _ g _ _ a b hk, if_neg c1]
  obtain ⟨⟨w', hw', ew'⟩, dse⟩ := ds_or w hw d hd4
  have hMI : MI K (vS T' c).1 := by
    refine MI_split (m := (vS T c).1) (m' := (vS T' c).1) hM (c := c) (d := d) (q := m) (p := p) (q1 := cn (kM T s) m) (ψ := ψ) (ln := ln) hc hd c1 e4 hm6 ((if_neg c1).trans hp) hp6 (fun k hk => by rw [o7 6 k (by omega) (by omega) (by omega)]; exact c2 k hk) ?_ ?_ (if_pos (Or.inl rfl)) ?_ (fun e he ee ed => ?_) ((if_pos rfl).trans g6) (fun e ee => ?_) (fun g a b e k ee hk => ?_) ?_ (fun r hr h14 => ?_) (fun r hr h14 r' hr' h14' => ?_) (fun r hr h14 => ?_) (fun r k hr h14 hk => ?_) (fun y hy hno => ?_) (fun y k hy hk hno hne => ?_) (fun g a b => ?_) ?_ ?_ (fun g a b => ?_) (fun r k hr h14 hk h0 => ?_) (fun k hk h1 => ?_) (fun k hk h2 => ?_) (fun k hk h2 k2 hk2 h22 e => ψinj k hk k2 hk2 e) ⟨?_, ?_, fun r hr h14 => ?_⟩
    · rw [vS_o _ _ 1 (by omega) (by omega) (by omega), vS_o _ _ 1 (by omega) (by omega) (by omega), g1 1 (by omega)]
    · rw [vS_o _ _ 2 (by omega) (by omega) (by omega), vS_o _ _ 2 (by omega) (by omega) (by omega), g1 2 (by omega)]
    · refine if_pos (Or.inr ?_)
      rw [g12, hds, dse d hd4]
      simp
    · show (if e = c ∨ dsB (T'.1 36 0) e = true then 0 else T'.1 3 e) = (if e = c ∨ dsB (T.1 36 0) e = true then 0 else T.1 3 e)
      rw [g12, hds, dse e he, g1 3 (by omega)]
      simp [ed]
    · show (if e = c then T'.1 28 0 else T'.1 4 e) = (if e = c then T.1 28 0 else T.1 4 e)
      rw [if_neg ee, if_neg ee, g1 4 (by omega)]
    · rw [vS_s _ _ g _ _ a b hk, vS_s _ _ g _ _ a b hk, if_neg ee, if_neg ee, g1 g (by omega)]
    · refine ⟨by omega, fun i hi j hj e => hSh'.2.1 i hi j hj ?_, fun i hi => ?_⟩
      · rw [vS_s _ _ 5 _ _ (by omega) (by omega) (by omega), vS_s _ _ 5 _ _ (by omega) (by omega) (by omega), if_pos rfl, if_pos rfl] at e
        exact e
      · rw [vS_s _ _ 5 _ _ (by omega) (by omega) (by omega), f6' i (by omega), f7' i (by omega), f8' i (by omega), if_pos rfl]
        exact hSh'.2.2 i hi
    · rw [v14] at h14 ⊢
      exact ⟨(g2 r hr h14).1, (g2 r hr h14).2.1⟩
    · rw [v14] at h14 h14'
      exact g3 r hr h14 r' hr' h14'
    · rw [v14] at h14
      rw [v14', vS_o _ _ 15 (by omega) (by omega) (by omega), vS_o _ _ 2 (by omega) (by omega) (by omega)]
      exact ⟨(g2 r hr h14).2.2.1, (g2 r hr h14).2.2.2.1⟩
    · rw [v14] at h14
      obtain ⟨b1, b2, b3, b4, b5⟩ := g2 r hr h14
      have hne : T'.1 14 (ln r) ≠ nI c := by
        rw [b3]
        exact fun e => c1 (nI_inj4 hd4 hc e)
      rw [o7 7 k (by omega) (by omega) (by omega), o7 8 k (by omega) (by omega) (by omega), vS_16 _ _ _ _ (by omega), if_neg hne, b5 k hk]
      obtain ⟨f1, f2, f3, f4, f5, f6⟩ := fdP_good hSh (c3 k hk)
      obtain ⟨v1, v2⟩ := (JM_val h hc hr (cB hr h14) f1).1 f4
      exact ⟨Int32.le_trans f5 v1, Int32.le_trans v2 f6⟩
    · rw [v14] at hno
      rw [v14', v14, vS_o _ _ 15 (by omega) (by omega) (by omega), vS_o _ _ 15 (by omega) (by omega) (by omega)]
      obtain ⟨a1, a2, -⟩ := g4 y hno
      exact ⟨a1, a2⟩
    · rw [v14] at hno hne
      have hne' : ¬ T'.1 14 y = nI c := fun e => hne ((clN y hy).mp e)
      rw [vS_16 _ _ _ _ hk, vS_16 _ _ _ _ hk, if_neg hne', if_neg hne]
      exact (g4 y hno).2.2 k hk
    · rw [vS_o _ _ g (by omega) (by omega) (by omega), vS_o _ _ g (by omega) (by omega) (by omega), g1 g (by omega)]
    · rw [vS_o _ _ 17 (by omega) (by omega) (by omega), vS_o _ _ 17 (by omega) (by omega) (by omega), g1 17 (by omega)]
    · rw [vS_o _ _ 19 (by omega) (by omega) (by omega), vS_o _ _ 19 (by omega) (by omega) (by omega), g1 19 (by omega)]
    · rw [vS_o _ _ g (by omega) (by omega) (by omega), vS_o _ _ g (by omega) (by omega) (by omega), g1 g (by omega)]
    · rw [v14] at h14
      rw [f6' k (by omega), rowk 30 k (by omega) (by omega) hk] at h0
      rw [f7' k (by omega), f8' k (by omega), s16' r k hr h14 (by omega), rowk 31 k (by omega) (by omega) hk, rowk 32 k (by omega) (by omega) hk, valk r k hr hk]
      exact (JM_val h hc hr (cB hr h14) (hψ k hk).1).1 h0
    · rw [f6' k (by omega), rowk 30 k (by omega) (by omega) hk] at h1
      have hi := (hψ k hk).1
      refine ⟨ψ k, hi, by rw [f6 _ (by omega)]; exact h1, fun r hr h14 => ?_⟩
      rw [v14] at h14
      rw [s16' r k hr h14 (by omega), s16 r _ hr h14 (by omega), valk r k hr hk]
    · rw [f6' k (by omega), rowk 30 k (by omega) (by omega) hk] at h2
      have hi := (hψ k hk).1
      refine ⟨hi, by rw [f6 _ (by omega)]; exact h2, by rw [f7' k (by omega), f7 _ (by omega), rowk 31 k (by omega) (by omega) hk], fun r hr h14 => ?_⟩
      rw [v14] at h14
      rw [s16' r k hr h14 (by omega), s16 r _ hr h14 (by omega), valk r k hr hk]
    · rw [f6' _ (by omega)]; exact g30
    · rw [f7' _ (by omega)]; exact g31
    · rw [v14] at h14
      rw [s16' r _ hr h14 (by omega)]
      exact g10 r hr h14
  refine ⟨hMI, by omega, g6, by rw [g1 27 (by omega)]; exact h27, by rw [g1 26 (by omega)]; exact h26, ⟨fun g hg => ?_, fun r hr => ?_, fun l hl => ?_⟩, fun r hr => (clN r hr).trans (hcl r hr), fun r k hr h14 hk => ?_, fun k hk => ?_, fun k hk k2 hk2 e1 e2 => ?_, Or.inr g11, ⟨w', hw', by rw [g12, hds]; exact ew', fun e he h => by
    rw [← ew', dse e he] at h
    rcases (Bool.or_eq_true _ _).mp h with h | h
    · exact hdK e he h
    · rw [of_decide_eq_true h]; exact hd⟩, fun e => absurd (g11.symm.trans e) one_ne⟩
  · rw [g1 g (by omega)]; exact hfr.1 g hg
  · obtain ⟨a1, a2, -⟩ := g4 r (fun r0 hr0 h0 e => by have := (g2 r0 hr0 h0).1; omega)
    rw [a1, a2]; exact hfr.2.1 r hr
  · have := (g4 (l / 6) (fun r0 hr0 h0 e => by have := (g2 r0 hr0 h0).1; omega)).2.2 (l % 6) (by omega)
    unfold r6 at this
    rw [show 6 * (l / 6) + l % 6 = l by omega] at this
    rw [this]; exact hfr.2.2 l hl
  · have hT := (hcl r hr).mpr h14
    obtain ⟨a1, a2, a3⟩ := g4 r (nln (lc hT))
    rw [a2, a3 k hk]
    exact hcv r k hr h14 hk
  · by_cases ek : k = cn (kM T s) m
    · exact Or.inl (by rw [ek]; exact g33)
    · have hk' : k < cn (kM T s) m := by omega
      rw [rowk 33 k (by omega) (by omega) hk', rowk 30 k (by omega) (by omega) hk', rowk 31 k (by omega) (by omega) hk']
      rcases hor (ψ k) (hψ k hk').1 with e | ⟨o, o1, o2, o3, o4⟩
      · exact Or.inl e
      · refine Or.inr ⟨o, o1, o2, o3, fun hne => ⟨(o4 hne).1, fun r hr h14 => ?_⟩⟩
        rw [valk r k hr hk']
        exact (o4 hne).2 r hr h14
  · by_cases ek : k = cn (kM T s) m
    · rw [ek, g33] at e2
      exact absurd rfl e2
    · by_cases ek2 : k2 = cn (kM T s) m
      · rw [e1, ek2, g33] at e2
        exact absurd rfl e2
      · have h1 : k < cn (kM T s) m := by omega
        have h2 : k2 < cn (kM T s) m := by omega
        rw [rowk 33 k (by omega) (by omega) h1, rowk 33 k2 (by omega) (by omega) h2] at e1
        rw [rowk 33 k (by omega) (by omega) h1] at e2
        exact ψinj k h1 k2 h2 (hoi _ (hψ k h1).1 _ (hψ k2 h2).1 e1 e2)
