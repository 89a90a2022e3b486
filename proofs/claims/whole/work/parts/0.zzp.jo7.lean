/-! ===== change: a part is joined back: the class beside the reference ===== -/
theorem C_join {n i j K d p x k0 : Nat} {B T T' : MSt} {D S : CSt} {σ pt : Nat → Nat} {c m0 m L1 : Nat} (hn : 24 < n) (hM : JM K B T c m0 m) (h : JC j K B D σ c m0 S T m L1) (hc : c < 4) (hd : d < K) (hp : T.1 4 d = nI p) (hp6 : p ≤ 6) (h22 : S.1 22 i 0 = 6) (h23 : S.1 23 i 0 = nI x) (hx : x < 10) (hk0 : k0 < m) (ha : T.1 29 k0 = nI x) (h2 : T.1 30 k0 = 2) (h31 : T.1 31 k0 = nI d) (hpt : ∀ r, r < 24 → T.1 14 r = nI c → pt r < 24 ∧ r6 (T.1 34) r k0 = nI (pt r) ∧ T.1 14 (pt r) = nI d) (hC : CanJ T c d p m k0) (hJ : JoiM T T' c d p m k0 pt) : Ok (m_X7_barTakeBackOfPart n S i) (fun S0 => Ok (m_X7_moveAll n S0 i (nI c)) (fun S1 => Ok (m_X7_reshape n S1 i) (fun S' => JC j K B D σ c m0 S' T' (m - 1 + p) L1))) := by
  have hSh := JM_sh hM hc
  obtain ⟨hMI, hm6, hm, h27, h26, hfr, hcl, hcv, hor, hoi, hmx, ⟨w, hw, hds, -⟩, hmix⟩ := id hM
  obtain ⟨σ', τ', L', hL, hCR, hDE, hσ, hbf, hsb, hst⟩ := id h
  have hK4 : K ≤ 4 := hMI.1.1
  have hd4 : d < 4 := by omega
  obtain ⟨c1, c2, c3, c4, c5⟩ := hC
  obtain ⟨g1, g2, g3, g4, g5, g6, g7, g8, g9, g10⟩ := hJ
  have v14 : (vS T c).1 14 = T.1 14 := vS_o T c 14 (by omega) (by omega) (by omega)
  have u : ∀ g, g < 4 ∨ 10 < g → (uS S c).1 g = S.1 g := fun g hg => uS_o S c g hg
  have hrec := hCR.2.2.2.1
  rw [v14, u 13 (by omega), u 14 (by omega), u 15 (by omega)] at hrec
  have cB : ∀ {r}, r < 24 → T.1 14 r = nI c → B.1 14 r = nI c := fun {r} hr h14 => (hcl r hr).mp h14
  have lc : ∀ {r}, T.1 14 r = nI c → T.1 14 r ≠ -1 := fun {r} h => by rw [h]; exact nI_ne_m1 (by omega)
  have e4 : (vS T c).1 4 c = nI m := (if_pos rfl).trans hm
  have f6 : ∀ k, k < 6 → r6 ((vS T c).1 6) c k = T.1 30 k := fun k hk => by rw [vS_s _ _ 6 _ _ (by omega) (by omega) hk, if_pos rfl]
  have f7 : ∀ k, k < 6 → r6 ((vS T c).1 7) c k = T.1 31 k := fun k hk => by rw [vS_s _ _ 7 _ _ (by omega) (by omega) hk, if_pos rfl]
  have f6' : ∀ k, k < 6 → r6 ((vS T' c).1 6) c k = T'.1 30 k := fun k hk => by rw [vS_s _ _ 6 _ _ (by omega) (by omega) hk, if_pos rfl]
  have s16 : ∀ r k, r < 24 → T.1 14 r = nI c → k < 6 → r6 ((vS T c).1 16) r k = r6 (T.1 34) r k := fun r k hr h14 hk => by rw [vS_16 _ _ _ _ hk, if_pos h14]
  have hpt' : ∀ r, r < 24 → (vS T c).1 14 r = nI c → pt r < 24 ∧ r6 ((vS T c).1 16) r k0 = nI (pt r) := fun r hr h14 => by
    rw [v14] at h14
    rw [s16 r k0 hr h14 (by omega)]
    exact ⟨(hpt r hr h14).1, (hpt r hr h14).2.1⟩
  obtain ⟨hcd, ow, pinj⟩ := join_own hMI hc e4 hm6 hk0 (by rw [f6 _ (by omega)]; exact h2) (by rw [f7 _ (by omega)]; exact h31) hd4 hpt'
  rw [v14] at pinj
  have clN : ∀ r, r < 24 → (T'.1 14 r = nI c ↔ T.1 14 r = nI c) := fun r hr => by
    by_cases hn' : ∃ r0, r0 < 24 ∧ T.1 14 r0 = nI c ∧ r = pt r0
    · obtain ⟨r0, a1, a3, a4⟩ := hn'
      rw [a4, g2 r0 a1 a3, (hpt r0 a1 a3).2.2]
      exact ⟨fun h => absurd h (m1_ne_nI (by omega)), fun h => absurd (nI_inj4 hd4 hc h) hcd⟩
    · rw [g3 r (fun r0 a1 a3 a4 => hn' ⟨r0, a1, a3, a4⟩)]
  have s16' : ∀ r k, r < 24 → T.1 14 r = nI c → k < 6 → r6 ((vS T' c).1 16) r k = r6 (T'.1 34) r k := fun r k hr h14 hk => by rw [vS_16 _ _ _ _ hk, if_pos ((clN r hr).mpr h14)]
  have pl : ∀ r, r < 24 → T.1 14 r = nI c → T.1 14 (pt r) ≠ -1 := fun r hr h14 => by rw [(hpt r hr h14).2.2]; exact nI_ne_m1 (by omega)
  -- the first row
  have hpl := plc_eq hSh.2.1 hk0 ha
  have hbar : m_X7_barTakeBackOfPart n S i = some (sI S 4 d 0 0) := by
    unfold m_X7_barTakeBackOfPart
    obtain ⟨d6, d7, d8, d9, d10⟩ := hDE.2.2.2 k0 hk0
    rw [h22, if_pos (show ¬ (6 : Int32) = 5 by decide), h23, q_place8 (by omega) hDE hSh, hpl, Option.bind_some, q_isOwn hm6 hDE.2.1 hk0, d7, if_pos h2, Option.bind_some, if_neg one_ne, inB_nI (by omega) (by omega), cond_true, nI_clamp (by omega), d8, h31, inB_nI hd4 (by omega), cond_true, nI_clamp (by omega)]
    rfl
  refine ok_eq hbar ?_
  generalize hS0 : sI S 4 d 0 0 = S0
  have a : ∀ g, g ≠ 4 → S0.1 g = S.1 g := fun g hg => by
    funext j l
    rw [← hS0, sI_at, if_neg (fun h => hg h.1)]
  have a4 : ∀ j l, S0.1 4 j l = if j = d ∧ l = 0 then 0 else S.1 4 j l := fun j l => by
    rw [← hS0, sI_at]
    by_cases e : j = d ∧ l = 0
    · rw [if_pos ⟨rfl, e⟩, if_pos e]
    · rw [if_neg (fun q => e q.2), if_neg e]
  have hDE0 : DE S0 T m := by
    refine ⟨hDE.1, by rw [a 5 (by omega)]; exact hDE.2.1, hDE.2.2.1, fun k hk => ?_⟩
    rw [a 6 (by omega), a 7 (by omega), a 8 (by omega), a 9 (by omega), a 10 (by omega)]
    exact hDE.2.2.2 k hk
  have isC0 : ∀ e, isC S0 e c ↔ isC S e c := fun e => by unfold isC; rw [a 13 (by omega), a 14 (by omega)]
  -- the shape of the part's class
  have hSd : ShC (S.1 5) (S.1 6) (S.1 7) (S.1 8) (S.1 9) (2 * d) p (r6 (T.1 5) d) (r6 (T.1 6) d) (r6 (T.1 7) d) (r6 (T.1 8) d) := by
    have hne : 2 * d ≠ 2 * c := by omega
    obtain ⟨q1, q2⟩ := hCR.2.1 d p hd4 hp6 ((if_neg hcd).trans hp)
    rw [uS_s S c 5 _ (by omega) (by omega), if_neg hne] at q1
    refine ⟨q1, fun k hk => ?_⟩
    have := q2 k hk
    rw [uS_s S c 6 _ (by omega) (by omega), uS_s S c 7 _ (by omega) (by omega), uS_s S c 8 _ (by omega) (by omega), uS_s S c 9 _ (by omega) (by omega), if_neg hne, if_neg hne, if_neg hne, if_neg hne, vS_s _ _ 5 _ _ (by omega) (by omega) (by omega), vS_s _ _ 6 _ _ (by omega) (by omega) (by omega), vS_s _ _ 7 _ _ (by omega) (by omega) (by omega), vS_s _ _ 8 _ _ (by omega) (by omega) (by omega), if_neg hcd, if_neg hcd, if_neg hcd, if_neg hcd] at this
    exact this
  have h11 : S.1 11 0 0 = nI (cn (fun e => !decide (S.1 13 e 0 = 0)) 24) := by
    have : (uS S c).1 11 0 0 = nI (cn (fun r => !decide ((vS T c).1 14 r = -1)) 24) := hCR.2.2.2.2.2.1
    rw [u 11 (by omega), v14, cnt_rec hrec] at this
    exact this
  -- a record of the class, its part
  have recE : ∀ e, e < 24 → isC S e c → τ' e < 24 ∧ T.1 14 (τ' e) = nI c ∧ σ' (τ' e) = e := fun e he hC => by
    obtain ⟨t1, t2, t3⟩ := hrec.2 e he hC.1
    have := (hrec.1 (τ' e) t1 t3).2.2.2.1
    rw [t2, hC.2] at this
    exact ⟨t1, this.symm, t2⟩
  have recR : ∀ r, r < 24 → T.1 14 r = nI c → σ' r < 24 ∧ isC S (σ' r) c ∧ τ' (σ' r) = r := fun r hr h14 => by
    obtain ⟨b1, b2, b3, b4, -⟩ := hrec.1 r hr (lc h14)
    exact ⟨b1, ⟨b3, b4.trans h14⟩, b2⟩
  have hpe : ∀ e, e < 24 → isC S0 e c → σ' (pt (τ' e)) < 24 ∧ S0.1 17 e k0 = S0.1 13 (σ' (pt (τ' e))) 0 ∧ S0.1 13 (σ' (pt (τ' e))) 0 ≠ 0 ∧ S0.1 14 (σ' (pt (τ' e))) 0 = nI d := fun e he hC => by
    obtain ⟨t1, t2, t3⟩ := recE e he ((isC0 e).mp hC)
    obtain ⟨x1, x2, x3⟩ := hpt (τ' e) t1 t2
    obtain ⟨b1, b2, b3, b4, -⟩ := hrec.1 (pt (τ' e)) x1 (pl _ t1 t2)
    rw [a 13 (by omega), a 14 (by omega), a 17 (by omega)]
    refine ⟨b1, ?_, b3, b4.trans x3⟩
    have hv := hCR.2.2.2.2.2.2.1 (τ' e) c k0 2 ⟨t1, hc, t2, ⟨m, hm6, e4, hk0⟩, by rw [f6 _ (by omega)]; exact h2⟩
    rw [if_neg (by decide), u 17 (by omega), u 13 (by omega), t3, s16 (τ' e) k0 t1 t2 (by omega), x2, tr_nI _ _ x1] at hv
    exact hv
  refine ok_mono (q_joinAll (n := n) (S := S0) (T := T) (K := K) (c := c) (d := d) (p := p) (m := m) (k0 := k0) (i := i) (x := x) (pe := fun e => σ' (pt (τ' e))) hn hc hd4 hcd hDE0 hSh hk0 ha hx h2 (by rw [a 22 (by omega)]; exact h22) (by rw [a 23 (by omega)]; exact h23) (by rw [a 5 (by omega)]; exact hSd.1) c4 (by rw [a 11 (by omega), a 13 (by omega)]; exact h11) (fun y hy hl y' hy' e => ?_) hpe (fun e he hCe e' he' hCe' eq => ?_)) (fun S1 hS1 => ?_)
  · rw [a 13 (by omega)] at hl e
    have := hCR.2.2.2.2.1.2.2.2
    rw [u 13 (by omega)] at this
    exact this y hy hl y' hy' e
  · obtain ⟨t1, t2, t3⟩ := recE e he ((isC0 e).mp hCe)
    obtain ⟨t1', t2', t3'⟩ := recE e' he' ((isC0 e').mp hCe')
    have q1 := (hrec.1 _ (hpt _ t1 t2).1 (pl _ t1 t2)).2.1
    have q2 := (hrec.1 _ (hpt _ t1' t2').1 (pl _ t1' t2')).2.1
    have : pt (τ' e) = pt (τ' e') := by rw [← q1, ← q2]; exact congrArg τ' eq
    rw [← t3, ← t3', pinj _ t1 t2 _ t1' t2' this]
  obtain ⟨i1, i2, i3, i4, i5⟩ := hS1
  have i1' : ∀ g, g ≠ 4 → g ≠ 11 → g ≠ 13 → g ≠ 17 → S1.1 g = S.1 g := fun g n4 n11 n13 n17 => by rw [i1 g n11 n13 n17, a g n4]
  have hDE1 : DE S1 T m := by
    refine ⟨hDE.1, by rw [i1' 5 (by omega) (by omega) (by omega) (by omega)]; exact hDE.2.1, hDE.2.2.1, fun k hk => ?_⟩
    rw [i1' 6 (by omega) (by omega) (by omega) (by omega), i1' 7 (by omega) (by omega) (by omega) (by omega), i1' 8 (by omega) (by omega) (by omega) (by omega), i1' 9 (by omega) (by omega) (by omega) (by omega), i1' 10 (by omega) (by omega) (by omega) (by omega)]
    exact hDE.2.2.2 k hk
  refine ok_mono (R_join (n := n) (i := i) (d := d) (p := p) (k0 := k0) (x := x) (S := S1) (T := T) (T' := T') (by omega) hDE1 hSh hd4 (by rw [i1' 22 (by omega) (by omega) (by omega) (by omega)]; exact h22) (by rw [i1' 23 (by omega) (by omega) (by omega) (by omega)]; exact h23) hx hk0 ha h2 h31 (by rw [i1' 5 (by omega) (by omega) (by omega) (by omega), i1' 6 (by omega) (by omega) (by omega) (by omega), i1' 7 (by omega) (by omega) (by omega) (by omega), i1' 8 (by omega) (by omega) (by omega) (by omega), i1' 9 (by omega) (by omega) (by omega) (by omega)]; exact hSd) c2 c4 g4 g5 g6) (fun S' hS' => ?_)
  obtain ⟨hd', hfr'⟩ := hS'
  have j3 : ∀ r, r < 24 → T.1 14 r = nI c → S1.1 13 (σ' (pt r)) 0 = 0 ∧ (∀ i, i < m - 1 → S1.1 17 (σ' r) i = S.1 17 (σ' r) (sk k0 i)) ∧ ∀ k, k < p → S1.1 17 (σ' r) (m - 1 + k) = S.1 17 (σ' (pt r)) k := fun r hr h14 => by
    obtain ⟨b1, b2, b3⟩ := recR r hr h14
    have := i3 (σ' r) b1 b1 ((isC0 _).mpr b2)
    dsimp only at this
    rw [b3, a 17 (by omega)] at this
    exact this
  have j4 : ∀ y, (∀ r, r < 24 → T.1 14 r = nI c → y ≠ σ' (pt r)) → S1.1 13 y 0 = S.1 13 y 0 := fun y hno => by
    rw [i4 y (fun e he _ hCe => by
      obtain ⟨t1, t2, t3⟩ := recE e he ((isC0 e).mp hCe)
      exact hno (τ' e) t1 t2), a 13 (by omega)]
  obtain ⟨⟨w', hw', ew'⟩, dse⟩ := ds_or w hw d hd4
  have u' : ∀ g, g < 4 ∨ 10 < g → (uS S' c).1 g = S1.1 g := fun g hg => by rw [uS_o S' c g hg, hfr'.1 g (by omega)]
  have p4 : ∀ e, S'.1 4 e 0 = if e = d then 0 else S.1 4 e 0 := fun e => by
    rw [hfr'.1 4 (by omega), i1 4 (by omega) (by omega) (by omega), a4]
    by_cases ee : e = d
    · rw [if_pos ⟨ee, rfl⟩, if_pos ee]
    · rw [if_neg (fun q => ee q.1), if_neg ee]
  have u4 : ∀ (Z : CSt) e, (uS Z c).1 4 e 0 = if e = c then 0 else Z.1 4 e 0 := fun Z e => by
    show (if e = c ∧ 0 = 0 then (0 : Int32) else Z.1 4 e 0) = _
    by_cases ee : e = c
    · rw [if_pos ⟨ee, rfl⟩, if_pos ee]
    · rw [if_neg (fun q => ee q.1), if_neg ee]
  have skl : ∀ k, k < m - 1 → sk k0 k < m ∧ sk k0 k ≠ k0 := fun k hk => by unfold sk; split <;> omega
  refine ⟨σ', τ', L', hL, ?_, hd', hσ, fun r k hr h14 hk => ?_, ?_, fun g hg => ?_, fun e => absurd (g9.symm.trans e) one_ne⟩
  · refine CR_join (m := (vS T c).1) (m' := (vS T' c).1) (s := (uS S c).1) (s' := (uS S' c).1) hMI hCR (c := c) (d := d) (q := m) (q' := m - 1 + p) (k0 := k0) (pt := pt) hc e4 hm6 c4 hk0 (by rw [f6 _ (by omega)]; exact h2) (by rw [f7 _ (by omega)]; exact h31) hd4 hpt' (fun i r hi hr h14 e => ?_) ?_ (if_pos (Or.inl rfl)) ?_ (fun e he ee ed => ?_) ((if_pos rfl).trans g4) (fun e ee => ?_) (fun g a b e k ee hk => ?_) (fun r hr h14 => ?_) (fun y hy hno => ?_) ?_ (fun y k hy hk hne => ?_) (fun g a b => ?_) ?_ ?_ (fun g a b => ?_) (fun k hk h0 => ?_) (fun g n1 n2 n3 n4 n5 n6 => ?_) ((u4 S' c).trans (if_pos rfl)) ?_ (fun e ee ed => ?_) (fun g j' b1 b2 hj' hne => ?_) ⟨?_, fun k hk => ?_⟩ (fun r hr h14 => ?_) (fun y hy hno => ?_) ?_ (fun r k hr hl hne hk => ?_) (fun r k hr h14 hk => ?_)
    · rw [v14] at h14
      rw [vS_o _ _ 19 (by omega) (by omega) (by omega)] at e
      exact c3 ⟨r, i, hr, hi, h14, by rw [e]; exact nI_pos (by have := (hpt r hr h14).1; omega), e.trans (hpt r hr h14).2.1.symm⟩
    · rw [vS_o _ _ 2 (by omega) (by omega) (by omega), vS_o _ _ 2 (by omega) (by omega) (by omega), g1 2 (by omega)]
    · refine if_pos (Or.inr ?_)
      rw [g10, hds, dse d hd4]
      simp
    · show (if e = c ∨ dsB (T'.1 36 0) e = true then 0 else T'.1 3 e) = (if e = c ∨ dsB (T.1 36 0) e = true then 0 else T.1 3 e)
      rw [g10, hds, dse e he, g1 3 (by omega)]
      simp [ed]
    · show (if e = c then T'.1 28 0 else T'.1 4 e) = (if e = c then T.1 28 0 else T.1 4 e)
      rw [if_neg ee, if_neg ee, g1 4 (by omega)]
    · rw [vS_s _ _ g _ _ a b hk, vS_s _ _ g _ _ a b hk, if_neg ee, if_neg ee, g1 g (by omega)]
    · rw [v14] at h14
      rw [vS_o T' c 14 (by omega) (by omega) (by omega)]
      exact g2 r hr h14
    · rw [v14] at hno
      rw [vS_o T' c 14 (by omega) (by omega) (by omega), v14]
      exact g3 y hno
    · rw [vS_o _ _ 15 (by omega) (by omega) (by omega), vS_o _ _ 15 (by omega) (by omega) (by omega), g1 15 (by omega)]
    · rw [v14] at hne
      have hne' : ¬ T'.1 14 y = nI c := fun e => hne ((clN y hy).mp e)
      rw [vS_16 _ _ _ _ hk, vS_16 _ _ _ _ hk, if_neg hne', if_neg hne, g1 16 (by omega)]
    · rw [vS_o _ _ g (by omega) (by omega) (by omega), vS_o _ _ g (by omega) (by omega) (by omega), g1 g (by omega)]
    · rw [vS_o _ _ 17 (by omega) (by omega) (by omega), vS_o _ _ 17 (by omega) (by omega) (by omega), g1 17 (by omega)]
    · rw [vS_o _ _ 19 (by omega) (by omega) (by omega), vS_o _ _ 19 (by omega) (by omega) (by omega), g1 19 (by omega)]
    · rw [vS_o _ _ g (by omega) (by omega) (by omega), vS_o _ _ g (by omega) (by omega) (by omega), g1 g (by omega)]
    · rw [f6' k (by omega)] at h0
      by_cases ek : k < m - 1
      · rw [g5 30 k (by omega) (by omega) ek] at h0
        obtain ⟨s1, s2⟩ := skl k ek
        refine ⟨sk k0 k, s1, s2, by rw [f6 _ (by omega)]; exact h0, fun r hr h14 => ?_⟩
        rw [v14] at h14
        rw [s16' r k hr h14 (by omega), s16 r _ hr h14 (by omega), g7 r k hr ek]
      · have := (g6 (k - (m - 1)) (by omega)).2.1
        rw [show m - 1 + (k - (m - 1)) = k by omega] at this
        exact absurd this h0
    · rw [uS_o S' c g (by omega), uS_o S c g (by omega), hfr'.1 g (by omega), i1' g n1 n2 n3 n4]
    · rw [u4, if_neg hcd, p4, if_pos rfl]
    · rw [u4, u4, if_neg ee, if_neg ee, p4, if_neg ed]
    · rw [uS_s S' c g _ (by omega) (by omega), uS_s S c g _ (by omega) (by omega), if_neg hne, if_neg hne, hfr'.2 g j' (by omega) (by omega) (by omega), i1' g (by omega) (by omega) (by omega) (by omega)]
    · rw [uS_s S' c 5 _ (by omega) (by omega), if_pos rfl]
      exact hd'.2.1
    · rw [uS_s S' c 6 _ (by omega) (by omega), uS_s S' c 7 _ (by omega) (by omega), uS_s S' c 8 _ (by omega) (by omega), uS_s S' c 9 _ (by omega) (by omega), if_pos rfl, if_pos rfl, if_pos rfl, if_pos rfl, vS_s _ _ 5 _ _ (by omega) (by omega) (by omega), vS_s _ _ 6 _ _ (by omega) (by omega) (by omega), vS_s _ _ 7 _ _ (by omega) (by omega) (by omega), vS_s _ _ 8 _ _ (by omega) (by omega) (by omega), if_pos rfl, if_pos rfl, if_pos rfl, if_pos rfl]
      obtain ⟨z1, z2, z3, z4, z5⟩ := hd'.2.2.2 k hk
      exact ⟨z1, z2, z3, z4⟩
    · rw [v14] at h14
      rw [u' 13 (by omega)]
      exact (j3 r hr h14).1
    · rw [v14] at hno
      rw [u' 13 (by omega), u 13 (by omega)]
      exact j4 y hno
    · rw [u' 11 (by omega), u' 13 (by omega)]
      exact i2
    · rw [v14] at hl hne
      obtain ⟨b1, b2, b3, b4, -⟩ := hrec.1 r hr hl
      rw [u 17 (by omega), u' 17 (by omega), i5 (σ' r) (fun hh => hne (by rw [← b4]; exact ((isC0 _).mp hh.2.2).2)), a 17 (by omega)]
    · rw [v14] at h14
      obtain ⟨x1, x2, x3⟩ := j3 r hr h14
      rw [u' 17 (by omega), f6' k (by omega), s16' r k hr h14 (by omega)]
      by_cases ek : k < m - 1
      · obtain ⟨s1, s2⟩ := skl k ek
        have hv := hCR.2.2.2.2.2.2.1 r c (sk k0 k) (T.1 30 (sk k0 k)) ⟨hr, hc, h14, ⟨m, hm6, e4, s1⟩, f6 _ (by omega)⟩
        rw [u 17 (by omega), s16 r _ hr h14 (by omega)] at hv
        rw [x2 k ek, g5 30 k (by omega) (by omega) ek, g7 r k hr ek]
        exact hv
      · obtain ⟨z1, z2, z3, z4, -⟩ := g6 (k - (m - 1)) (by omega)
        have z8 := g8 r (k - (m - 1)) hr h14 (by omega)
        have zz := x3 (k - (m - 1)) (by omega)
        rw [show m - 1 + (k - (m - 1)) = k by omega] at z2 z8 zz
        rw [z2, if_pos rfl, z8, zz]
        obtain ⟨y1, y2, y3⟩ := hpt r hr h14
        have hne : ¬ T.1 14 (pt r) = nI c := by rw [y3]; exact fun e => hcd (nI_inj4 hd4 hc e)
        have hv := hCR.2.2.2.2.2.2.1 (pt r) d (k - (m - 1)) 0 ⟨y1, hd4, by rw [v14]; exact y3, ⟨p, hp6, (if_neg hcd).trans hp, by omega⟩, by rw [vS_s _ _ 6 _ _ (by omega) (by omega) (by omega), if_neg hcd]; exact c2 _ (by omega)⟩
        rw [u 17 (by omega), if_pos rfl, vS_16 _ _ _ _ (by omega), if_neg hne] at hv
        exact hv
  · rw [hfr'.1 18 (by omega), i1' 18 (by omega) (by omega) (by omega) (by omega)]
    exact hbf r k hr h14 hk
  · have : ∀ g, 5 ≤ g → g ≤ 9 → S'.1 g (2 * c + 1) = S.1 g (2 * c + 1) := fun g b1 b2 => by rw [hfr'.2 g _ b1 (by omega) (by omega), i1' g (by omega) (by omega) (by omega) (by omega)]
    unfold ShC
    rw [this 5 (by omega) (by omega), this 6 (by omega) (by omega), this 7 (by omega) (by omega), this 8 (by omega) (by omega), this 9 (by omega) (by omega)]
    exact hsb
  · rw [hfr'.1 g (by omega), i1' g (by omega) (by omega) (by omega) (by omega)]
    exact hst.1 g hg
