/-! ===== change: the reference behind a change ===== -/
theorem SetV {T W : MSt} {c : Nat} (h : SetM T W c) : (∀ g, g < 2 ∨ g = 14 ∨ g = 15 ∨ 17 < g → W.1 g = (vS T c).1 g) ∧ W.1 4 = (vS T c).1 4 ∧ (∀ g d k, 5 ≤ g → g ≤ 8 → k < 6 → r6 (W.1 g) d k = r6 ((vS T c).1 g) d k) ∧ ∀ r k, r < 24 → k < 6 → r6 (W.1 16) r k = r6 ((vS T c).1 16) r k := by
  obtain ⟨a1, a2, a3, a4, a5, a6, a7, a8⟩ := h
  refine ⟨fun g hg => by rw [a1 g hg, vS_o _ _ g (by omega) (by omega) (by omega)], ?_, fun g d k g1 g2 hk => by rw [a6 g d k g1 g2 hk, vS_s _ _ g _ _ g1 g2 hk], fun r k hr hk => by rw [(a8 r k hr hk).1, vS_16 _ _ _ _ hk]⟩
  funext d
  exact a4 d
theorem Fld_iff {m4 m6 m14 m4' m6' m14' : Nat → Int32} (h4 : m4' = m4) (h6 : ∀ d k, k < 6 → r6 m6' d k = r6 m6 d k) (h14 : m14' = m14) {r c k : Nat} {q : Int32} : Fld m4' m6' m14' r c k q ↔ Fld m4 m6 m14 r c k q := by
  constructor
  · rintro ⟨x1, x2, x3, ⟨m, y1, y2, y3⟩, x5⟩
    exact ⟨x1, x2, by rw [← h14]; exact x3, ⟨m, y1, by rw [← h4]; exact y2, y3⟩, by rw [← h6 c k (by omega)]; exact x5⟩
  · rintro ⟨x1, x2, x3, ⟨m, y1, y2, y3⟩, x5⟩
    exact ⟨x1, x2, by rw [h14]; exact x3, ⟨m, y1, by rw [h4]; exact y2, y3⟩, by rw [h6 c k (by omega)]; exact x5⟩
theorem Own_iff {m4 m6 m14 m16 m4' m6' m14' m16' : Nat → Int32} (h4 : m4' = m4) (h6 : ∀ d k, k < 6 → r6 m6' d k = r6 m6 d k) (h14 : m14' = m14) (h16 : ∀ r k, r < 24 → k < 6 → r6 m16' r k = r6 m16 r k) {r k p : Nat} : Own m4' m6' m14' m16' r k p ↔ Own m4 m6 m14 m16 r k p := by
  constructor
  · rintro ⟨c, h1, h2⟩
    have h1' := (Fld_iff h4 h6 h14).mp h1
    exact ⟨c, h1', by rw [← h16 r k h1.1 (Fld_lt h1)]; exact h2⟩
  · rintro ⟨c, h1, h2⟩
    exact ⟨c, (Fld_iff h4 h6 h14).mpr h1, by rw [h16 r k h1.1 (Fld_lt h1)]; exact h2⟩
/-- nobody owns behind a change what nobody owned before -/
theorem set_own {K : Nat} {B T : MSt} {c m0 m : Nat} (hc : c < 4) (hM : JM K B T c m0 m) (hB4 : B.1 4 c = nI m0) (hm0 : m0 ≤ 6) (h35 : T.1 35 0 = 0) {r k p : Nat} (h : Own ((vS T c).1 4) ((vS T c).1 6) ((vS T c).1 14) ((vS T c).1 16) r k p) : ∃ k', Own (B.1 4) (B.1 6) (B.1 14) (B.1 16) r k' p := by
  obtain ⟨hMI, hm6, hm, h27, h26, hfr, hcl, hcv, hor, hoi, hmx, -, hmix⟩ := hM
  obtain ⟨-, e14, -, e16, e33, -⟩ := hmix h35
  obtain ⟨d, hF, hv⟩ := h
  have hk6 := Fld_lt hF
  obtain ⟨hr, hd, h14, ⟨w, hw6, hw, hk⟩, hx⟩ := hF
  have v14 : (vS T c).1 14 = T.1 14 := vS_o T c 14 (by omega) (by omega) (by omega)
  rw [v14, e14] at h14
  rw [vS_s _ _ 6 _ _ (by omega) (by omega) hk6] at hx
  rw [vS_16 _ _ _ _ hk6, e14, e16] at hv
  have hw' : (if d = c then T.1 28 0 else T.1 4 d) = nI w := hw
  by_cases e : d = c
  · subst e
    rw [if_pos rfl, hm] at hw'
    have ew : m = w := (nI_eq (by omega) (by omega)).mp hw'
    rw [if_pos rfl] at hx
    rw [if_pos h14] at hv
    obtain ⟨o, o1, o2, o3, o4⟩ := (hor k (by omega)).resolve_left (e33 k (by omega) hx)
    have hx' : T.1 30 k = 2 := hx
    refine ⟨o, d, ⟨hr, hd, h14, ⟨m0, hm0, hB4, o1⟩, by rw [o3, hx']⟩, ?_⟩
    rw [← (o4 (by rw [hx']; decide)).2 r hr h14]
    exact hv
  · rw [if_neg e, hfr.1 4 (by omega)] at hw'
    rw [if_neg e, hfr.1 6 (by omega)] at hx
    rw [if_neg (fun h => e (nI_inj4 hd hc (h14.symm.trans h)))] at hv
    exact ⟨k, d, ⟨hr, hd, h14, ⟨w, hw6, hw', hk⟩, hx⟩, hv⟩
theorem Sh_iff {K m : Nat} {na kd lo hi na' kd' lo' hi' : Nat → Int32} (h1 : ∀ k, k < 6 → na' k = na k) (h2 : ∀ k, k < 6 → kd' k = kd k) (h3 : ∀ k, k < 6 → lo' k = lo k) (h4 : ∀ k, k < 6 → hi' k = hi k) (h : Sh K m na kd lo hi) : Sh K m na' kd' lo' hi' := by
  obtain ⟨a1, a2, a3⟩ := h
  refine ⟨a1, fun i hi j hj e => a2 i hi j hj ?_, fun i hi => ?_⟩
  · rw [← h1 i (by omega), ← h1 j (by omega)]
    exact e
  · rw [h1 i (by omega), h2 i (by omega), h3 i (by omega), h4 i (by omega)]
    exact a3 i hi
theorem set_old {K : Nat} {B T W : MSt} {c m0 m : Nat} (hc : c < 4) (hMB : MI K B.1) (hB4 : B.1 4 c = nI m0) (hm0 : m0 ≤ 6) (hM : JM K B T c m0 m) (h : SetM T W c) (h35 : T.1 35 0 = 0) : Oldv (W.1 4) (W.1 6) (W.1 7) (W.1 8) (W.1 11) (W.1 12) (W.1 13) (W.1 14) (W.1 16) (W.1 17) c m0 := by
  obtain ⟨vo, v4, vs, v16⟩ := SetV h
  obtain ⟨a1, a2, a3, a4, a5, a6, a7, a8⟩ := h
  obtain ⟨hMI, hm6, hm, h27, h26, hfr, hcl, hcv, hor, hoi, hmx, -, hmix⟩ := id hM
  obtain ⟨-, e14, -, e16, e33, e33'⟩ := hmix h35
  have w14 : W.1 14 = B.1 14 := by rw [a1 14 (by omega), e14]
  have w11 : ∀ k, k < 6 → r6 (W.1 11) c k = r6 (B.1 6) c k := fun k hk => by
    rw [a7 11 c k (by omega) (by omega) hk, if_pos rfl, hfr.1 (11 - 5) (by omega)]
  have w12 : ∀ k, k < 6 → r6 (W.1 12) c k = r6 (B.1 7) c k := fun k hk => by
    rw [a7 12 c k (by omega) (by omega) hk, if_pos rfl, hfr.1 (12 - 5) (by omega)]
  have w13 : ∀ k, k < 6 → r6 (W.1 13) c k = r6 (B.1 8) c k := fun k hk => by
    rw [a7 13 c k (by omega) (by omega) hk, if_pos rfl, hfr.1 (13 - 5) (by omega)]
  have w17 : ∀ r k, r < 24 → k < 6 → B.1 14 r = nI c → r6 (W.1 17) r k = r6 (B.1 16) r k := fun r k hr hk h14 => by
    rw [(a8 r k hr hk).2, if_pos (by rw [e14]; exact h14), e16]
  have hF : ∀ r k q, r < 24 → B.1 14 r = nI c → k < m0 → r6 (B.1 6) c k = q → Fld (B.1 4) (B.1 6) (B.1 14) r c k q := fun r k q hr h14 hk hx => ⟨hr, hc, h14, ⟨m0, hm0, hB4, hk⟩, hx⟩
  refine ⟨fun r k hr h14 hk hx => ?_, fun r k hr h14 hk hx => ?_, ?_⟩
  · rw [w14] at h14
    rw [w11 k (by omega)] at hx
    rw [w12 k (by omega), w13 k (by omega), w17 r k hr (by omega) h14]
    exact hMB.2.2.2.1.1 r c k (hF r k 0 hr h14 hk hx)
  · rw [w14] at h14
    rw [w11 k (by omega)] at hx
    rw [w17 r k hr (by omega) h14]
    refine (hMB.2.2.2.1.2.1 r c k (hF r k 1 hr h14 hk hx)).imp id (fun ⟨p, p1, p2, p3, p4⟩ => ⟨p, p1, p2, by rw [w14]; exact p3, fun r' k' ho => ?_⟩)
    obtain ⟨k2, h2⟩ := set_own hc hM hB4 hm0 h35 ((Own_iff v4 (fun d k hk => vs 6 d k (by omega) (by omega) hk) (vo 14 (by omega)) v16).mp ho)
    exact p4 r' k2 h2
  · have ex : ∀ o, ∃ k, o < m0 → r6 (B.1 6) c o = 2 → k < m ∧ T.1 33 k = nI o := fun o => by
      by_cases h : o < m0 ∧ r6 (B.1 6) c o = 2
      · obtain ⟨k, k1, k2⟩ := e33' o h.1 h.2
        exact ⟨k, fun _ _ => ⟨k1, k2⟩⟩
      · exact ⟨0, fun x y => absurd ⟨x, y⟩ h⟩
    obtain ⟨φ, hφ⟩ := Classical.axiomOfChoice ex
    refine ⟨φ, fun k hk hx => ?_, fun k hk hx k2 hk2 hx2 e => ?_⟩
    · rw [w11 k (by omega)] at hx
      obtain ⟨f1, f2⟩ := hφ k hk hx
      have h4c : W.1 4 c = nI m := by rw [a4 c, if_pos rfl]; exact hm
      obtain ⟨o, o1, o2, o3, o4⟩ := (hor (φ k) f1).resolve_left (by rw [f2]; exact nI_ne_m1 (by omega))
      have eo : o = k := (nI_eq (by omega) (by omega)).mp (o2.symm.trans f2)
      subst eo
      have h30 : T.1 30 (φ o) = 2 := by rw [← o3]; exact hx
      obtain ⟨q1, q2⟩ := o4 (by rw [h30]; decide)
      rw [a6 6 c (φ o) (by omega) (by omega) (by omega), if_pos rfl, a6 7 c (φ o) (by omega) (by omega) (by omega), if_pos rfl, w12 o (by omega)]
      refine ⟨⟨m, hm6, h4c, f1⟩, h30, q1.symm, fun r hr h14 => ?_⟩
      rw [w14] at h14
      rw [w17 r o hr (by omega) h14, (a8 r (φ o) hr (by omega)).1, if_pos (by rw [e14]; exact h14)]
      exact (q2 r hr h14).symm
    · rw [w11 k (by omega)] at hx
      rw [w11 k2 (by omega)] at hx2
      obtain ⟨f1, f2⟩ := hφ k hk hx
      obtain ⟨g1, g2⟩ := hφ k2 hk2 hx2
      rw [e] at f2
      exact (nI_eq (by omega) (by omega)).mp (f2.symm.trans g2)
theorem set_MI {K v : Nat} {B T W : MSt} {c m0 m : Nat} (hc : c < 4) (hMB : MI K B.1) (hB4 : B.1 4 c = nI m0) (hm0 : m0 ≤ 6) (hv : v ≤ 8) (hB2 : B.1 2 c = nI v) (hM : JM K B T c m0 m) (h : SetM T W c) : MI K W.1 := by
  obtain ⟨vo, v4, vs, v16⟩ := SetV h
  obtain ⟨a1, a2, a3, a4, a5, a6, a7, a8⟩ := id h
  obtain ⟨hMI, hm6, hm, h27, h26, hfr, hcl, hcv, hor, hoi, hmx, -, hmix⟩ := id hM
  obtain ⟨⟨hK, hcls1, hcls⟩, hsh, hrec, hval, hroot, hrank, hold, hwrd, hstp⟩ := hMI
  have t2 : (vS T c).1 2 = T.1 2 := vS_o T c 2 (by omega) (by omega) (by omega)
  have hT2 : T.1 2 c = nI v := by rw [hfr.1 2 (by omega)]; exact hB2
  have w2 : ∀ d, W.1 2 d = if d = c then nI (v + 1) else (vS T c).1 2 d := fun d => by rw [a2 d, hT2, nI_1, t2]
  have w3 : ∀ d, d < 4 → d ≠ c → W.1 3 d = (vS T c).1 3 d := fun d hd e => by
    rw [a3 d hd, if_neg e]
    show _ = (if d = c ∨ dsB (T.1 36 0) d = true then 0 else T.1 3 d)
    by_cases b : dsB (T.1 36 0) d = true
    · rw [if_pos b, if_pos (Or.inr b)]
    · rw [if_neg b, if_neg (fun h => h.elim e b)]
  have e6 : ∀ d k, k < 6 → r6 (W.1 6) d k = r6 ((vS T c).1 6) d k := fun d k hk => vs 6 d k (by omega) (by omega) hk
  have e7 : ∀ d k, k < 6 → r6 (W.1 7) d k = r6 ((vS T c).1 7) d k := fun d k hk => vs 7 d k (by omega) (by omega) hk
  have e8 : ∀ d k, k < 6 → r6 (W.1 8) d k = r6 ((vS T c).1 8) d k := fun d k hk => vs 8 d k (by omega) (by omega) hk
  have e14 : W.1 14 = (vS T c).1 14 := vo 14 (by omega)
  have t14 : (vS T c).1 14 = T.1 14 := vS_o T c 14 (by omega) (by omega) (by omega)
  have hFl : ∀ {r d k : Nat} {q : Int32}, Fld (W.1 4) (W.1 6) (W.1 14) r d k q ↔ Fld ((vS T c).1 4) ((vS T c).1 6) ((vS T c).1 14) r d k q := Fld_iff v4 e6 e14
  have hOw : ∀ {r k p : Nat}, Own (W.1 4) (W.1 6) (W.1 14) (W.1 16) r k p ↔ Own ((vS T c).1 4) ((vS T c).1 6) ((vS T c).1 14) ((vS T c).1 16) r k p := Own_iff v4 e6 e14 v16
  refine ⟨⟨hK, by rw [vo 1 (by omega)]; exact hcls1, fun d hd => ?_⟩, fun d hd => ?_, fun r hr => ?_, ⟨fun r d k hf => ?_, fun r d k hf => ?_, fun r d k hf => ?_, fun r k r' k' p h1 h2 => hval.2.2.2 r k r' k' p (hOw.mp h1) (hOw.mp h2)⟩, by rw [e14, vo 19 (by omega)]; exact hroot, ?_, fun d hd => ?_, by rw [vo 20 (by omega), vo 21 (by omega)]; exact hwrd, by rw [vo 22 (by omega), vo 23 (by omega), vo 24 (by omega), vo 25 (by omega)]; exact hstp⟩
  · by_cases e : d = c
    · subst e
      refine ⟨⟨v + 1, by omega, by rw [w2, if_pos rfl], fun _ => by omega⟩, ?_⟩
      rw [a3 d hd, if_pos rfl]
      split
      · exact Or.inr rfl
      · exact Or.inl rfl
    · rw [w2, if_neg e, w3 d hd e]
      exact hcls d hd
  · obtain ⟨q, hq, hS⟩ := hsh d hd
    exact ⟨q, by rw [v4]; exact hq, Sh_iff (fun k hk => vs 5 d k (by omega) (by omega) hk) (e6 d) (e7 d) (e8 d) hS⟩
  · rw [e14, vo 15 (by omega)]
    refine (hrec r hr).imp id (fun ⟨d, d1, d2, d3, d4⟩ => ⟨d, d1, d2, d3, ?_⟩)
    rw [w2]
    by_cases e : d = c
    · rw [if_pos e]
      rw [e, t2, hT2] at d4
      exact Int32.le_trans d4 (nI_le (by omega) (by omega))
    · rw [if_neg e]
      exact d4
  · have hf' := hFl.mp hf
    have hk := Fld_lt hf
    rw [e7 d k hk, e8 d k hk, v16 r k hf.1 hk]
    exact hval.1 r d k hf'
  · have hf' := hFl.mp hf
    have hk := Fld_lt hf
    rw [v16 r k hf.1 hk]
    refine (hval.2.1 r d k hf').imp id (fun ⟨p, p1, p2, p3, p4⟩ => ⟨p, p1, p2, by rw [e14]; exact p3, fun r' k' ho => p4 r' k' (hOw.mp ho)⟩)
  · have hf' := hFl.mp hf
    have hk := Fld_lt hf
    rw [v16 r k hf.1 hk, e7 d k hk, e14]
    exact hval.2.2.1 r d k hf'
  · obtain ⟨ρ, r1, r2, r3⟩ := hrank
    refine ⟨ρ, r1, r2, fun d w k d' hd hw6 hw hk hx hd' h7 => ?_⟩
    rw [v4] at hw
    rw [e6 d k (by omega)] at hx
    rw [e7 d k (by omega)] at h7
    exact r3 d w k d' hd hw6 hw hk hx hd' h7
  · by_cases e : d = c
    · subst e
      refine ⟨m0, hm0, by rw [a5 d, if_pos rfl, hfr.1 4 (by omega)]; exact hB4, fun h3 => ?_⟩
      rw [a3 d hd, if_pos rfl] at h3
      have h35 : T.1 35 0 = 0 := Decidable.byContradiction (fun hn => by rw [if_neg hn] at h3; exact one_ne h3.symm)
      refine ⟨Sh_iff (fun k hk => ?_) (fun k hk => ?_) (fun k hk => ?_) (fun k hk => ?_) (base_sh hMB hd hm0 hB4), set_old hd hMB hB4 hm0 hM h h35⟩
      · rw [a7 10 d k (by omega) (by omega) hk, if_pos rfl, hfr.1 (10 - 5) (by omega)]
      · rw [a7 11 d k (by omega) (by omega) hk, if_pos rfl, hfr.1 (11 - 5) (by omega)]
      · rw [a7 12 d k (by omega) (by omega) hk, if_pos rfl, hfr.1 (12 - 5) (by omega)]
      · rw [a7 13 d k (by omega) (by omega) hk, if_pos rfl, hfr.1 (13 - 5) (by omega)]
    · have vo' : ∀ g, 9 ≤ g → g ≤ 13 → (vS T c).1 g = T.1 g := fun g g1 g2 => vS_o T c g (by omega) (by omega) (by omega)
      have w9 : W.1 9 d = (vS T c).1 9 d := by rw [a5 d, if_neg e, vo' 9 (by omega) (by omega)]
      have wo : ∀ g, 10 ≤ g → g ≤ 13 → ∀ k, k < 6 → r6 (W.1 g) d k = r6 ((vS T c).1 g) d k := fun g g1 g2 k hk => by
        rw [a7 g d k g1 g2 hk, if_neg e, vo' g (by omega) (by omega)]
      have w17 : ∀ r k, r < 24 → k < 6 → (vS T c).1 14 r = nI d → r6 (W.1 17) r k = r6 ((vS T c).1 17) r k := fun r k hr hk h14 => by
        rw [t14] at h14
        rw [(a8 r k hr hk).2, if_neg (fun h => e (nI_inj4 hd hc (h14.symm.trans h))), vS_o T c 17 (by omega) (by omega) (by omega)]
      obtain ⟨mo, g1, g2, g3⟩ := hold d hd
      refine ⟨mo, g1, by rw [w9]; exact g2, fun h3 => ?_⟩
      rw [w3 d hd e] at h3
      obtain ⟨q1, q2, q3, φ, q4, q5⟩ := g3 h3
      refine ⟨Sh_iff (wo 10 (by omega) (by omega)) (wo 11 (by omega) (by omega)) (wo 12 (by omega) (by omega)) (wo 13 (by omega) (by omega)) q1, fun r k hr h14 hk hx => ?_, fun r k hr h14 hk hx => ?_, φ, fun k hk hx => ?_, fun k hk hx k2 hk2 hx2 ee => ?_⟩
      · rw [e14] at h14
        rw [wo 11 (by omega) (by omega) k (by omega)] at hx
        rw [wo 12 (by omega) (by omega) k (by omega), wo 13 (by omega) (by omega) k (by omega), w17 r k hr (by omega) h14]
        exact q2 r k hr h14 hk hx
      · rw [e14] at h14
        rw [wo 11 (by omega) (by omega) k (by omega)] at hx
        rw [w17 r k hr (by omega) h14]
        exact (q3 r k hr h14 hk hx).imp id (fun ⟨p, p1, p2, p3, p4⟩ => ⟨p, p1, p2, by rw [e14]; exact p3, fun r' k' ho => p4 r' k' (hOw.mp ho)⟩)
      · rw [wo 11 (by omega) (by omega) k (by omega)] at hx
        obtain ⟨⟨w, d1, d2, d3⟩, d4, d5, d6⟩ := q4 k hk hx
        rw [e6 d _ (by omega), e7 d _ (by omega), wo 12 (by omega) (by omega) k (by omega)]
        refine ⟨⟨w, d1, by rw [v4]; exact d2, d3⟩, d4, d5, fun r hr h14 => ?_⟩
        rw [e14] at h14
        rw [w17 r k hr (by omega) h14, v16 r _ hr (by omega)]
        exact d6 r hr h14
      · rw [wo 11 (by omega) (by omega) k (by omega)] at hx
        rw [wo 11 (by omega) (by omega) k2 (by omega)] at hx2
        exact q5 k hk hx k2 hk2 hx2 ee
