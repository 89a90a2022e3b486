/-! ===== change: a class is split: what the reference does ===== -/
def fdP (T : MSt) (d m k : Nat) : Nat := (plc (T.1 29) m (r6 (T.1 5) d k)).toNatClampNeg
theorem fdP_good {T : MSt} {K d m k : Nat} (hSh : Sh K m (T.1 29) (T.1 30) (T.1 31) (T.1 32)) (h : GoodF T d m k) : fdP T d m k < m ∧ plc (T.1 29) m (r6 (T.1 5) d k) = nI (fdP T d m k) ∧ T.1 29 (fdP T d m k) = r6 (T.1 5) d k ∧ T.1 30 (fdP T d m k) = 0 ∧ r6 (T.1 7) d k ≤ T.1 31 (fdP T d m k) ∧ T.1 32 (fdP T d m k) ≤ r6 (T.1 8) d k := by
  obtain ⟨f, f1, f2, f3, f4, f5⟩ := h
  have e := plc_eq hSh.2.1 f1 f2
  have e2 : fdP T d m k = f := by unfold fdP; rw [e, nI_clamp (by have := hSh.1; omega)]
  rw [e2]
  exact ⟨f1, e, f2, f3, f4, f5⟩
theorem p_line0 {n : Nat} {T : MSt} {x1 x2 : Int32} (hn : 24 < n) : lpO (b_X8_splitField_14 n x1 x2) n (T, 0) = some (mR T 43 (fun l => if l < 24 then -1 else T.1 43 l)) := by
  refine ok_get (ok_for2 (N := 24) hn (I := fun r S => S = mR T 43 (fun l => if l < r then -1 else T.1 43 l)) (fun r S hr hS => ?_) (mR_self T 43 (funext fun l => if_neg (fun h => by omega))))
  unfold b_X8_splitField_14
  dsimp only
  rw [Ok_ite]
  refine ⟨fun h => ?_, fun h => ?_⟩
  · have e : r = 24 := ge_eq (by decide) hr h
    rw [Ok_some]
    subst e
    exact hS
  · have hr2 : r < 24 := nge_lt (by decide) hr h
    rw [Ok_bif, Ok_nm, Ok_nm, Ok_some, nI_clamp (by omega)]
    refine ⟨inB_nI (by omega) (by omega), hr2, nI_1 r, ?_⟩
    show mI S 43 r (-1) = _
    rw [hS]
    refine mI_mR _ _ _ _ _ _ (fun l => ?_)
    by_cases e : l = r
    · rw [if_pos e, if_pos (by omega)]
    · rw [if_neg e]
      have : (l < r + 1) ↔ (l < r) := by omega
      simp only [this]
/-- the values of one part -/
theorem p_partFill {n : Nat} {T T0 : MSt} {K d p m r s : Nat} {x1 : Int32} (hn : 6 < n) (hd : d < 4) (hr : r < 24) (hs : s < 24) (hp6 : p ≤ 6) (hSh : Sh K m (T.1 29) (T.1 30) (T.1 31) (T.1 32)) (hG : ∀ k, k < p → GoodF T d m k) (h4 : T0.1 4 d = nI p) (h5 : T0.1 5 = T.1 5) (h28 : T0.1 28 0 = nI m) (h29 : T0.1 29 = T.1 29) (h34 : T0.1 34 = T.1 34) : lpO (b_X8_splitField_89 n x1 (nI d) (nI r) (nI s)) n (T0, 0) = some (mR T0 16 (fun l => if 6 * s ≤ l ∧ l < 6 * s + p then r6 (T.1 34) r (fdP T d m (l - 6 * s)) else T0.1 16 l)) := by
  have hm6 := hSh.1
  refine ok_get (ok_for2 (N := p) (by omega) (I := fun k S => S = mR T0 16 (fun l => if 6 * s ≤ l ∧ l < 6 * s + k then r6 (T.1 34) r (fdP T d m (l - 6 * s)) else T0.1 16 l)) (fun k S hk hS => ?_) (mR_self T0 16 (funext fun l => if_neg (fun h => by omega))))
  have fr : ∀ g, g ≠ 16 → S.1 g = T0.1 g := fun g hg => by rw [hS, mR_at, if_neg hg]
  unfold b_X8_splitField_89
  dsimp only
  rw [Ok_bif, nI_clamp (by omega), fr 4 (by omega), h4, Ok_ite]
  refine ⟨inB_nI hd (by omega), fun h3 => ?_, fun h3 => ?_⟩
  · rw [Ok_some]
    have ek := ge_eq (by omega) hk h3
    subst ek
    exact hS
  · have hk2 := nge_lt (by omega) hk h3
    obtain ⟨f1, f2, f3, -⟩ := fdP_good hSh (hG k hk2)
    rw [Ok_bif, ix6, nI_clamp (by omega), fr 5 (by omega), h5, p_findDraft hn hm6 (by rw [fr 28 (by omega)]; exact h28), fr 29 (by omega), h29]
    refine ⟨inB_nI (by omega) (by omega), ?_⟩
    show Ok ((some (plc (T.1 29) m (r6 (T.1 5) d k))).bind _) _
    rw [f2, Ok_bind, Ok_some, ix6, ix6, Ok_bif, Ok_bif, nI_clamp (by omega), nI_clamp (by omega), fr 34 (by omega), h34, Ok_nm, Ok_nm, Ok_some, nI_1]
    refine ⟨inB_nI (by omega) (by omega), inB_nI (by omega) (by omega), hk2, rfl, ?_⟩
    show mI S 16 (6 * s + k) (T.1 34 (6 * r + fdP T d m k)) = _
    rw [hS]
    refine mI_mR _ _ _ _ _ _ (fun l => ?_)
    by_cases e : l = 6 * s + k
    · rw [if_pos e, if_pos (by omega), e, Nat.add_sub_cancel_left]
      rfl
    · rw [if_neg e]
      have : (6 * s ≤ l ∧ l < 6 * s + (k + 1)) ↔ (6 * s ≤ l ∧ l < 6 * s + k) := by omega
      simp only [this]
/-- the parts of the first q records -/
def sptI (T T' : MSt) (c d p m q : Nat) (ln : Nat → Nat) : Prop :=
  (∀ g, g ≠ 14 → g ≠ 15 → g ≠ 16 → g ≠ 43 → T'.1 g = T.1 g) ∧
  (∀ r, r < 24 → r < q → T.1 14 r = nI c → ln r < 24 ∧ T.1 14 (ln r) = -1 ∧ T'.1 14 (ln r) = nI d ∧ T'.1 15 (ln r) = T.1 2 d ∧ T'.1 43 r = nI (ln r) ∧ ∀ k, k < p → r6 (T'.1 16) (ln r) k = r6 (T.1 34) r (fdP T d m k)) ∧
  (∀ r, r < 24 → r < q → T.1 14 r = nI c → ∀ r', r' < 24 → r' < q → T.1 14 r' = nI c → ln r = ln r' → r = r') ∧
  (∀ y, (∀ r, r < 24 → r < q → T.1 14 r = nI c → y ≠ ln r) → T'.1 14 y = T.1 14 y ∧ T'.1 15 y = T.1 15 y ∧ ∀ k, k < 6 → r6 (T'.1 16) y k = r6 (T.1 16) y k) ∧
  cn (fun r => !decide (T'.1 14 r = -1)) 24 = cn (fun r => !decide (T.1 14 r = -1)) 24 + cn (fun r => decide (T.1 14 r = nI c)) q
theorem p_parts {n : Nat} {T T1 : MSt} {K c d p m : Nat} {x1 : Int32} (hn : 24 < n) (hc : c < 4) (hd : d < 4) (hcd : d ≠ c) (hp6 : p ≤ 6) (hp : T.1 4 d = nI p) (hm : T.1 28 0 = nI m) (h27 : T.1 27 0 = nI c) (hSh : Sh K m (T.1 29) (T.1 30) (T.1 31) (T.1 32)) (hG : ∀ k, k < p → GoodF T d m k) (hcl : ∀ r, r < 24 → T.1 14 r = -1 ∨ ∃ e, e < 4 ∧ T.1 14 r = nI e) (hroom : cn (fun r => !decide (T.1 14 r = -1)) 24 + cn (fun r => decide (T.1 14 r = nI c)) 24 ≤ 24) (hT1 : ∀ g, g ≠ 43 → T1.1 g = T.1 g) : Ok (lpO (b_X8_splitField_38 n x1 (nI d)) n (T1, 0)) (fun T' => ∃ ln, sptI T T' c d p m 24 ln) := by
  refine ok_for2 (N := 24) hn (I := fun q T' => ∃ ln, sptI T T' c d p m q ln) (fun q T' hq hI => ?_) ⟨fun _ => 0, fun g g1 g2 g3 g4 => hT1 g g4, fun r _ hr => absurd hr (Nat.not_lt_zero _), fun r _ hr => absurd hr (Nat.not_lt_zero _), fun y _ => by rw [hT1 14 (by omega), hT1 15 (by omega), hT1 16 (by omega)]; exact ⟨rfl, rfl, fun _ _ => rfl⟩, by rw [hT1 14 (by omega)]; rfl⟩
  obtain ⟨ln, i1, i2, i3, i4, i5⟩ := hI
  have cls : ∀ r, r < 24 → (T'.1 14 r = nI c ↔ T.1 14 r = nI c) := fun r hr => by
    by_cases hn' : ∃ r0, r0 < 24 ∧ r0 < q ∧ T.1 14 r0 = nI c ∧ r = ln r0
    · obtain ⟨r0, a1, a2, a3, a4⟩ := hn'
      obtain ⟨b1, b2, b3, -⟩ := i2 r0 a1 a2 a3
      rw [a4, b2, b3]
      exact ⟨fun h => absurd (nI_inj4 hd hc h) hcd, fun h => absurd h (m1_ne_nI (by omega))⟩
    · rw [(i4 r (fun r0 a1 a2 a3 a4 => hn' ⟨r0, a1, a2, a3, a4⟩)).1]
  unfold b_X8_splitField_38
  dsimp only
  rw [Ok_ite]
  refine ⟨fun h => ?_, fun h => ?_⟩
  · have e : q = 24 := ge_eq (by decide) hq h
    rw [Ok_some]
    subst e
    exact ⟨ln, i1, i2, i3, i4, i5⟩
  · have hq2 : q < 24 := nge_lt (by decide) hq h
    rw [Ok_bif, nI_clamp (by omega), i1 27 (by omega) (by omega) (by omega) (by omega), h27, Ok_ite]
    refine ⟨inB_nI hq2 (by omega), fun h1 => ?_, fun h1 => ?_⟩
    · rw [Ok_nm, Ok_some, nI_1]
      have hne : T.1 14 q ≠ nI c := fun e => h1 ((cls q hq2).mpr e)
      have lt : ∀ {r}, r < q + 1 → T.1 14 r = nI c → r < q := fun {r} hr h14 => by
        have : r ≠ q := fun e => hne (by rw [← e]; exact h14)
        omega
      refine ⟨hq2, rfl, ln, i1, fun r hr hrq h14 => i2 r hr (lt hrq h14) h14, fun r hr hrq h14 r' hr' hrq' h14' => i3 r hr (lt hrq h14) h14 r' hr' (lt hrq' h14') h14', fun y hy => i4 y (fun r hr hrq h14 => hy r hr (by omega) h14), ?_⟩
      rw [i5]
      show _ = _ + (cn (fun r => decide (T.1 14 r = nI c)) q + if decide (T.1 14 q = nI c) = true then 1 else 0)
      rw [if_neg (by simpa using hne)]
      rfl
    · have h1 : T.1 14 q = nI c := (cls q hq2).mp (Decidable.not_not.mp h1)
      have hcl' : ∀ r, r < 24 → T'.1 14 r = -1 ∨ ∃ e, e < 4 ∧ T'.1 14 r = nI e := fun r hr => by
        by_cases hn' : ∃ r0, r0 < 24 ∧ r0 < q ∧ T.1 14 r0 = nI c ∧ r = ln r0
        · obtain ⟨r0, a1, a2, a3, a4⟩ := hn'
          exact Or.inr ⟨d, hd, by rw [a4]; exact (i2 r0 a1 a2 a3).2.2.1⟩
        · rw [(i4 r (fun r0 a1 a2 a3 a4 => hn' ⟨r0, a1, a2, a3, a4⟩)).1]
          exact hcl r hr
      have hlt : cn (fun r => !decide (T'.1 14 r = -1)) 24 < 24 := by
        rw [i5]
        have := rk_lt (p := fun r => decide (T.1 14 r = nI c)) (i := q) (m := 24) hq2 (by simpa using h1)
        omega
      obtain ⟨s, s1, s2, s3⟩ := p_free (n := n) (M := T') hn hcl' hlt
      rw [s3, Ok_bind, Ok_some, Ok_bif, nI_clamp (by omega), Ok_nm, Ok_bif, Ok_bif, Ok_nm]
      refine ⟨inB_nI s1 (by omega), inB_nI hd (by omega), inB_nI s1 (by omega), ?_⟩
      have snew : ∀ r, r < 24 → r < q → T.1 14 r = nI c → s ≠ ln r := fun r hr hrq h14 e => by
        have := (i2 r hr hrq h14).2.2.1
        rw [← e, s2] at this
        exact m1_ne_nI (by omega) this
      have sold : T.1 14 s = -1 := by rw [← (i4 s snew).1]; exact s2
      show Ok ((lpO (b_X8_splitField_89 n x1 (nI d) (nI q) (nI s)) n (mI (mI T' 14 s (nI d)) 15 s (T'.1 2 (nI d).toNatClampNeg), 0)).bind _) _
      rw [nI_clamp (by omega), i1 2 (by omega) (by omega) (by omega) (by omega)]
      have frA : ∀ g, g ≠ 14 → g ≠ 15 → (mI (mI T' 14 s (nI d)) 15 s (T.1 2 d)).1 g = T'.1 g := fun g g1 g2 => by
        funext l
        rw [mI_at, if_neg (fun h => g2 h.1), mI_at, if_neg (fun h => g1 h.1)]
      have g1' : ∀ g, g ≠ 14 → g ≠ 15 → g ≠ 16 → g ≠ 43 → (mI (mI T' 14 s (nI d)) 15 s (T.1 2 d)).1 g = T.1 g := fun g g1 g2 g3 g4 => by rw [frA g g1 g2, i1 g g1 g2 g3 g4]
      rw [p_partFill (T := T) (K := K) (p := p) (m := m) (by omega) hd hq2 s1 hp6 hSh hG (by rw [g1' 4 (by omega) (by omega) (by omega) (by omega)]; exact hp) (g1' 5 (by omega) (by omega) (by omega) (by omega)) (by rw [g1' 28 (by omega) (by omega) (by omega) (by omega)]; exact hm) (g1' 29 (by omega) (by omega) (by omega) (by omega)) (g1' 34 (by omega) (by omega) (by omega) (by omega)), Ok_bind, Ok_some, Ok_bif, Ok_nm, Ok_nm, Ok_some, nI_1]
      refine ⟨inB_nI (by omega) (by omega), hq2, rfl, ?_⟩
      generalize hW : mI (mR (mI (mI T' 14 s (nI d)) 15 s (T.1 2 d)) 16 (fun l => if 6 * s ≤ l ∧ l < 6 * s + p then r6 (T.1 34) q (fdP T d m (l - 6 * s)) else (mI (mI T' 14 s (nI d)) 15 s (T.1 2 d)).1 16 l)) 43 q (nI s) = W
      have w14 : ∀ y, W.1 14 y = if y = s then nI d else T'.1 14 y := fun y => by
        rw [← hW, mI_at, if_neg (by omega), mR_at, if_neg (by omega), mI_at, if_neg (by omega), mI_at]
        by_cases e : y = s
        · rw [if_pos ⟨rfl, e⟩, if_pos e]
        · rw [if_neg (fun h => e h.2), if_neg e]
      have w15 : ∀ y, W.1 15 y = if y = s then T.1 2 d else T'.1 15 y := fun y => by
        rw [← hW, mI_at, if_neg (by omega), mR_at, if_neg (by omega), mI_at]
        by_cases e : y = s
        · rw [if_pos ⟨rfl, e⟩, if_pos e]
        · rw [if_neg (fun h => e h.2), if_neg e, mI_at, if_neg (by omega)]
      have w16 : ∀ y k, k < 6 → r6 (W.1 16) y k = if y = s ∧ k < p then r6 (T.1 34) q (fdP T d m k) else r6 (T'.1 16) y k := fun y k hk => by
        show W.1 16 (6 * y + k) = _
        rw [← hW, mI_at, if_neg (by omega), mR_at, if_pos rfl]
        by_cases e : y = s ∧ k < p
        · rw [if_pos e, if_pos (by omega), show 6 * y + k - 6 * s = k by omega]
        · rw [if_neg e, if_neg (by omega), frA 16 (by omega) (by omega)]
          rfl
      have w43 : ∀ y, W.1 43 y = if y = q then nI s else T'.1 43 y := fun y => by
        rw [← hW, mI_at]
        by_cases e : y = q
        · rw [if_pos ⟨rfl, e⟩, if_pos e]
        · rw [if_neg (fun h => e h.2), if_neg e, mR_at, if_neg (by omega), frA 43 (by omega) (by omega)]
      have wo : ∀ g, g ≠ 14 → g ≠ 15 → g ≠ 16 → g ≠ 43 → W.1 g = T.1 g := fun g g1 g2 g3 g4 => by
        funext l
        rw [← hW, mI_at, if_neg (fun h => g4 h.1), mR_at, if_neg g3, g1' g g1 g2 g3 g4]
      refine ⟨fun r => if r = q then s else ln r, wo, fun r hr hrq h14 => ?_, fun r hr hrq h14 r' hr' hrq' h14' e => ?_, fun y hy => ?_, ?_⟩
      · by_cases e : r = q
        · subst e
          dsimp only
          rw [if_pos rfl, w14, w15, w43, if_pos rfl, if_pos rfl, if_pos rfl]
          exact ⟨s1, sold, rfl, rfl, rfl, fun k hk => by rw [w16 s k (by omega), if_pos ⟨rfl, hk⟩]⟩
        · obtain ⟨a1, a2, a3, a4, a5, a6⟩ := i2 r hr (by omega) h14
          have hns : ln r ≠ s := fun e2 => snew r hr (by omega) h14 e2.symm
          dsimp only
          rw [if_neg e, w14, w15, w43, if_neg hns, if_neg hns, if_neg e]
          exact ⟨a1, a2, a3, a4, a5, fun k hk => by rw [w16 _ k (by omega), if_neg (fun h => hns h.1)]; exact a6 k hk⟩
      · dsimp only at e
        by_cases e1 : r = q
        · by_cases e2 : r' = q
          · rw [e1, e2]
          · rw [if_pos e1, if_neg e2] at e
            exact absurd e (snew r' hr' (by omega) h14')
        · by_cases e2 : r' = q
          · rw [if_neg e1, if_pos e2] at e
            exact absurd e.symm (snew r hr (by omega) h14)
          · rw [if_neg e1, if_neg e2] at e
            exact i3 r hr (by omega) h14 r' hr' (by omega) h14' e
      · have hys : y ≠ s := fun e => by
          have := hy q hq2 (by omega) h1
          dsimp only at this
          rw [if_pos rfl] at this
          exact this e
        have hy' : ∀ r, r < 24 → r < q → T.1 14 r = nI c → y ≠ ln r := fun r hr hrq h14 => by
          have := hy r hr (by omega) h14
          dsimp only at this
          rw [if_neg (by omega)] at this
          exact this
        obtain ⟨a1, a2, a3⟩ := i4 y hy'
        rw [w14, w15, if_neg hys, if_neg hys]
        exact ⟨a1, a2, fun k hk => by rw [w16 y k hk, if_neg (fun h => hys h.1)]; exact a3 k hk⟩
      · have up := cn_up (p := fun r => !decide (T'.1 14 r = -1)) (q := fun r => !decide (W.1 14 r = -1)) (i := s) (by simp [s2]) (by rw [w14, if_pos rfl]; simp [nI_ne_m1 (show d < 2 ^ 31 by omega)]) (fun k hk => by rw [w14, if_neg hk]) s1
        rw [up, i5]
        show _ = _ + (cn (fun r => decide (T.1 14 r = nI c)) q + if decide (T.1 14 q = nI c) = true then 1 else 0)
        rw [if_pos (by simpa using h1)]
        omega
