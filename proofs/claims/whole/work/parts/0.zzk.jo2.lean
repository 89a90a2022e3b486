/-! ===== change: a part is joined back: what the reference does ===== -/
def HeldM (T : MSt) (c k0 q : Nat) : Prop := ∃ r i, r < q ∧ i < 8 ∧ T.1 14 r = nI c ∧ ¬ T.1 19 i < 0 ∧ T.1 19 i = r6 (T.1 34) r k0
theorem p_isHeldR {n : Nat} {T : MSt} {c k0 r : Nat} {P : Prop} {a : Int32} (hn : 24 < n) (hr : r < 24) (hk0 : k0 < 6) (h27 : T.1 27 0 = nI c) (ha : (a = 1 ∧ P) ∨ (a = 0 ∧ ¬ P)) : Ok (lpO (b_X8_isHeld_13 n T (nI k0) (nI r)) n (a, 0)) (fun w => (w = 1 ∧ (P ∨ ∃ i, i < 8 ∧ T.1 14 r = nI c ∧ ¬ T.1 19 i < 0 ∧ T.1 19 i = r6 (T.1 34) r k0)) ∨ (w = 0 ∧ ¬ (P ∨ ∃ i, i < 8 ∧ T.1 14 r = nI c ∧ ¬ T.1 19 i < 0 ∧ T.1 19 i = r6 (T.1 34) r k0))) := by
  refine ok_for2 (N := 8) (by omega) (I := fun k a => (a = 1 ∧ (P ∨ ∃ i, i < k ∧ T.1 14 r = nI c ∧ ¬ T.1 19 i < 0 ∧ T.1 19 i = r6 (T.1 34) r k0)) ∨ (a = 0 ∧ ¬ (P ∨ ∃ i, i < k ∧ T.1 14 r = nI c ∧ ¬ T.1 19 i < 0 ∧ T.1 19 i = r6 (T.1 34) r k0))) (fun k a hk hI => ?_) ?_
  · unfold b_X8_isHeld_13
    dsimp only
    rw [Ok_ite]
    refine ⟨fun h3 => ?_, fun h3 => ?_⟩
    · have ek : k = 8 := ge_eq (by decide) hk h3
      rw [Ok_some]
      subst ek
      exact hI
    · have hk2 : k < 8 := nge_lt (by decide) hk h3
      rw [Ok_bif, nI_clamp (by omega), h27, Ok_ite]
      refine ⟨inB_nI hr (by omega), fun h1 => ?_, fun h1 => ?_⟩
      · rw [Ok_some]
        have e : ∀ q, (∃ i, i < q ∧ T.1 14 r = nI c ∧ ¬ T.1 19 i < 0 ∧ T.1 19 i = r6 (T.1 34) r k0) ↔ False := fun q => ⟨fun ⟨_, _, h, _⟩ => h1 h, False.elim⟩
        rw [e] at hI
        show (a = 1 ∧ (P ∨ ∃ i, i < 8 ∧ T.1 14 r = nI c ∧ ¬ T.1 19 i < 0 ∧ T.1 19 i = r6 (T.1 34) r k0)) ∨ (a = 0 ∧ ¬ (P ∨ ∃ i, i < 8 ∧ T.1 14 r = nI c ∧ ¬ T.1 19 i < 0 ∧ T.1 19 i = r6 (T.1 34) r k0))
        rw [e]
        exact hI
      · have h1 : T.1 14 r = nI c := Decidable.not_not.mp h1
        have stepT : (P ∨ ∃ i, i < k ∧ T.1 14 r = nI c ∧ ¬ T.1 19 i < 0 ∧ T.1 19 i = r6 (T.1 34) r k0) → (P ∨ ∃ i, i < k + 1 ∧ T.1 14 r = nI c ∧ ¬ T.1 19 i < 0 ∧ T.1 19 i = r6 (T.1 34) r k0) := fun h => by
          rcases h with h | ⟨i, i1, i2⟩
          · exact Or.inl h
          · exact Or.inr ⟨i, by omega, i2⟩
        have stepF : ¬ (¬ T.1 19 k < 0 ∧ T.1 19 k = r6 (T.1 34) r k0) → ¬ (P ∨ ∃ i, i < k ∧ T.1 14 r = nI c ∧ ¬ T.1 19 i < 0 ∧ T.1 19 i = r6 (T.1 34) r k0) → ¬ (P ∨ ∃ i, i < k + 1 ∧ T.1 14 r = nI c ∧ ¬ T.1 19 i < 0 ∧ T.1 19 i = r6 (T.1 34) r k0) := fun hn' hno h => by
          rcases h with h | ⟨i, i1, i2, i3⟩
          · exact hno (Or.inl h)
          · rcases Nat.lt_succ_iff_lt_or_eq.mp i1 with h5 | h5
            · exact hno (Or.inr ⟨i, h5, i2, i3⟩)
            · rw [h5] at i3
              exact hn' i3
        rcases hI with ⟨e, hP⟩ | ⟨e, hP⟩
        · rw [e, if_pos one_ne, Ok_nm, Ok_some, nI_1]
          exact ⟨hk2, rfl, Or.inl ⟨rfl, stepT hP⟩⟩
        · rw [e, if_neg (fun h => h rfl), Ok_bif, nI_clamp (by omega), Ok_ite]
          refine ⟨inB_nI hk2 (by omega), fun h2 => ?_, fun h2 => ?_⟩
          · rw [Ok_nm, Ok_some, nI_1]
            exact ⟨hk2, rfl, Or.inr ⟨rfl, stepF (fun h => h.1 h2) hP⟩⟩
          · rw [Ok_bif, Ok_bif, ix6, nI_clamp (by omega), Ok_ite]
            refine ⟨inB_nI hk2 (by omega), inB_nI (by omega) (by omega), fun h4 => ?_, fun h4 => ?_⟩
            · rw [Ok_nm, Ok_some, nI_1]
              exact ⟨hk2, rfl, Or.inr ⟨rfl, stepF (fun h => h4 h.2) hP⟩⟩
            · rw [Ok_nm, Ok_some, nI_1]
              exact ⟨hk2, rfl, Or.inl ⟨rfl, Or.inr ⟨k, by omega, h1, h2, Decidable.not_not.mp h4⟩⟩⟩
  · have e : (∃ i, i < 0 ∧ T.1 14 r = nI c ∧ ¬ T.1 19 i < 0 ∧ T.1 19 i = r6 (T.1 34) r k0) ↔ False := ⟨fun ⟨i, h, _⟩ => absurd h (Nat.not_lt_zero _), False.elim⟩
    simp only [e, or_false]
    exact ha
theorem p_isHeld {n : Nat} {T : MSt} {c k0 : Nat} (hn : 24 < n) (hk0 : k0 < 6) (h27 : T.1 27 0 = nI c) : (m_X8_isHeld n T (nI k0) = some 1 ∧ HeldM T c k0 24) ∨ (m_X8_isHeld n T (nI k0) = some 0 ∧ ¬ HeldM T c k0 24) := by
  have h : Ok (lpO (b_X8_isHeld_4 n T (nI k0)) n (0, 0)) (fun w => (w = 1 ∧ HeldM T c k0 24) ∨ (w = 0 ∧ ¬ HeldM T c k0 24)) := by
    refine ok_for2 (N := 24) hn (I := fun q a => (a = 1 ∧ HeldM T c k0 q) ∨ (a = 0 ∧ ¬ HeldM T c k0 q)) (fun q a hq hI => ?_) (Or.inr ⟨rfl, fun ⟨r, i, hr, _⟩ => absurd hr (Nat.not_lt_zero _)⟩)
    unfold b_X8_isHeld_4
    dsimp only
    rw [Ok_ite]
    refine ⟨fun h3 => ?_, fun h3 => ?_⟩
    · have e : q = 24 := ge_eq (by decide) hq h3
      rw [Ok_some]
      subst e
      exact hI
    · have hq2 : q < 24 := nge_lt (by decide) hq h3
      refine ok_seq (p_isHeldR hn hq2 hk0 h27 hI) (fun w hw => ?_)
      rw [Ok_nm, Ok_some, nI_1]
      have e : (HeldM T c k0 q ∨ ∃ i, i < 8 ∧ T.1 14 q = nI c ∧ ¬ T.1 19 i < 0 ∧ T.1 19 i = r6 (T.1 34) q k0) ↔ HeldM T c k0 (q + 1) := by
        refine ⟨fun h => ?_, fun ⟨r, i, hr, h⟩ => ?_⟩
        · rcases h with ⟨r, i, hr, h⟩ | ⟨i, h1, h2⟩
          · exact ⟨r, i, by omega, h⟩
          · exact ⟨q, i, by omega, h1, h2⟩
        · rcases Nat.lt_succ_iff_lt_or_eq.mp hr with h5 | h5
          · exact Or.inl ⟨r, i, h5, h⟩
          · rw [h5] at h
            exact Or.inr ⟨i, h⟩
      rw [e] at hw
      exact ⟨hq2, rfl, hw⟩
  obtain ⟨w, hw, hq⟩ := h
  unfold m_X8_isHeld
  rw [hw, Option.bind_some]
  rcases hq with ⟨e, h⟩ | ⟨e, h⟩
  · rw [e]; exact Or.inl ⟨rfl, h⟩
  · rw [e]; exact Or.inr ⟨rfl, h⟩
theorem p_lineJ {n : Nat} {T : MSt} {k0 : Nat} {x3 : Int32} (hn : 24 < n) (hk0 : k0 < 6) : lpO (b_X8_joinField_62 n (nI k0) x3) n (T, 0) = some (mR T 43 (fun l => if l < 24 then r6 (T.1 34) l k0 else T.1 43 l)) := by
  refine ok_get (ok_for2 (N := 24) hn (I := fun r S => S = mR T 43 (fun l => if l < r then r6 (T.1 34) l k0 else T.1 43 l)) (fun r S hr hS => ?_) (mR_self T 43 (funext fun l => if_neg (fun h => by omega))))
  have e34 : S.1 34 = T.1 34 := by rw [hS]; rfl
  unfold b_X8_joinField_62
  dsimp only
  rw [Ok_ite]
  refine ⟨fun h => ?_, fun h => ?_⟩
  · have e : r = 24 := ge_eq (by decide) hr h
    rw [Ok_some]
    subst e
    exact hS
  · have hr2 : r < 24 := nge_lt (by decide) hr h
    rw [Ok_bif, Ok_bif, ix6, Ok_nm, Ok_nm, Ok_some, nI_clamp (by omega), nI_clamp (by omega), e34]
    refine ⟨inB_nI (by omega) (by omega), inB_nI (by omega) (by omega), hr2, nI_1 r, ?_⟩
    show mI S 43 r (T.1 34 (6 * r + k0)) = _
    rw [hS]
    refine mI_mR _ _ _ _ _ _ (fun l => ?_)
    by_cases e : l = r
    · rw [if_pos e, if_pos (by omega), e]
      rfl
    · rw [if_neg e]
      have : (l < r + 1) ↔ (l < r) := by omega
      simp only [this]
/-- one column of the parts' values -/
theorem p_joinCol {n : Nat} {T : MSt} {c m i : Nat} {pt : Nat → Nat} {x3 : Int32} (hn : 24 < n) (h6 : m < 6) (hi : i < 6) (hm : T.1 28 0 = nI (m + 1)) (h27 : T.1 27 0 = nI c) (hpt : ∀ r, r < 24 → T.1 14 r = nI c → pt r < 24 ∧ T.1 43 r = nI (pt r)) : lpO (b_X8_joinField_162 n x3 (nI i)) n (T, 0) = some (mR T 34 (fun l => if l < 144 ∧ l % 6 = m ∧ T.1 14 (l / 6) = nI c then r6 (T.1 16) (pt (l / 6)) i else T.1 34 l)) := by
  refine ok_get (ok_for2 (N := 24) hn (I := fun r S => S = mR T 34 (fun l => if l < 6 * r ∧ l % 6 = m ∧ T.1 14 (l / 6) = nI c then r6 (T.1 16) (pt (l / 6)) i else T.1 34 l)) (fun r S hr hS => ?_) (mR_self T 34 (funext fun l => if_neg (fun h => by omega))))
  have fr : ∀ g, g ≠ 34 → S.1 g = T.1 g := fun g hg => by rw [hS, mR_at, if_neg hg]
  unfold b_X8_joinField_162
  dsimp only
  rw [Ok_ite]
  refine ⟨fun h => ?_, fun h => ?_⟩
  · have e : r = 24 := ge_eq (by decide) hr h
    rw [Ok_some]
    subst e
    exact hS
  · have hr2 : r < 24 := nge_lt (by decide) hr h
    rw [Ok_bif, nI_clamp (by omega), fr 14 (by omega), fr 27 (by omega), h27, Ok_ite]
    refine ⟨inB_nI hr2 (by omega), fun h1 => ?_, fun h1 => ?_⟩
    · rw [Ok_nm, Ok_some, nI_1]
      refine ⟨hr2, rfl, ?_⟩
      show S = _
      rw [hS]
      congr 1
      funext l
      have : (l < 6 * (r + 1) ∧ l % 6 = m ∧ T.1 14 (l / 6) = nI c) ↔ (l < 6 * r ∧ l % 6 = m ∧ T.1 14 (l / 6) = nI c) := by
        refine ⟨fun ⟨a1, a2, a3⟩ => ⟨?_, a2, a3⟩, fun ⟨a1, a2, a3⟩ => ⟨by omega, a2, a3⟩⟩
        by_cases e : l < 6 * r
        · exact e
        · exfalso
          rw [show l / 6 = r by omega] at a3
          exact h1 a3
      simp only [this]
    · have h1 : T.1 14 r = nI c := Decidable.not_not.mp h1
      obtain ⟨p1, p2⟩ := hpt r hr2 h1
      rw [Ok_bif, fr 43 (by omega), p2, ix6, fr 28 (by omega), hm, ix6, show 6 * r + (m + 1) = (6 * r + m) + 1 by omega, nI_pred, Ok_bif, Ok_bif, Ok_nm, Ok_nm, Ok_some, nI_clamp (by omega), nI_clamp (by omega), fr 16 (by omega)]
      refine ⟨inB_nI (by omega) (by omega), inB_nI (by omega) (by omega), inB_nI (by omega) (by omega), hr2, nI_1 r, ?_⟩
      show mI S 34 (6 * r + m) (T.1 16 (6 * pt r + i)) = _
      rw [hS]
      refine mI_mR _ _ _ _ _ _ (fun l => ?_)
      by_cases e : l = 6 * r + m
      · rw [if_pos e, show l / 6 = r by omega, if_pos ⟨by omega, by omega, h1⟩]
        rfl
      · rw [if_neg e]
        have : (l < 6 * (r + 1) ∧ l % 6 = m ∧ T.1 14 (l / 6) = nI c) ↔ (l < 6 * r ∧ l % 6 = m ∧ T.1 14 (l / 6) = nI c) := by
          refine ⟨fun ⟨a1, a2, a3⟩ => ⟨by omega, a2, a3⟩, fun ⟨a1, a2, a3⟩ => ⟨by omega, a2, a3⟩⟩
        simp only [this]
/-- the parts go -/
theorem p_joinDel {n : Nat} {T : MSt} {c d : Nat} {pt : Nat → Nat} {x3 : Int32} (hn : 24 < n) (hc : c < 4) (hd : d < 4) (hcd : d ≠ c) (h27 : T.1 27 0 = nI c) (hpt : ∀ r, r < 24 → T.1 14 r = nI c → pt r < 24 ∧ T.1 43 r = nI (pt r) ∧ T.1 14 (pt r) = nI d) : Ok (lpO (b_X8_joinField_233 n x3) n (T, 0)) (fun T' => (∀ g, g ≠ 14 → T'.1 g = T.1 g) ∧ (∀ r, r < 24 → T.1 14 r = nI c → T'.1 14 (pt r) = -1) ∧ ∀ y, (∀ r, r < 24 → T.1 14 r = nI c → y ≠ pt r) → T'.1 14 y = T.1 14 y) := by
  refine ok_for2 (N := 24) hn (I := fun q T' => (∀ g, g ≠ 14 → T'.1 g = T.1 g) ∧ (∀ r, r < 24 → r < q → T.1 14 r = nI c → T'.1 14 (pt r) = -1) ∧ ∀ y, (∀ r, r < 24 → r < q → T.1 14 r = nI c → y ≠ pt r) → T'.1 14 y = T.1 14 y) (fun q T' hq hI => ?_) ⟨fun _ _ => rfl, fun r _ hr => absurd hr (Nat.not_lt_zero _), fun _ _ => rfl⟩
  obtain ⟨i1, i2, i3⟩ := hI
  have cls : ∀ r, r < 24 → (T'.1 14 r = nI c ↔ T.1 14 r = nI c) := fun r hr => by
    by_cases hn' : ∃ r0, r0 < 24 ∧ r0 < q ∧ T.1 14 r0 = nI c ∧ r = pt r0
    · obtain ⟨r0, a1, a2, a3, a4⟩ := hn'
      rw [a4, i2 r0 a1 a2 a3, (hpt r0 a1 a3).2.2]
      exact ⟨fun h => absurd h (m1_ne_nI (by omega)), fun h => absurd (nI_inj4 hd hc h) hcd⟩
    · rw [i3 r (fun r0 a1 a2 a3 a4 => hn' ⟨r0, a1, a2, a3, a4⟩)]
  unfold b_X8_joinField_233
  dsimp only
  rw [Ok_ite]
  refine ⟨fun h => ?_, fun h => ?_⟩
  · have e : q = 24 := ge_eq (by decide) hq h
    rw [Ok_some]
    subst e
    exact ⟨i1, fun r hr h14 => i2 r hr hr h14, fun y hy => i3 y (fun r hr _ h14 => hy r hr h14)⟩
  · have hq2 : q < 24 := nge_lt (by decide) hq h
    rw [Ok_bif, nI_clamp (by omega), i1 27 (by omega), h27, Ok_ite]
    refine ⟨inB_nI hq2 (by omega), fun h1 => ?_, fun h1 => ?_⟩
    · rw [Ok_nm, Ok_some, nI_1]
      have hne : T.1 14 q ≠ nI c := fun e => h1 ((cls q hq2).mpr e)
      have lt : ∀ {r}, r < q + 1 → T.1 14 r = nI c → r < q := fun {r} hr h14 => by
        have : r ≠ q := fun e => hne (by rw [← e]; exact h14)
        omega
      exact ⟨hq2, rfl, i1, fun r hr hrq h14 => i2 r hr (lt hrq h14) h14, fun y hy => i3 y (fun r hr hrq h14 => hy r hr (by omega) h14)⟩
    · have h1 : T.1 14 q = nI c := (cls q hq2).mp (Decidable.not_not.mp h1)
      obtain ⟨p1, p2, p3⟩ := hpt q hq2 h1
      rw [Ok_bif, i1 43 (by omega), p2, Ok_bif, Ok_nm, Ok_nm, Ok_some, nI_1, nI_clamp (by omega)]
      refine ⟨inB_nI (by omega) (by omega), inB_nI p1 (by omega), hq2, rfl, fun g hg => ?_, fun r hr hrq h14 => ?_, fun y hy => ?_⟩
      · funext l
        rw [mI_at, if_neg (fun h => hg h.1), i1 g hg]
      · rw [mI_at]
        by_cases e : pt r = pt q
        · rw [if_pos ⟨rfl, e⟩]
        · rw [if_neg (fun h => e h.2)]
          refine i2 r hr ?_ h14
          have : r ≠ q := fun e2 => e (by rw [e2])
          omega
      · rw [mI_at, if_neg (fun h => hy q hq2 (by omega) h1 h.2)]
        exact i3 y (fun r hr hrq h14 => hy r hr (by omega) h14)
