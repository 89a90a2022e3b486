theorem do_same (n : Nat) : Do_same n Rel := fun j C M hj hR x1 x2 => by
  obtain ⟨K, L, σ, τ, hM, hC⟩ := id hR
  rcases nI_lt3 (x := x1) (N := 8) (by decide) with ⟨i, hi, e⟩ | ⟨-, h⟩
  · subst e
    rcases nI_lt3 (x := x2) (N := 8) (by decide) with ⟨i2, hi2, e⟩ | ⟨-, h⟩
    · subst e
      have hc : m_X7_same n C (nI i) (nI i2) = if ¬ C.1 19 0 i = C.1 19 0 i2 then some (.inl 0) else some (.inl 1) := by
        unfold m_X7_same
        rw [q_needRoot n C hi, q_needRoot n C hi2, inB_nI hi (by omega), inB_nI hi2 (by omega), nI_clamp (by omega), nI_clamp (by omega)]
        rfl
      have hm : m_X8_same n M (nI i) (nI i2) = if ¬ M.1 19 i = M.1 19 i2 then some (0, mI M 0 0 0) else some (1, mI M 0 0 0) := by
        unfold m_X8_same
        rw [p_isRoot n M hi, Option.bind_some, if_neg one_ne, p_isRoot n M hi2, Option.bind_some, if_neg one_ne]
        unfold m_X8_same_J20
        rw [code0e, inB_nI hi (by omega), inB_nI hi2 (by omega), nI_clamp (by omega), nI_clamp (by omega)]
        rfl
      have key : C.1 19 0 i = C.1 19 0 i2 ↔ M.1 19 i = M.1 19 i2 := by
        obtain ⟨kcls, ksh, kold, krec, kid, kcnt, kval, kroot, koldv, kwrd, kstp, kflt⟩ := id hC
        rcases root_cases hM hC hi with ⟨a1, a2⟩ | ⟨p, c, hp, hcK, a1, a2, a3, a4, a5, a6, a7⟩
        · rcases root_cases hM hC hi2 with ⟨b1, b2⟩ | ⟨p', c', hp', hcK', b1, b2, b3, b4, b5, b6, b7⟩
          · rw [a1, a2, b1, b2]; simp
          · rw [a1, a2, b1, b3]
            exact ⟨fun h => absurd h.symm b5, fun h => absurd h (m1_ne_nI (by omega))⟩
        · rcases root_cases hM hC hi2 with ⟨b1, b2⟩ | ⟨p', c', hp', hcK', b1, b2, b3, b4, b5, b6, b7⟩
          · rw [a1, a3, b1, b2]
            exact ⟨fun h => absurd h a5, fun h => absurd h (nI_ne_m1 (by omega))⟩
          · rw [a1, a3, b1, b3]
            refine ⟨fun h => ?_, fun h => ?_⟩
            · have h1 := kid.2.2.2 (σ p) a4 a5 (σ p') b4 h
              have h2 := (krec.1 p hp (by rw [a2]; exact nI_ne_m1 (by have := hM.1.1; omega))).2.1
              have h3 := (krec.1 p' hp' (by rw [b2]; exact nI_ne_m1 (by have := hM.1.1; omega))).2.1
              rw [← h2, h1, h3]
            · rw [(nI_eq (by omega) (by omega)).mp h]
      by_cases h : M.1 19 i = M.1 19 i2
      · rw [if_neg (fun h2 => h2 h)] at hm
        rw [if_neg (fun h2 => h2 (key.mpr h))] at hc
        exact stP_ok hc hm rfl rfl (Rel_code 0 (Rel_up hR))
      · rw [if_pos h] at hm
        rw [if_pos (fun h2 => h (key.mp h2))] at hc
        exact stP_ok hc hm rfl rfl (Rel_code 0 (Rel_up hR))
    · refine stP_ex (w := (0, mI M 0 0 1)) (k := 1) (C2 := C) ?_ ?_ (by decide) rfl (Rel_code 1 (Rel_up hR))
      · unfold m_X7_same
        rw [q_needRoot n C hi, q_needRoot0 n C h]
        rfl
      · unfold m_X8_same
        rw [p_isRoot n M hi, Option.bind_some, if_neg one_ne, p_isRoot0 n M h]
        rfl
  · refine stP_ex (w := (0, mI M 0 0 1)) (k := 1) (C2 := C) ?_ ?_ (by decide) rfl (Rel_code 1 (Rel_up hR))
    · unfold m_X7_same
      rw [q_needRoot0 n C h]
      rfl
    · unfold m_X8_same
      rw [p_isRoot0 n M h]
      rfl
/-! ===== what a root's record is: holdsNothing, heldBy ===== -/
theorem p_holds0 {n : Nat} {M : MSt} {i : Nat} (hi : i < 8) (h : M.1 19 i = -1) : m_X8_holdsNothing n M (nI i) = some (1, mI M 0 0 2) := by
  unfold m_X8_holdsNothing
  rw [p_isRoot n M hi, Option.bind_some, if_pos one_ne, inB_nI hi (by omega), nI_clamp (by omega), h]
  rfl
theorem p_holds {n : Nat} {M : MSt} {i p : Nat} (hi : i < 8) (hp : p < 24) (h : M.1 19 i = nI p) : m_X8_holdsNothing n M (nI i) = some (0, mI M 0 0 0) := by
  unfold m_X8_holdsNothing
  rw [p_isRoot n M hi, Option.bind_some, if_pos one_ne, inB_nI hi (by omega), nI_clamp (by omega), h, if_pos (nI_pos' (by omega))]
  rfl
theorem p_holdsX {n : Nat} {M : MSt} {x : Int32} (h : x < 0 ∨ nI 8 ≤ x) : m_X8_holdsNothing n M x = some (1, mI M 0 0 1) := by
  unfold m_X8_holdsNothing
  rw [p_isRoot0 n M h]
  rfl
theorem do_versionOf (n : Nat) (hn : 24 < n) : Do_versionOf n Rel := fun j C M hj hR x1 => by
  obtain ⟨K, L, σ, τ, hM, hC⟩ := id hR
  rcases nI_lt3 (x := x1) (N := 8) (by decide) with ⟨i, hi, e⟩ | ⟨-, h⟩
  · subst e
    rcases root_cases hM hC hi with ⟨a1, a2⟩ | ⟨p, c, hp, hcK, a1, a2, a3, a4, a5, a6, a7⟩
    · refine stP_ex (w := (0, mI M 0 0 2)) (k := 2) (C2 := C) ?_ ?_ (by decide) rfl (Rel_code 2 (Rel_up hR))
      · unfold m_X7_versionOf
        rw [q_needRoot n C hi, q_held0 hi a2]
        rfl
      · unfold m_X8_versionOf
        rw [p_holds0 hi a1]
        rfl
    · refine stP_ok (w := (M.1 15 p, mI M 0 0 0)) (v := C.1 15 (σ p) 0) ?_ ?_ rfl a7.symm (Rel_code 0 (Rel_up hR))
      · unfold m_X7_versionOf
        rw [q_needRoot n C hi, q_held hn hi a4 a3 a5 hC.2.2.2.2.1.2.2.2]
        show (bif decide (σ p < 24) then _ else _) = _
        rw [decide_eq_true a4]
        rfl
      · unfold m_X8_versionOf
        rw [p_holds hi hp a1, Option.bind_some, if_pos rfl, inB_nI hi (by omega), nI_clamp (by omega)]
        show (bif inB (M.1 19 i) 24 then some (M.1 15 (M.1 19 i).toNatClampNeg, mI M 0 0 0) else none) = _
        rw [a1, inB_nI hp (by omega), nI_clamp (by omega)]
        rfl
  · refine stP_ex (w := (0, mI M 0 0 1)) (k := 1) (C2 := C) ?_ ?_ (by decide) rfl (Rel_code 1 (Rel_up hR))
    · unfold m_X7_versionOf
      rw [q_needRoot0 n C h]
      rfl
    · unfold m_X8_versionOf
      rw [p_holdsX h]
      rfl
/-! ===== a record is brought forward ===== -/
theorem p_touch {n : Nat} {M : MSt} {p c : Nat} (hp : p < 24) (hc : c < 4) (h : M.1 14 p = nI c) : m_X8_touchRecord n M (nI p) = some (mI M 15 p (M.1 2 c)) := by
  unfold m_X8_touchRecord
  rw [nI_clamp (by omega), h, inB_nI hp (by omega), inB_nI hc (by omega), nI_clamp (by omega)]
  rfl
theorem q_bring {n : Nat} {S : CSt} {e c : Nat} (hc : c < 4) (h : S.1 14 e 0 = nI c) : m_X7_bringForward n S e = some (S.1 3 c 0 - S.1 15 e 0, sI S 15 e 0 (S.1 3 c 0)) := by
  unfold m_X7_bringForward
  rw [h, inB_nI hc (by omega), nI_clamp (by omega)]
  rfl
theorem cl_of {K : Nat} {m2 m14 m15 : Nat → Int32} (h : MIrec K m2 m14 m15) {p c : Nat} (hK : K ≤ 4) (hp : p < 24) (h1 : c < 4) (h2 : m14 p = nI c) : c < K ∧ 0 ≤ m15 p ∧ m15 p ≤ m2 c := by
  rcases h p hp with h3 | ⟨c', h3, h4, h5⟩
  · rw [h2] at h3
    exact absurd h3 (nI_ne_m1 (by omega))
  · rw [h2] at h4
    have h6 := (nI_eq (by omega) (by omega)).mp h4
    subst h6
    exact ⟨h3, h5⟩
theorem Rel_touch {j : Nat} {C : CSt} {M : MSt} {K L : Nat} {σ τ : Nat → Nat} (hM : MI K M.1) (hC : CR j K L σ τ C.1 M.1) {p c : Nat} (hp : p < 24) (hcK : c < K) (h : M.1 14 p = nI c) : MI K (mI M 15 p (M.1 2 c)).1 ∧ CR j K L σ τ (sI C 15 (σ p) 0 (C.1 3 c 0)).1 (mI M 15 p (M.1 2 c)).1 := by
  obtain ⟨hcls, hsh, hrec, hval, hroot, hrank, hold, hwrd, hstp⟩ := hM
  obtain ⟨kcls, ksh, kold, krec, kid, kcnt, kval, kroot, koldv, kwrd, kstp, kflt⟩ := hC
  have hc4 : c < 4 := by have := hcls.1; omega
  refine ⟨⟨hcls, hsh, ?_, hval, hroot, hrank, hold, hwrd, hstp⟩, ⟨kcls, ksh, kold, ?_, kid, kcnt, kval, kroot, koldv, kwrd, kstp, kflt⟩⟩
  · intro r hr
    show M.1 14 r = -1 ∨ ∃ c', c' < K ∧ M.1 14 r = nI c' ∧ 0 ≤ (mI M 15 p (M.1 2 c)).1 15 r ∧ (mI M 15 p (M.1 2 c)).1 15 r ≤ M.1 2 c'
    rw [mI_at]
    by_cases e : r = p
    · subst e
      rw [if_pos ⟨rfl, rfl⟩]
      obtain ⟨v, hv, e2, -⟩ := (hcls.2.2 c hc4).1
      exact Or.inr ⟨c, hcK, h, by rw [e2]; exact nI_pos' (by omega), Int32.le_refl _⟩
    · rw [if_neg (fun h2 => e h2.2)]
      exact hrec r hr
  · refine ⟨fun r hr hl => ?_, krec.2⟩
    obtain ⟨g1, g2, g3, g4, g5⟩ := krec.1 r hr hl
    refine ⟨g1, g2, g3, g4, ?_⟩
    rw [mI_at, sI_at]
    by_cases e : r = p
    · subst e
      rw [if_pos ⟨rfl, rfl, rfl⟩, if_pos ⟨rfl, rfl⟩]
      exact (kcls.2 c hc4).1
    · have hlp : M.1 14 p ≠ -1 := by rw [h]; exact nI_ne_m1 (by omega)
      rw [if_neg (fun h2 => e (by
        have e2 : σ r = σ p := h2.2.1
        rw [← g2, e2, (krec.1 p hp hlp).2.1])), if_neg (fun h2 => e h2.2)]
      exact g5
theorem do_touch (n : Nat) (hn : 24 < n) : Do_touch n Rel := fun j C M hj hR x1 => by
  obtain ⟨K, L, σ, τ, hM, hC⟩ := id hR
  rcases nI_lt3 (x := x1) (N := 8) (by decide) with ⟨i, hi, e⟩ | ⟨-, h⟩
  · subst e
    rcases root_cases hM hC hi with ⟨a1, a2⟩ | ⟨p, c, hp, hcK, a1, a2, a3, a4, a5, a6, a7⟩
    · refine stI_ex (w := (0, mI M 0 0 2)) (k := 2) (C2 := C) ?_ ?_ (by decide) rfl (Rel_code 2 (Rel_up hR))
      · unfold m_X7_touch
        rw [q_needRoot n C hi, q_held0 hi a2]
        rfl
      · unfold m_X8_touch
        rw [p_holds0 hi a1]
        rfl
    · have hc4 : c < 4 := by have := hM.1.1; omega
      obtain ⟨f1, f2⟩ := Rel_touch (M := mI M 0 0 0) hM hC hp hcK a2
      refine stI_ok (w := (M.1 2 c - M.1 15 p, mI (mI M 0 0 0) 15 p (M.1 2 c))) (v := C.1 3 c 0 - C.1 15 (σ p) 0) (C2 := sI C 15 (σ p) 0 (C.1 3 c 0)) ?_ ?_ rfl ?_ ⟨K, L, σ, τ, f1, CR_up f2⟩
      · unfold m_X7_touch
        rw [q_needRoot n C hi, q_held hn hi a4 a3 a5 hC.2.2.2.2.1.2.2.2]
        show (bif decide (σ p < 24) then _ else _) = _
        rw [decide_eq_true a4, q_bring hc4 a6]
        rfl
      · unfold m_X8_touch
        rw [p_holds hi hp a1, Option.bind_some, if_pos rfl, inB_nI hi (by omega), nI_clamp (by omega)]
        show (bif inB (M.1 19 i) 24 then nm (M.1 15 (M.1 19 i).toNatClampNeg) (fun x26 => (m_X8_touchRecord n (mI M 0 0 0) (M.1 19 i)).bind (fun z29 => bif inB (z29.1 19 i) 24 then some ((z29.1 15 (z29.1 19 i).toNatClampNeg) - x26, z29) else none)) else none) = _
        rw [a1, inB_nI hp (by omega), p_touch (M := mI M 0 0 0) hp hc4 a2, nI_clamp (by omega)]
        show (bif inB (M.1 19 i) 24 then some ((mI (mI M 0 0 0) 15 p (M.1 2 c)).1 15 (M.1 19 i).toNatClampNeg - M.1 15 p, mI (mI M 0 0 0) 15 p (M.1 2 c)) else none) = _
        rw [a1, inB_nI hp (by omega), nI_clamp (by omega), mI_eq]
        rfl
      · show M.1 2 c - M.1 15 p = _
        rw [a7, (hC.1.2 c hc4).1]
  · refine stI_ex (w := (0, mI M 0 0 1)) (k := 1) (C2 := C) ?_ ?_ (by decide) rfl (Rel_code 1 (Rel_up hR))
    · unfold m_X7_touch
      rw [q_needRoot0 n C h]
      rfl
    · unfold m_X8_touch
      rw [p_holdsX h]
      rfl
