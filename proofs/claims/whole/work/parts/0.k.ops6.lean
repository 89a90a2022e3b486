/-! ===== whether a record is owned ===== -/
theorem p_isOwned {n : Nat} {M : MSt} {K : Nat} (hn : 24 < n) (hM : MI K M.1) {t : Nat} (ht : t < 24) : (m_X8_isOwned n M (nI t) = some 1 ∧ ∃ r k, Own (M.1 4) (M.1 6) (M.1 14) (M.1 16) r k t) ∨ (m_X8_isOwned n M (nI t) = some 0 ∧ ∀ r k, ¬ Own (M.1 4) (M.1 6) (M.1 14) (M.1 16) r k t) := by
  have hK4 := hM.1.1
  have inner : ∀ r, r < 24 → ∀ a : Int32, ((a = 1 ∧ ∃ r' k, Own (M.1 4) (M.1 6) (M.1 14) (M.1 16) r' k t) ∨ (a = 0 ∧ ∀ r' k, r' < r → ¬ Own (M.1 4) (M.1 6) (M.1 14) (M.1 16) r' k t)) → Ok (lpO (b_X8_isOwned_13 n M (nI t) (nI r)) n (a, 0)) (fun b => (b = 1 ∧ ∃ r' k, Own (M.1 4) (M.1 6) (M.1 14) (M.1 16) r' k t) ∨ (b = 0 ∧ ∀ r' k, r' < r + 1 → ¬ Own (M.1 4) (M.1 6) (M.1 14) (M.1 16) r' k t)) := by
    intro r hr a ha
    rcases hM.2.2.1 r hr with hd | ⟨c, hc, h14, -⟩
    · refine ok_for2 (N := 0) (by omega) (I := fun _ b => b = a) (fun k b hk hb => ?_) rfl
      unfold b_X8_isOwned_13
      rw [Ok_bif, nI_clamp (by omega), hd, Ok_ite]
      refine ⟨inB_nI hr (by omega), fun _ => ?_, fun h => absurd m1_lt h⟩
      rw [Ok_some, hb]
      rcases ha with ha | ⟨ha, hb⟩
      · exact Or.inl ha
      · refine Or.inr ⟨ha, fun r' k hr' ho => ?_⟩
        rcases Nat.lt_succ_iff_lt_or_eq.mp hr' with h4 | h4
        · exact hb r' k h4 ho
        · obtain ⟨d, h1, -⟩ := ho
          have h2 := h1.2.2.1
          rw [h4, hd] at h2
          have := h1.2.1
          exact m1_ne_nI (by omega) h2
    · have hc4 : c < 4 := by omega
      obtain ⟨m, hm, hS⟩ := hM.2.1 c hc4
      have hm6 := hS.1
      refine ok_for2 (N := m) (by omega) (I := fun k b => (b = 1 ∧ ∃ r' k, Own (M.1 4) (M.1 6) (M.1 14) (M.1 16) r' k t) ∨ (b = 0 ∧ ∀ r' k', (r' < r ∨ r' = r ∧ k' < k) → ¬ Own (M.1 4) (M.1 6) (M.1 14) (M.1 16) r' k' t)) (fun k b hk hb => ?_) ?_
      · unfold b_X8_isOwned_13
        rw [Ok_bif, nI_clamp (by omega), h14, Ok_ite]
        refine ⟨inB_nI hr (by omega), fun h => absurd h (nI_pos (by omega)), fun _ => ?_⟩
        rw [Ok_bif, Ok_bif, nI_clamp (by omega : c < 2 ^ 31), hm, Ok_ite]
        refine ⟨inB_nI hr (by omega), inB_nI hc4 (by omega), fun h => ?_, fun h => ?_⟩
        · have e : k = m := ge_eq (by omega) hk h
          rw [Ok_some]
          rcases hb with hb | ⟨hb, hb2⟩
          · exact Or.inl hb
          · refine Or.inr ⟨hb, fun r' k' hr' ho => ?_⟩
            rcases Nat.lt_succ_iff_lt_or_eq.mp hr' with h4 | h4
            · exact hb2 r' k' (Or.inl h4) ho
            · refine hb2 r' k' (Or.inr ⟨h4, ?_⟩) ho
              obtain ⟨d, ⟨-, h1, h2, ⟨q, h5, h6, h7⟩, -⟩, -⟩ := ho
              rw [h4, h14] at h2
              have e2 := (nI_eq (by omega) (by omega)).mp h2
              subst e2
              have e3 := (nI_eq (by omega) (by omega)).mp (hm.symm.trans h6)
              omega
        · have hk2 : k < m := nge_lt (by omega) hk h
          rw [Ok_ite]
          refine ⟨fun h2 => ?_, fun h2 => ?_⟩
          · rw [Ok_nm, Ok_some]
            refine ⟨hk2, nI_1 k, ?_⟩
            rcases hb with hb | hb
            · exact Or.inl ⟨rfl, hb.2⟩
            · exact absurd hb.1 h2
          · have hb := hb.resolve_left (fun h3 => h2 (by show ¬ b = 0; rw [h3.1]; decide))
            have key : ¬ Own (M.1 4) (M.1 6) (M.1 14) (M.1 16) r k t → (∀ r' k', (r' < r ∨ r' = r ∧ k' < k + 1) → ¬ Own (M.1 4) (M.1 6) (M.1 14) (M.1 16) r' k' t) := fun h0 r' k' hr' ho => by
              rcases hr' with h4 | ⟨h4, h5⟩
              · exact hb.2 r' k' (Or.inl h4) ho
              · rcases Nat.lt_succ_iff_lt_or_eq.mp h5 with h6 | h6
                · exact hb.2 r' k' (Or.inr ⟨h4, h6⟩) ho
                · rw [h4, h6] at ho
                  exact h0 ho
            show Ok (bif inB (nI r) 24 then _ else none) _
            rw [Ok_bif, Ok_bif, ix6, nI_clamp (by omega : 6 * c + k < 2 ^ 31), Ok_ite]
            refine ⟨inB_nI hr (by omega), inB_nI (by omega) (by omega), fun h3 => ?_, fun h3 => ?_⟩
            · rw [Ok_nm, Ok_some]
              refine ⟨hk2, nI_1 k, Or.inr ⟨rfl, key ?_⟩⟩
              rintro ⟨d, h1, -⟩
              have e2 := (nI_eq (by have := h1.2.1; omega) (by omega)).mp (h1.2.2.1.symm.trans h14)
              subst e2
              exact h3 h1.2.2.2.2
            · have h3 := Decidable.not_not.mp h3
              show Ok (bif inB (6 * nI r + nI k) 144 then _ else none) _
              rw [Ok_bif, ix6, nI_clamp (by omega : 6 * r + k < 2 ^ 31), Ok_ite]
              refine ⟨inB_nI (by omega) (by omega), fun h4 => ?_, fun h4 => ?_⟩
              · rw [Ok_nm, Ok_some]
                refine ⟨hk2, nI_1 k, Or.inr ⟨rfl, key ?_⟩⟩
                rintro ⟨d, -, h5⟩
                exact h4 h5
              · rw [Ok_nm, Ok_some]
                exact ⟨hk2, nI_1 k, Or.inl ⟨rfl, r, k, c, ⟨hr, hc4, h14, ⟨m, hm6, hm, hk2⟩, h3⟩, Decidable.not_not.mp h4⟩⟩
      · rcases ha with ha | ⟨ha, hb⟩
        · exact Or.inl ha
        · exact Or.inr ⟨ha, fun r' k' h => hb r' k' (h.resolve_right (fun h2 => by omega))⟩
  have h : Ok (lpO (b_X8_isOwned_4 n M (nI t)) n (0, 0)) (fun b => (b = 1 ∧ ∃ r' k, Own (M.1 4) (M.1 6) (M.1 14) (M.1 16) r' k t) ∨ (b = 0 ∧ ∀ r' k, r' < 24 → ¬ Own (M.1 4) (M.1 6) (M.1 14) (M.1 16) r' k t)) := by
    refine ok_for2 (N := 24) hn (I := fun r a => (a = 1 ∧ ∃ r' k, Own (M.1 4) (M.1 6) (M.1 14) (M.1 16) r' k t) ∨ (a = 0 ∧ ∀ r' k, r' < r → ¬ Own (M.1 4) (M.1 6) (M.1 14) (M.1 16) r' k t)) (fun r a hr ha => ?_) (Or.inr ⟨rfl, fun r' k h => absurd h (Nat.not_lt_zero _)⟩)
    unfold b_X8_isOwned_4
    rw [Ok_ite]
    refine ⟨fun h => ?_, fun h => ?_⟩
    · have e : r = 24 := ge_eq (by decide) hr h
      rw [Ok_some]
      rw [e] at ha
      exact ha
    · have hr2 : r < 24 := nge_lt (by decide) hr h
      refine ok_seq (inner r hr2 a ha) (fun b hb => ?_)
      rw [Ok_nm, Ok_some]
      exact ⟨hr2, nI_1 r, hb⟩
  obtain ⟨b, hb, hb2⟩ := h
  unfold m_X8_isOwned
  rw [hb, Option.bind_some]
  rcases hb2 with ⟨e, h1⟩ | ⟨e, h1⟩
  · subst e
    exact Or.inl ⟨rfl, h1⟩
  · subst e
    exact Or.inr ⟨rfl, fun r k ho => h1 r k ho.choose_spec.1.1 ho⟩
/-- what an owning field holds, as an id -/
theorem own_id {j K L : Nat} {σ τ : Nat → Nat} {s : Nat → Nat → Nat → Int32} {m : Nat → Nat → Int32} (hM : MI K m) (hC : CR j K L σ τ s m) {r c k t : Nat} (hF : Fld (m 4) (m 6) (m 14) r c k 2) (ht : t < 24) (hl : m 14 t ≠ -1) : s 17 (σ r) k = s 13 (σ t) 0 ↔ r6 (m 16) r k = nI t := by
  obtain ⟨kcls, ksh, kold, krec, kid, kcnt, kval, kroot, koldv, kwrd, kstp, kflt⟩ := hC
  have hv := kval r c k 2 hF
  rw [if_neg (by decide)] at hv
  rcases ref_live hM hF (by decide) with h | ⟨p, hp, h, hlp⟩
  · rw [hv, h, tr_m1]
    exact ⟨fun e => absurd e.symm (krec.1 t ht hl).2.2.1, fun e => absurd e (m1_ne_nI (by omega))⟩
  · rw [hv, h, tr_nI σ _ hp]
    obtain ⟨p1, p2, p3, -⟩ := krec.1 p hp hlp
    obtain ⟨t1, t2, t3, -⟩ := krec.1 t ht hl
    refine ⟨fun e => ?_, fun e => ?_⟩
    · have e2 := kid.2.2.2 _ p1 p3 _ t1 e
      rw [← p2, e2, t2]
    · rw [(nI_eq (by omega) (by omega)).mp e]
theorem q_owns {n : Nat} {j K L : Nat} {σ τ : Nat → Nat} {C : CSt} {M : MSt} (hn : 24 < n) (hM : MI K M.1) (hC : CR j K L σ τ C.1 M.1) {r t : Nat} (hr : r < 24) (hlr : M.1 14 r ≠ -1) (ht : t < 24) (hl : M.1 14 t ≠ -1) : (m_X7_owns n C (σ r) (C.1 13 (σ t) 0) = some 1 ∧ ∃ k, Own (M.1 4) (M.1 6) (M.1 14) (M.1 16) r k t) ∨ (m_X7_owns n C (σ r) (C.1 13 (σ t) 0) = some 0 ∧ ∀ k, ¬ Own (M.1 4) (M.1 6) (M.1 14) (M.1 16) r k t) := by
  have hK4 := hM.1.1
  rcases hM.2.2.1 r hr with hd | ⟨c, hc, h14, -⟩
  · exact absurd hd hlr
  have hc4 : c < 4 := by omega
  obtain ⟨m, hm, hS⟩ := hM.2.1 c hc4
  have hm6 := hS.1
  have hks := hC.2.1 c m hc4 hm6 hm
  have h14c : C.1 14 (σ r) 0 = nI c := ((hC.2.2.2.1.1 r hr hlr).2.2.2.1).trans h14
  have hF : ∀ k, k < m → r6 (M.1 6) c k = 2 → Fld (M.1 4) (M.1 6) (M.1 14) r c k 2 := fun k hk h => ⟨hr, hc4, h14, ⟨m, hm6, hm, hk⟩, h⟩
  have h : Ok (lpO (b_X7_owns_16 n C (σ r) (C.1 13 (σ t) 0) (2 * c)) n 0) (sumE (fun _ => ∃ k, Own (M.1 4) (M.1 6) (M.1 14) (M.1 16) r k t) (fun _ => ∀ k, ¬ Own (M.1 4) (M.1 6) (M.1 14) (M.1 16) r k t)) := by
    refine ok_for1 (N := m) (by omega) (I := fun k => ∀ k', k' < k → ¬ Own (M.1 4) (M.1 6) (M.1 14) (M.1 16) r k' t) (fun k hk hi => ?_) (fun e he => absurd he (Nat.not_lt_zero _))
    have key : ¬ Own (M.1 4) (M.1 6) (M.1 14) (M.1 16) r k t → ∀ k', k' < k + 1 → ¬ Own (M.1 4) (M.1 6) (M.1 14) (M.1 16) r k' t := fun h0 k' hk' ho => by
      rcases Nat.lt_succ_iff_lt_or_eq.mp hk' with h4 | h4
      · exact hi k' h4 ho
      · rw [h4] at ho; exact h0 ho
    have cls : ∀ {d k}, Fld (M.1 4) (M.1 6) (M.1 14) r d k 2 → d = c := fun {d k} h1 => (nI_eq (by have := h1.2.1; omega) (by omega)).mp (h1.2.2.1.symm.trans h14)
    unfold b_X7_owns_16
    rw [hks.1, Ok_ite]
    refine ⟨fun h => ?_, fun h => ?_⟩
    · have e : k = m := ge_eq (by omega) hk h
      rw [Ok_some]
      intro k' ho
      refine hi k' ?_ ho
      obtain ⟨d, h1, -⟩ := ho
      have e2 := cls h1
      subst e2
      obtain ⟨q, h5, h6, h7⟩ := h1.2.2.2.1
      have e3 := (nI_eq (by omega) (by omega)).mp (hm.symm.trans h6)
      omega
    · have hk2 : k < m := nge_lt (by omega) hk h
      rw [q_isOwn hm6 hks.1 hk2, Ok_bind, Ok_some, (hks.2 k hk2).2.1, Ok_ite]
      by_cases h2 : r6 (M.1 6) c k = 2
      · rw [if_pos h2]
        refine ⟨fun h3 => absurd h3 one_ne, fun _ => ?_⟩
        rw [Ok_bif, nI_clamp (by omega), Ok_ite]
        refine ⟨inB_nI (by omega) (by omega), fun h3 => ?_, fun h3 => ?_⟩
        · rw [Ok_nm, Ok_some]
          refine ⟨hk2, nI_1 k, key ?_⟩
          rintro ⟨d, h1, h4⟩
          have e2 := cls h1
          subst e2
          exact h3 ((own_id hM hC h1 ht hl).mpr h4)
        · rw [Ok_some]
          exact ⟨k, c, hF k hk2 h2, (own_id hM hC (hF k hk2 h2) ht hl).mp (Decidable.not_not.mp h3)⟩
      · rw [if_neg h2]
        refine ⟨fun _ => ?_, fun h3 => absurd rfl h3⟩
        rw [Ok_nm, Ok_some]
        refine ⟨hk2, nI_1 k, key ?_⟩
        rintro ⟨d, h1, -⟩
        have e2 := cls h1
        subst e2
        exact h2 h1.2.2.2.2
  obtain ⟨o, ho, hq⟩ := h
  unfold m_X7_owns
  rw [h14c, inB_nI hc4 (by omega), nI_clamp (by omega), ho]
  cases o with
  | inl w => exact Or.inl ⟨rfl, hq⟩
  | inr w => exact Or.inr ⟨rfl, hq⟩
theorem q_isOwned {n : Nat} {j K L : Nat} {σ τ : Nat → Nat} {C : CSt} {M : MSt} (hn : 24 < n) (hM : MI K M.1) (hC : CR j K L σ τ C.1 M.1) {t : Nat} (ht : t < 24) (hl : M.1 14 t ≠ -1) : (m_X7_isOwned n C (C.1 13 (σ t) 0) = some 1 ∧ ∃ r k, Own (M.1 4) (M.1 6) (M.1 14) (M.1 16) r k t) ∨ (m_X7_isOwned n C (C.1 13 (σ t) 0) = some 0 ∧ ∀ r k, ¬ Own (M.1 4) (M.1 6) (M.1 14) (M.1 16) r k t) := by
  obtain ⟨kcls, ksh, kold, krec, kid, kcnt, kval, kroot, koldv, kwrd, kstp, kflt⟩ := id hC
  have h : Ok (lpO (b_X7_isOwned_2 n C (C.1 13 (σ t) 0)) n 0) (sumE (fun _ => ∃ r k, Own (M.1 4) (M.1 6) (M.1 14) (M.1 16) r k t) (fun _ => ∀ e, e < 24 → C.1 13 e 0 ≠ 0 → ∀ k, ¬ Own (M.1 4) (M.1 6) (M.1 14) (M.1 16) (τ e) k t)) := by
    refine ok_for1 (N := 24) hn (I := fun e => ∀ e', e' < e → C.1 13 e' 0 ≠ 0 → ∀ k, ¬ Own (M.1 4) (M.1 6) (M.1 14) (M.1 16) (τ e') k t) (fun e he hi => ?_) (fun e he => absurd he (Nat.not_lt_zero _))
    unfold b_X7_isOwned_2
    rw [Ok_ite]
    refine ⟨fun h => ?_, fun h => ?_⟩
    · have e2 : e = 24 := ge_eq (by decide) he h
      rw [Ok_some]
      rw [e2] at hi
      exact hi
    · have he2 : e < 24 := nge_lt (by decide) he h
      rw [Ok_bif, nI_clamp (by omega), Ok_ite]
      refine ⟨inB_nI he2 (by omega), fun h2 => ?_, fun h2 => ?_⟩
      · rw [Ok_nm, Ok_some]
        refine ⟨he2, nI_1 e, fun e' he' hl' k => ?_⟩
        rcases Nat.lt_succ_iff_lt_or_eq.mp he' with h4 | h4
        · exact hi e' h4 hl' k
        · rw [h4] at hl'; exact absurd h2 hl'
      · obtain ⟨g1, g2, g3⟩ := krec.2 e he2 h2
        have ho := q_owns hn hM hC (r := τ e) g1 g3 ht hl
        rw [g2] at ho
        rcases ho with ⟨h3, k, h4⟩ | ⟨h3, h4⟩
        · rw [h3, Ok_bind, Ok_some, Ok_ite]
          refine ⟨fun h5 => absurd h5 one_ne, fun _ => ?_⟩
          rw [Ok_some]
          exact ⟨τ e, k, h4⟩
        · rw [h3, Ok_bind, Ok_some, Ok_ite]
          refine ⟨fun _ => ?_, fun h5 => absurd rfl h5⟩
          rw [Ok_nm, Ok_some]
          refine ⟨he2, nI_1 e, fun e' he' hl' k => ?_⟩
          rcases Nat.lt_succ_iff_lt_or_eq.mp he' with h5 | h5
          · exact hi e' h5 hl' k
          · rw [h5]; exact h4 k
  obtain ⟨o, ho, hq⟩ := h
  unfold m_X7_isOwned
  rw [ho]
  cases o with
  | inl w => exact Or.inl ⟨rfl, hq⟩
  | inr w =>
    refine Or.inr ⟨rfl, fun r k ho => ?_⟩
    obtain ⟨d, h1, -⟩ := id ho
    have hlr : M.1 14 r ≠ -1 := by rw [h1.2.2.1]; exact nI_ne_m1 (by have := h1.2.1; omega)
    obtain ⟨g1, g2, g3, -⟩ := krec.1 r h1.1 hlr
    have hq' : ∀ e, e < 24 → C.1 13 e 0 ≠ 0 → ∀ k, ¬ Own (M.1 4) (M.1 6) (M.1 14) (M.1 16) (τ e) k t := hq
    exact hq' (σ r) g1 g3 k (by rw [g2]; exact ho)
