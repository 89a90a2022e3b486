/-! ===== change: the steps of a script, one after the other ===== -/
def ChnP (n j K : Nat) (B : MSt) (D : CSt) (σ : Nat → Nat) (c m0 k : Nat) (Ts : Nat → MSt) (ms : Nat → Nat) : Prop := Ts 0 = B ∧ ms 0 = m0 ∧ ∀ i, i < k → Acc n j K B D σ c m0 i (Ts i) (ms i) (Ts (i + 1)) (ms (i + 1))
theorem chn_JM {n j K : Nat} {B : MSt} {D : CSt} {σ : Nat → Nat} {c m0 k : Nat} {Ts : Nat → MSt} {ms : Nat → Nat} (h : ChnP n j K B D σ c m0 k Ts ms) (h0 : JM K B B c m0 m0) : ∀ i, i ≤ k → JM K B (Ts i) c m0 (ms i)
  | 0, _ => by rw [h.1, h.2.1]; exact h0
  | i + 1, hi => (h.2.2 i (by omega)).1
theorem mI_self (T : MSt) {f k : Nat} {v : Int32} (h : T.1 f k = v) : mI T f k v = T := by
  refine Prod.ext (funext fun g => funext fun l => ?_) rfl
  rw [mI_at]
  split
  · rename_i e
    rw [e.1, e.2, h]
  · rfl
theorem p_run {n j K L q : Nat} {σ τ : Nat → Nat} {D : CSt} {B : MSt} {c m0 : Nat} {x1 : Int32} (hn : 200 < n) (hb : Base j K L q σ τ D B c m0) (h0 : JM K B B c m0 m0) : Ok (lpO (b_X8_change_73 n x1 (nI q)) n (B, 0)) (fun w => ∃ Ts ms, (w.1 26 0 = -1 ∧ ChnP n j K B D σ c m0 q Ts ms ∧ w = Ts q) ∨ ∃ k T', k < q ∧ ChnP n j K B D σ c m0 k Ts ms ∧ Rej n B D c k (Ts k) (ms k) T' ∧ w = mI T' 26 0 (nI k)) := by
  have hq6 : q ≤ 6 := hb.2.2.2.2.2.1
  refine ok_for2 (N := q) (by omega) (I := fun k T => ∃ Ts ms, (ChnP n j K B D σ c m0 k Ts ms ∧ T = Ts k) ∨ ∃ k' T', k' < q ∧ k' < k ∧ ChnP n j K B D σ c m0 k' Ts ms ∧ Rej n B D c k' (Ts k') (ms k') T' ∧ T = mI T' 26 0 (nI k')) (fun k T hk hI => ?_) ⟨fun _ => B, fun _ => m0, Or.inl ⟨⟨rfl, rfl, fun i hi => absurd hi (Nat.not_lt_zero _)⟩, rfl⟩⟩
  obtain ⟨Ts, ms, hI⟩ := hI
  unfold b_X8_change_73
  dsimp only
  rw [Ok_ite]
  rcases hI with ⟨hC, hT⟩ | ⟨k', T', k1, k2, hC, hR, hT⟩
  · have hJ := chn_JM hC h0 k (Nat.le_refl _)
    have e26 : T.1 26 0 = -1 := by rw [hT]; exact hJ.2.2.2.2.1
    refine ⟨fun h3 => ?_, fun h3 => ?_⟩
    · rw [Ok_some]
      have ek := ge_eq (by omega) hk h3
      subst ek
      exact ⟨Ts, ms, Or.inl ⟨e26, hC, hT⟩⟩
    · have hk2 := nge_lt (by omega) hk h3
      rw [e26, if_neg (show ¬ (0 : Int32) ≤ -1 by decide), hT]
      obtain ⟨T', hs⟩ := step_all (n := n) (by omega) hb hk2 hJ
      rcases hs with ⟨h1, h2⟩ | ⟨m', h1, h2⟩
      · rw [h1, Ok_bind, Ok_some, if_pos rfl]
        unfold m_X8_change_J99
        rw [Ok_nm, Ok_nm, Ok_some, nI_1]
        exact ⟨hk2, rfl, Ts, ms, Or.inr ⟨k, T', hk2, by omega, hC, h2, rfl⟩⟩
      · rw [h1, Ok_bind, Ok_some, if_neg one_ne]
        unfold m_X8_change_J99
        rw [Ok_nm, Ok_nm, Ok_some, nI_1, mI_self T' h2.1.2.2.2.2.1]
        refine ⟨hk2, rfl, fun i => if i = k + 1 then T' else Ts i, fun i => if i = k + 1 then m' else ms i, Or.inl ⟨⟨?_, ?_, fun i hi => ?_⟩, ?_⟩⟩
        · dsimp only
          rw [if_neg (by omega)]; exact hC.1
        · dsimp only
          rw [if_neg (by omega)]; exact hC.2.1
        · dsimp only
          by_cases e : i = k
          · subst e
            rw [if_neg (by omega), if_neg (by omega), if_pos rfl, if_pos rfl]
            exact h2
          · rw [if_neg (by omega), if_neg (by omega), if_neg (by omega), if_neg (by omega)]
            exact hC.2.2 i (by omega)
        · dsimp only
          rw [if_pos rfl]
  · have e26 : T.1 26 0 = nI k' := by rw [hT, mI_eq]
    have stop : ∃ Ts ms, (T.1 26 0 = -1 ∧ ChnP n j K B D σ c m0 q Ts ms ∧ T = Ts q) ∨ ∃ k T', k < q ∧ ChnP n j K B D σ c m0 k Ts ms ∧ Rej n B D c k (Ts k) (ms k) T' ∧ T = mI T' 26 0 (nI k) := ⟨Ts, ms, Or.inr ⟨k', T', k1, hC, hR, hT⟩⟩
    refine ⟨fun h3 => by rw [Ok_some]; exact stop, fun h3 => ?_⟩
    rw [e26, if_pos (nI_pos' (by omega)), Ok_some]
    exact stop
/-! ===== change: the class looks whether the script can be done ===== -/
theorem JB_frP {D S S' : CSt} {T : MSt} {m : Nat} {rec : Int32} (h : JB D S T m rec) (hf : FrP S S') : JB D S' T m rec := by
  obtain ⟨a1, a2, a3, a4⟩ := h
  refine ⟨⟨a1.1, by rw [hf 5 (by omega)]; exact a1.2.1, a1.2.2.1, fun k hk => ?_⟩, fun g g1 g2 => by rw [hf g g1, a2 g g1 g2], fun g i g1 g2 g3 => by rw [hf g (by omega), a3 g i g1 g2 g3], a4⟩
  rw [hf 6 (by omega), hf 7 (by omega), hf 8 (by omega), hf 9 (by omega), hf 10 (by omega)]
  exact a1.2.2.2 k hk
theorem q_startFrom {n : Nat} {S : CSt} {i2 m0 : Nat} (hn : 6 < n) (hi : (8 : Nat) ≠ i2) (hm0 : m0 ≤ 6) (h5 : S.1 5 i2 0 = nI m0) : Ok (m_X4_startFrom n S 8 i2) (fun S' => FrD S S' ∧ S'.1 5 8 0 = nI m0 ∧ ∀ k, k < m0 → S'.1 6 8 k = S.1 6 i2 k ∧ S'.1 7 8 k = S.1 7 i2 k ∧ S'.1 8 8 k = S.1 8 i2 k ∧ S'.1 9 8 k = S.1 9 i2 k ∧ S'.1 10 8 k = nI k) := by
  unfold m_X4_startFrom
  rw [q_copyFrom hn hi hm0 h5, Ok_bind, Ok_some]
  obtain ⟨p1, p2⟩ := cpS_sh S (m := m0) hi
  have pF : FrD S (cpS S 8 i2 m0) := ⟨fun g hg => by
    funext j l
    rw [cpS_at _ _ _ _ _ _ _ hi, if_neg (by omega)], fun g j _ _ hj => by
    funext l
    exact cpS_ne S hi hj⟩
  have hl : Ok (lpO (b_X4_startFrom_7 n 8) n (cpS S 8 i2 m0, 0)) (fun S' => (∀ g, g ≠ 10 → S'.1 g = (cpS S 8 i2 m0).1 g) ∧ (∀ j, j ≠ 8 → S'.1 10 j = (cpS S 8 i2 m0).1 10 j) ∧ ∀ k, k < m0 → S'.1 10 8 k = nI k) := by
    refine ok_for2 (N := m0) (by omega) (I := fun q S' => (∀ g, g ≠ 10 → S'.1 g = (cpS S 8 i2 m0).1 g) ∧ (∀ j, j ≠ 8 → S'.1 10 j = (cpS S 8 i2 m0).1 10 j) ∧ ∀ k, k < q → S'.1 10 8 k = nI k) (fun k S' hk hI => ?_) ⟨fun _ _ => rfl, fun _ _ => rfl, fun k hk => absurd hk (Nat.not_lt_zero _)⟩
    obtain ⟨a1, a2, a3⟩ := hI
    unfold b_X4_startFrom_7
    dsimp only
    rw [a1 5 (by omega), p1, Ok_ite]
    refine ⟨fun h3 => ?_, fun h3 => ?_⟩
    · rw [Ok_some]
      have ek := ge_eq (by omega) hk h3
      subst ek
      exact ⟨a1, a2, a3⟩
    · have hk2 := nge_lt (by omega) hk h3
      rw [Ok_bif, Ok_nm, Ok_nm, Ok_some, nI_1, nI_clamp (by omega)]
      refine ⟨inB_nI (by omega) (by omega), hk2, rfl, fun g hg => ?_, fun j hj => ?_, fun k' hk' => ?_⟩
      · funext j l
        rw [sI_at, if_neg (fun h => hg h.1), a1 g hg]
      · rw [sI_ne _ _ _ _ _ hj, a2 j hj]
      · rw [sI_at]
        by_cases e : k' = k
        · rw [if_pos ⟨rfl, rfl, e⟩, e]
        · rw [if_neg (fun h => e h.2.2)]
          exact a3 k' (by omega)
  refine ok_seq hl (fun S' hS' => ?_)
  obtain ⟨a1, a2, a3⟩ := hS'
  rw [Ok_some]
  refine ⟨⟨fun g hg => by rw [a1 g (by omega), pF.1 g hg], fun g j g1 g2 hj => ?_⟩, by rw [a1 5 (by omega)]; exact p1, fun k hk => ?_⟩
  · by_cases e : g = 10
    · subst e
      rw [a2 j hj, pF.2 10 j g1 g2 hj]
    · rw [a1 g e, pF.2 g j g1 g2 hj]
  · rw [a1 6 (by omega), a1 7 (by omega), a1 8 (by omega), a1 9 (by omega), a3 k hk]
    obtain ⟨z1, z2, z3, z4⟩ := p2 k hk
    exact ⟨z1, z2, z3, z4, rfl⟩
theorem q_check {n j K L q kk : Nat} {σ τ : Nat → Nat} {D : CSt} {M B : MSt} {c m0 : Nat} {Ts : Nat → MSt} {ms : Nat → Nat} (hn : 200 < n) (hb : Base j K L q σ τ D B c m0) (hB : BegM M B c m0) (hC : ChnP n j K B D σ c m0 kk Ts ms) (hkk : kk ≤ q) (hend : kk < q → ∀ S rec, JB D S (Ts kk) (ms kk) rec → Ok (m_X7_canDo n S kk (nI c) rec) (fun o => o.1 = 0 ∧ FrP S o.2)) : Ok (m_X7_firstRefused n D (nI c) (nI q)) (fun o => o.1 = (if kk < q then nI kk else -1) ∧ ∃ m rec, JB D o.2 (Ts kk) m rec) := by
  obtain ⟨hMB, hCB, hcK, hB4, hm0, hq6, hst, hsd⟩ := id hb
  have hc : c < 4 := by have := hMB.1.1; omega
  have hSB := hCB.2.1 c m0 hc hm0 hB4
  unfold m_X7_firstRefused
  rw [Ok_bif, nI_clamp (by omega)]
  refine ⟨inB_nI hc (by omega), ok_seq (q_startFrom (n := n) (S := D) (i2 := 2 * c) (m0 := m0) (by omega) (by omega) hm0 hSB.1) (fun S0 hS0 => ?_)⟩
  obtain ⟨hF, h5, hrow⟩ := hS0
  rw [Ok_nm]
  have hJB0 : JB D S0 B m0 (S0.1 11 0 0) := by
    refine ⟨⟨hm0, h5, hB.2.2.1, fun k hk => ?_⟩, fun g g1 g2 => hF.1 g g2, fun g i g1 g2 g3 => hF.2 g i g1 g2 g3, ?_⟩
    · obtain ⟨z1, z2, z3, z4, z5⟩ := hrow k hk
      obtain ⟨y1, y2, y3, y4⟩ := hSB.2 k hk
      obtain ⟨x1, x2, x3, x4, x5⟩ := hB.2.2.2.2.2.1 k hk
      have g1 := hB.1
      rw [g1 5 (by omega)] at y1
      rw [g1 6 (by omega)] at y2
      rw [g1 7 (by omega)] at y3
      rw [g1 8 (by omega)] at y4
      rw [z1, z2, z3, z4, z5, y1, y2, y3, y4, x1, x2, x3, x4, x5]
      exact ⟨rfl, rfl, rfl, rfl, rfl⟩
    · rw [hF.1 11 (by omega)]
      exact hCB.2.2.2.2.2.1
  have hl : Ok (lpO (b_X7_firstRefused_27 n (nI c) (nI q)) n (S0, S0.1 11 0 0, 0)) (sumE (fun w => kk < q ∧ w.2 = nI kk ∧ ∃ m rec, JB D w.1 (Ts kk) m rec) (fun w => kk = q ∧ ∃ m rec, JB D w (Ts kk) m rec)) := by
    refine ok_for3 (N := kk) (by omega) (I := fun k S rec => JB D S (Ts k) (ms k) rec) (fun k S rec hk hI => ?_) (by rw [hC.1, hC.2.1]; exact hJB0)
    unfold b_X7_firstRefused_27
    dsimp only
    by_cases hkq : k = q
    · have e : kk = q := by omega
      rw [if_pos (show nI q ≤ nI k by rw [hkq]; exact Int32.le_refl _), Ok_some]
      refine ⟨e, ms kk, rec, ?_⟩
      rw [show kk = k by omega]
      exact hI
    · rw [if_neg (show ¬ nI q ≤ nI k from nI_ge (by omega) (by omega)), if_neg (show ¬ (6 : Int32) ≤ nI k from nI_ge (b := 6) (by omega) (by decide)), Ok_bif, nI_clamp (by omega)]
      refine ⟨inB_nI (by omega) (by omega), ?_⟩
      by_cases hlast : k = kk
      · subst hlast
        refine ok_seq (hend (by omega) S rec hI) (fun o ho => ?_)
        rw [ho.1, if_neg (fun h => h rfl), Ok_some]
        exact ⟨by omega, rfl, ms k, rec, JB_frP hI ho.2⟩
      · have hA := hC.2.2 k (by omega)
        refine ok_seq (hA.2.1 S rec hI) (fun o ho => ?_)
        rw [ho.1, if_pos one_ne]
        obtain ⟨mk, h1, h2⟩ := hA.2.2.1 o.2 rec (JB_frP hI ho.2)
        rw [h1, Ok_bind, Ok_some, Ok_nm]
        refine ok_seq h2 (fun S' hS' => ?_)
        rw [Ok_nm, Ok_some, nI_1]
        exact ⟨by omega, rfl, hS'⟩
  refine ok_seq hl (fun w hw => ?_)
  cases w with
  | inl w => exact ok_eq (a := (w.2, w.1)) rfl ⟨by rw [if_pos hw.1]; exact hw.2.1, hw.2.2⟩
  | inr w => exact ok_eq (a := (-1, w)) rfl ⟨by rw [if_neg (by have := hw.1; omega)], hw.2⟩
