/-! ===== change: may a class be split: both sides ===== -/
theorem p_hasNum {n : Nat} {T : MSt} {d p : Nat} (hn : 6 < n) (hd : d < 4) (hp6 : p ≤ 6) (hp : T.1 4 d = nI p) : (m_X8_hasNumbersAlone n T (nI d) = some 1 ∧ ∀ k, k < p → r6 (T.1 6) d k = 0) ∨ (m_X8_hasNumbersAlone n T (nI d) = some 0 ∧ ¬ ∀ k, k < p → r6 (T.1 6) d k = 0) := by
  have h : Ok (lpO (b_X8_hasNumbersAlone_4 n T (nI d)) n (1, 0)) (fun w => (w = 1 ∧ ∀ k, k < p → r6 (T.1 6) d k = 0) ∨ (w = 0 ∧ ¬ ∀ k, k < p → r6 (T.1 6) d k = 0)) := by
    refine ok_for2 (N := p) (by omega) (I := fun k a => (a = 1 ∧ ∀ i, i < k → r6 (T.1 6) d i = 0) ∨ (a = 0 ∧ ¬ ∀ k, k < p → r6 (T.1 6) d k = 0)) (fun k a hk hI => ?_) (Or.inl ⟨rfl, fun i hi => absurd hi (Nat.not_lt_zero _)⟩)
    unfold b_X8_hasNumbersAlone_4
    dsimp only
    rw [Ok_bif, nI_clamp (by omega), hp, Ok_ite]
    refine ⟨inB_nI hd (by omega), fun h3 => ?_, fun h3 => ?_⟩
    · rw [Ok_some]
      have ek := ge_eq (by omega) hk h3
      subst ek
      exact hI
    · have hk2 := nge_lt (by omega) hk h3
      rcases hI with ⟨e, hall⟩ | ⟨e, hno⟩
      · rw [e, if_neg one_ne, Ok_bif, ix6, nI_clamp (by omega), Ok_ite]
        refine ⟨inB_nI (by omega) (by omega), fun h4 => ?_, fun h4 => ?_⟩
        · rw [Ok_nm, Ok_some, nI_1]
          exact ⟨hk2, rfl, Or.inr ⟨rfl, fun h => h4 (h k hk2)⟩⟩
        · rw [Ok_nm, Ok_some, nI_1]
          refine ⟨hk2, rfl, Or.inl ⟨rfl, fun i hi => ?_⟩⟩
          rcases Nat.lt_succ_iff_lt_or_eq.mp hi with h5 | h5
          · exact hall i h5
          · rw [h5]; exact Decidable.not_not.mp h4
      · rw [e, if_pos rfl, Ok_nm, Ok_some, nI_1]
        exact ⟨hk2, rfl, Or.inr ⟨rfl, hno⟩⟩
  obtain ⟨w, hw, hq⟩ := h
  unfold m_X8_hasNumbersAlone
  rw [hw, Option.bind_some]
  rcases hq with ⟨e, h⟩ | ⟨e, h⟩
  · rw [e]; exact Or.inl ⟨rfl, h⟩
  · rw [e]; exact Or.inr ⟨rfl, h⟩
theorem q_hasRef {n : Nat} {S : CSt} {i p : Nat} (hn : 6 < n) (hp6 : p ≤ 6) (hp : S.1 5 i 0 = nI p) : (m_X4_hasReferences n S i = some 0 ∧ ∀ k, k < p → S.1 7 i k = 0) ∨ (m_X4_hasReferences n S i = some 1 ∧ ¬ ∀ k, k < p → S.1 7 i k = 0) := by
  have h : Ok (lpO (b_X4_hasReferences_2 n S i) n 0) (sumE (fun _ => ¬ ∀ k, k < p → S.1 7 i k = 0) (fun _ => ∀ k, k < p → S.1 7 i k = 0)) := by
    refine ok_for1 (N := p) (by omega) (I := fun k => ∀ j, j < k → S.1 7 i j = 0) (fun k hk hI => ?_) (fun j hj => absurd hj (Nat.not_lt_zero _))
    unfold b_X4_hasReferences_2
    rw [hp, Ok_ite]
    refine ⟨fun h3 => ?_, fun h3 => ?_⟩
    · rw [Ok_some]
      have ek := ge_eq (by omega) hk h3
      subst ek
      exact hI
    · have hk2 := nge_lt (by omega) hk h3
      rw [Ok_bif, nI_clamp (by omega), Ok_ite]
      refine ⟨inB_nI (by omega) (by omega), fun h4 => ?_, fun h4 => ?_⟩
      · rw [Ok_nm, Ok_some, nI_1]
        refine ⟨hk2, rfl, fun j hj => ?_⟩
        rcases Nat.lt_succ_iff_lt_or_eq.mp hj with h5 | h5
        · exact hI j h5
        · rw [h5]; exact h4
      · rw [Ok_some]
        exact fun h => h4 (h k hk2)
  obtain ⟨w, hw, hq⟩ := h
  unfold m_X4_hasReferences
  rw [hw, Option.bind_some]
  cases w with
  | inl w => exact Or.inr ⟨rfl, hq⟩
  | inr w => exact Or.inl ⟨rfl, hq⟩
theorem q_nameSet {n : Nat} {S : CSt} {i p : Nat} (hn : 6 < n) (hp6 : p ≤ 6) (hp : S.1 5 i 0 = nI p) (hna : ∀ k, k < p → ∃ a, a < 10 ∧ S.1 6 i k = nI a) : ∃ t, t < 1024 ∧ m_X4_nameSet n S i = some (nI t) ∧ ∀ y, y < 10 → (bt t y = true ↔ ∃ k, k < p ∧ S.1 6 i k = nI y) := by
  have h : Ok (lpO (b_X4_nameSet_4 n S i) n (0, 0)) (fun w => ∃ t, t < 1024 ∧ w = nI t ∧ ∀ y, y < 10 → (bt t y = true ↔ ∃ k, k < p ∧ S.1 6 i k = nI y)) := by
    refine ok_for2 (N := p) (by omega) (I := fun k a => ∃ t, t < 1024 ∧ a = nI t ∧ ∀ y, y < 10 → (bt t y = true ↔ ∃ j, j < k ∧ S.1 6 i j = nI y)) (fun k a hk hI => ?_) ⟨0, by omega, rfl, fun y hy => ⟨fun h => ?_, fun ⟨j, hj, _⟩ => absurd hj (Nat.not_lt_zero _)⟩⟩
    · obtain ⟨t, t1, t2, t3⟩ := hI
      unfold b_X4_nameSet_4
      dsimp only
      rw [hp, Ok_ite]
      refine ⟨fun h3 => ?_, fun h3 => ?_⟩
      · rw [Ok_some]
        have ek := ge_eq (by omega) hk h3
        subst ek
        exact ⟨t, t1, t2, t3⟩
      · have hk2 := nge_lt (by omega) hk h3
        obtain ⟨x, hx, ex⟩ := hna k hk2
        rw [Ok_bif, nI_clamp (by omega), ex, one_shl x hx, t2, nI_or, Ok_nm, Ok_nm, Ok_some, nI_1]
        refine ⟨inB_nI (by omega) (by omega), hk2, rfl, t ||| 2 ^ x, or_lt t1 hx, rfl, fun y hy => ?_⟩
        rw [bt_or, Bool.or_eq_true, t3 y hy, decide_eq_true_eq]
        refine ⟨fun h => ?_, fun ⟨j, j1, j2⟩ => ?_⟩
        · rcases h with ⟨j, j1, j2⟩ | h
          · exact ⟨j, by omega, j2⟩
          · exact ⟨k, by omega, by rw [ex, h]⟩
        · rcases Nat.lt_succ_iff_lt_or_eq.mp j1 with h5 | h5
          · exact Or.inl ⟨j, h5, j2⟩
          · rw [h5, ex] at j2
            exact Or.inr ((nI_eq (by omega) (by omega)).mp j2)
    · have : bt 0 y = false := by unfold bt; simp
      rw [this] at h
      cases h
  obtain ⟨w, hw, t, t1, t2, t3⟩ := h
  refine ⟨t, t1, ?_, t3⟩
  unfold m_X4_nameSet
  rw [hw, t2]
  rfl
/-- the fields of class d (p of them) stand in the draft (m of them) and are numbers within their ranges -/
def GoodF (T : MSt) (d m k : Nat) : Prop := ∃ f, f < m ∧ T.1 29 f = r6 (T.1 5) d k ∧ T.1 30 f = 0 ∧ r6 (T.1 7) d k ≤ T.1 31 f ∧ T.1 32 f ≤ r6 (T.1 8) d k
def SetOk (T : MSt) (d p s : Nat) : Prop := ∀ y, y < 10 → (bt s y = true ↔ ∃ k, k < p ∧ r6 (T.1 5) d k = nI y)
def CanS (T : MSt) (c d p m s : Nat) : Prop := d ≠ c ∧ (∀ k, k < p → r6 (T.1 6) d k = 0) ∧ (∀ k, k < p → GoodF T d m k) ∧ SetOk T d p s ∧ cn (fun r => !decide (T.1 14 r = -1)) 24 + cn (fun r => decide (T.1 14 r = nI c)) 24 ≤ 24
theorem p_canSplit {n : Nat} {T : MSt} {K c d p m s : Nat} (hn : 24 < n) (hK4 : K ≤ 4) (hc : c < 4) (hd : d < 4) (hp : T.1 4 d = nI p) (hShd : Sh K p (r6 (T.1 5) d) (r6 (T.1 6) d) (r6 (T.1 7) d) (r6 (T.1 8) d)) (hm : T.1 28 0 = nI m) (hSh : Sh K m (T.1 29) (T.1 30) (T.1 31) (T.1 32)) (h27 : T.1 27 0 = nI c) (hs : s < 1024) (hcl : ∀ r, r < 24 → T.1 14 r = -1 ∨ ∃ e, e < 4 ∧ T.1 14 r = nI e) : (m_X8_canSplit n T (nI d) (nI s) = some 1 ∧ CanS T c d p m s) ∨ (m_X8_canSplit n T (nI d) (nI s) = some 0 ∧ ¬ CanS T c d p m s) := by
  have hp6 := hShd.1
  have hm6 := hSh.1
  have h : Ok (lpO (b_X8_canSplit_5 n T (nI d)) n (nI s, 0)) (sumE (fun _ => ¬ CanS T c d p m s) (fun w => (∀ k, k < p → GoodF T d m k) ∧ ((w = 0 ∧ SetOk T d p s) ∨ (w ≠ 0 ∧ ¬ SetOk T d p s)))) := by
    refine ok_for2 (N := p) (by omega) (I := fun k a => ∃ t, t < 1024 ∧ a = nI t ∧ (∀ j, j < k → GoodF T d m j) ∧ (∀ j, j < k → ∀ y, y < 10 → r6 (T.1 5) d j = nI y → bt s y = true) ∧ ∀ y, y < 10 → (bt t y = true ↔ bt s y = true ∧ ∀ j, j < k → r6 (T.1 5) d j ≠ nI y)) (fun k a hk hI => ?_) ⟨s, hs, rfl, fun j hj => absurd hj (Nat.not_lt_zero _), fun j hj => absurd hj (Nat.not_lt_zero _), fun y hy => ⟨fun h => ⟨h, fun j hj => absurd hj (Nat.not_lt_zero _)⟩, fun h => h.1⟩⟩
    obtain ⟨t, t1, t2, t3, t4, t5⟩ := hI
    unfold b_X8_canSplit_5
    dsimp only
    rw [Ok_bif, nI_clamp (by omega), hp, Ok_ite]
    refine ⟨inB_nI hd (by omega), fun h3 => ?_, fun h3 => ?_⟩
    · rw [Ok_some]
      have ek := ge_eq (by omega) hk h3
      subst ek
      refine ⟨t3, ?_⟩
      by_cases h0 : t = 0
      · refine Or.inl ⟨by rw [t2, h0]; rfl, fun y hy => ⟨fun hb => ?_, fun ⟨j, j1, j2⟩ => t4 j j1 y hy j2⟩⟩
        by_cases hx : ∃ k', k' < k ∧ r6 (T.1 5) d k' = nI y
        · exact hx
        · have := (t5 y hy).mpr ⟨hb, fun j hj e => hx ⟨j, hj, e⟩⟩
          rw [h0] at this
          unfold bt at this
          simp at this
      · refine Or.inr ⟨fun e => h0 ((nI_eq (a := t) (b := 0) (by omega) (by decide)).mp (t2.symm.trans e)), fun hS => h0 ?_⟩
        refine bt_ext (by omega) (by omega) (fun y hy => ?_)
        have e0 : bt 0 y = false := by unfold bt; simp
        rw [e0]
        cases hb : bt t y
        · rfl
        · obtain ⟨g1, g2⟩ := (t5 y hy).mp hb
          obtain ⟨j, j1, j2⟩ := (hS y hy).mp g1
          exact absurd j2 (g2 j j1)
    · have hk2 := nge_lt (by omega) hk h3
      obtain ⟨⟨x, hx, ex⟩, -⟩ := hShd.2.2 k hk2
      have ex' : T.1 5 (6 * d + k) = nI x := ex
      have bad : ¬ CanS T c d p m s → Ok (m_X8_canSplit_J74 n T (nI d) a (nI k) (plc (T.1 29) m (nI x)) 0) (sumE (fun y => k < p ∧ y.2 = nI (k + 1) ∧ ∃ t, t < 1024 ∧ y.1 = nI t ∧ (∀ j, j < k + 1 → GoodF T d m j) ∧ (∀ j, j < k + 1 → ∀ y, y < 10 → r6 (T.1 5) d j = nI y → bt s y = true) ∧ ∀ y, y < 10 → (bt t y = true ↔ bt s y = true ∧ ∀ j, j < k + 1 → r6 (T.1 5) d j ≠ nI y)) (sumE (fun _ => ¬ CanS T c d p m s) (fun w => (∀ k, k < p → GoodF T d m k) ∧ ((w = 0 ∧ SetOk T d p s) ∨ (w ≠ 0 ∧ ¬ SetOk T d p s))))) := fun hno => by
        unfold m_X8_canSplit_J74
        rw [if_pos rfl, Ok_some]
        exact hno
      rw [Ok_bif, ix6, nI_clamp (by omega), ex', p_findDraft (by omega) hm6 hm, Ok_bind, Ok_some]
      refine ⟨inB_nI (by omega) (by omega), ?_⟩
      unfold m_X8_canSplit_J73
      rcases plc_nn (f := T.1 29) (x := nI x) hm6 with ⟨g1, g2⟩ | ⟨f0, hf0, g1, g2, g3, g4⟩
      · rw [if_pos (by rw [g1]; exact m1_lt)]
        exact bad (fun hC => by
          obtain ⟨f, f1, f2, -⟩ := hC.2.2.1 k hk2
          exact g2 f f1 (f2.trans ex))
      · rw [if_neg g4, Ok_bif]
        refine ⟨inB_nI (by omega) (by omega), ?_⟩
        have huniq : ∀ {f}, f < m → T.1 29 f = r6 (T.1 5) d k → f = f0 := fun {f} hf e => hSh.2.1 f hf f0 hf0 (e.trans (ex.trans g2.symm))
        have noname : ∀ j, j < k → r6 (T.1 5) d j ≠ nI x := fun j hj e => by
          have := hShd.2.1 j (by omega) k hk2 (e.trans ex.symm)
          omega
        rw [t2]
        have bad' := bad
        rw [t2] at bad'
        by_cases hb : bt t x = true
        · rw [if_neg (fun h => h ((isIn_bt (by omega) hx).mpr hb)), g1, Ok_bif, nI_clamp (by omega)]
          rw [g1] at bad'
          refine ⟨inB_nI (by omega) (by omega), ?_⟩
          by_cases h30 : T.1 30 f0 = 0
          · rw [if_neg (fun h => h h30)]
            unfold m_X8_canSplit_J74
            rw [if_neg one_ne, ix6, Ok_bif, Ok_bif, nI_clamp (by omega), nI_clamp (by omega)]
            refine ⟨inB_nI (by omega) (by omega), inB_nI (by omega) (by omega), ?_⟩
            by_cases hlo : T.1 31 f0 < T.1 7 (6 * d + k)
            · rw [if_pos hlo, Ok_some]
              intro hC
              obtain ⟨f, f1, f2, f3, f4, f5⟩ := hC.2.2.1 k hk2
              rw [huniq f1 f2] at f4
              exact Int32.not_lt.mpr f4 hlo
            · rw [if_neg hlo, Ok_bif, Ok_bif]
              refine ⟨inB_nI (by omega) (by omega), inB_nI (by omega) (by omega), ?_⟩
              by_cases hhi : T.1 32 f0 ≤ T.1 8 (6 * d + k)
              · rw [if_pos hhi, Ok_bif, ex', and_clr t t1 x hx, Ok_nm, Ok_nm, Ok_some, nI_1]
                refine ⟨inB_nI (by omega) (by omega), hk2, rfl, clr t x, clr_lt t1, rfl, fun j hj => ?_, fun j hj y hy e => ?_, fun y hy => ?_⟩
                · rcases Nat.lt_succ_iff_lt_or_eq.mp hj with h5 | h5
                  · exact t3 j h5
                  · rw [h5]
                    exact ⟨f0, hf0, g2.trans ex.symm, h30, Int32.not_lt.mp hlo, hhi⟩
                · rcases Nat.lt_succ_iff_lt_or_eq.mp hj with h5 | h5
                  · exact t4 j h5 y hy e
                  · rw [h5, ex] at e
                    have := (nI_eq (by omega) (by omega)).mp e
                    rw [← this]
                    exact ((t5 x hx).mp hb).1
                · rw [bt_clr hx hy, Bool.and_eq_true, t5 y hy]
                  simp only [Bool.not_eq_true', decide_eq_false_iff_not]
                  refine ⟨fun ⟨⟨h1, h2⟩, h3⟩ => ⟨h1, fun j hj e => ?_⟩, fun ⟨h1, h2⟩ => ⟨⟨h1, fun j hj => h2 j (by omega)⟩, fun e => h2 k (by omega) (by rw [ex, e])⟩⟩
                  rcases Nat.lt_succ_iff_lt_or_eq.mp hj with h5 | h5
                  · exact h2 j h5 e
                  · rw [h5, ex] at e
                    exact h3 ((nI_eq (by omega) (by omega)).mp e)
              · rw [if_neg hhi, Ok_some]
                intro hC
                obtain ⟨f, f1, f2, f3, f4, f5⟩ := hC.2.2.1 k hk2
                rw [huniq f1 f2] at f5
                exact hhi f5
          · rw [if_pos h30]
            exact bad' (fun hC => by
              obtain ⟨f, f1, f2, f3, -⟩ := hC.2.2.1 k hk2
              rw [huniq f1 f2] at f3
              exact h30 f3)
        · rw [if_pos (fun h => hb ((isIn_bt (by omega) hx).mp h))]
          exact bad' (fun hC => hb ((t5 x hx).mpr ⟨(hC.2.2.2.1 x hx).mpr ⟨k, hk2, ex⟩, noname⟩))
  obtain ⟨w, hw, hq⟩ := h
  unfold m_X8_canSplit
  rw [hw, Option.bind_some]
  cases w with
  | inl w => exact Or.inr ⟨rfl, hq⟩
  | inr w =>
    obtain ⟨q1, q2⟩ := hq
    show ((if ¬ w = 0 then (some 0) else (if nI d = (T.1 27 0) then (some 0) else ((m_X8_hasNumbersAlone n T (nI d)).bind (fun z85 => if z85 = 0 then (some 0) else ((m_X8_records n T (-1)).bind (fun z88 => (m_X8_records n T (T.1 27 0)).bind (fun z90 => if 24 < (z88 + z90) then (some 0) else (some 1)))))))) = some (1 : Int32) ∧ _) ∨ ((if ¬ w = 0 then (some 0) else (if nI d = (T.1 27 0) then (some 0) else ((m_X8_hasNumbersAlone n T (nI d)).bind (fun z85 => if z85 = 0 then (some 0) else ((m_X8_records n T (-1)).bind (fun z88 => (m_X8_records n T (T.1 27 0)).bind (fun z90 => if 24 < (z88 + z90) then (some 0) else (some 1)))))))) = some (0 : Int32) ∧ _)
    rcases q2 with ⟨w0, hS⟩ | ⟨w0, hS⟩
    · rw [if_neg (fun h => h w0), h27]
      by_cases hdc : d = c
      · rw [hdc, if_pos rfl]
        exact Or.inr ⟨rfl, fun hC => hC.1 rfl⟩
      · rw [if_neg (fun h => hdc (nI_inj4 hd hc h))]
        rcases p_hasNum (n := n) (by omega) hd hp6 hp with ⟨e, hn1⟩ | ⟨e, hn1⟩
        · rw [e, Option.bind_some, if_neg one_ne, p_recordsA hn, Option.bind_some, p_records hn (nI_pos' (by omega)), Option.bind_some, nI_add]
          have e1 : cn (fun r => !decide (T.1 14 r < 0)) 24 = cn (fun r => !decide (T.1 14 r = -1)) 24 := cn_cong (fun r hr => by
            rcases hcl r hr with h | ⟨e, he, h⟩
            · rw [h]; decide
            · rw [h]
              have a1 : ¬ nI e < 0 := nI_pos (by omega)
              have a2 : ¬ nI e = -1 := nI_ne_m1 (by omega)
              simp [a1, a2])
          rw [e1]
          have b1 := cn_le (fun r => !decide (T.1 14 r = -1)) 24
          have b2 := cn_le (fun r => decide (T.1 14 r = nI c)) 24
          by_cases h24 : cn (fun r => !decide (T.1 14 r = -1)) 24 + cn (fun r => decide (T.1 14 r = nI c)) 24 ≤ 24
          · rw [if_neg (show ¬ (24 : Int32) < _ from fun h => by have := (nI_ltI (a := 24) (by decide) (by omega)).mp h; omega)]
            exact Or.inl ⟨rfl, hdc, hn1, q1, hS, h24⟩
          · rw [if_pos (show (24 : Int32) < _ from (nI_ltI (a := 24) (by decide) (by omega)).mpr (by omega))]
            exact Or.inr ⟨rfl, fun hC => h24 hC.2.2.2.2⟩
        · rw [e, Option.bind_some, if_pos rfl]
          exact Or.inr ⟨rfl, fun hC => hn1 hC.2.1⟩
    · rw [if_pos w0]
      exact Or.inr ⟨rfl, fun hC => hS hC.2.2.2.1⟩
