/-! ===== collect: what the reference marks ===== -/
def rtZ (M : MSt) (Z : Nat → Prop) : Prop := ∀ i p, i < 8 → p < 24 → M.1 19 i = nI p → Z p
def clZ (M : MSt) (Z : Nat → Prop) : Prop := ∀ r c k q p, Fld (M.1 4) (M.1 6) (M.1 14) r c k q → q ≠ 0 → p < 24 → r6 (M.1 16) r k = nI p → Z r → Z p
def lsZ (M : MSt) (X : Nat → Prop) : Prop := ∀ Z : Nat → Prop, rtZ M Z → clZ M Z → ∀ r, r < 24 → X r → Z r
theorem ls_live {K : Nat} {M : MSt} (hM : MI K M.1) {X : Nat → Prop} (h : lsZ M X) : ∀ r, r < 24 → X r → M.1 14 r ≠ -1 := by
  refine h (fun p => M.1 14 p ≠ -1) (fun i p hi hp e => ?_) (fun r c k q p hF hq hp e _ => ?_)
  · rcases hM.2.2.2.2.1 i hi with h1 | ⟨p', h1, h2, h3⟩
    · rw [h1] at e; exact absurd e (m1_ne_nI (by omega))
    · have : p = p' := (nI_eq (by omega) (by omega)).mp (e.symm.trans h2)
      subst this
      exact h3
  · rcases ref_live hM hF hq with h1 | ⟨p', h1, h2, h3⟩
    · rw [h1] at e; exact absurd e (m1_ne_nI (by omega))
    · have : p = p' := (nI_eq (by omega) (by omega)).mp (e.symm.trans h2)
      subst this
      exact h3
theorem cn_strict {p q : Nat → Bool} (h : ∀ k, q k = true → p k = true) {i : Nat} (hp : p i = true) (hq : q i = false) : ∀ {m : Nat}, i < m → cn q m < cn p m
  | 0, hm => absurd hm (Nat.not_lt_zero _)
  | m + 1, hm => by
    have mono : ∀ m, cn q m ≤ cn p m := fun m => by
      induction m with
      | zero => exact Nat.le_refl _
      | succ m ih =>
        show cn q m + _ ≤ cn p m + _
        by_cases h1 : q m = true
        · rw [if_pos h1, if_pos (h m h1)]; omega
        · rw [if_neg h1]; omega
    show cn q m + _ < cn p m + _
    by_cases e : m = i
    · subst e
      rw [if_neg (by rw [hq]; decide), if_pos hp]
      have := mono m
      omega
    · have := cn_strict h hp hq (m := m) (by omega)
      by_cases h1 : q m = true
      · rw [if_pos h1, if_pos (h m h1)]; omega
      · rw [if_neg h1]; omega
theorem p_mark0 {n : Nat} {M : MSt} (hn : 24 < n) : lpO (b_X8_collect_7 n) n (M, 0) = some (mR M 18 (fun r => if r < 24 then 0 else M.1 18 r)) := by
  refine ok_get (ok_for2 (N := 24) hn (I := fun k S => S = mR M 18 (fun r => if r < k then 0 else M.1 18 r)) (fun k S hk hS => ?_) (mR_self M 18 (funext fun r => if_neg (fun h => absurd h (Nat.not_lt_zero _)))))
  unfold b_X8_collect_7
  dsimp only
  rw [Ok_ite]
  refine ⟨fun h => ?_, fun h => ?_⟩
  · have e : k = 24 := ge_eq (by decide) hk h
    rw [Ok_some]
    rw [e] at hS
    exact hS
  · have hk2 : k < 24 := nge_lt (by decide) hk h
    rw [Ok_bif, Ok_nm, Ok_nm, Ok_some, nI_clamp (by omega)]
    refine ⟨inB_nI hk2 (by omega), hk2, nI_1 k, ?_⟩
    show mI S 18 k 0 = _
    rw [hS]
    refine mI_mR _ _ _ _ _ _ (fun l => ?_)
    by_cases e : l = k
    · rw [if_pos e, if_pos (by omega)]
    · rw [if_neg e]
      have : l < k + 1 ↔ l < k := by omega
      simp only [this]
theorem p_mark1 {n : Nat} {M : MSt} {K : Nat} (hn : 24 < n) (hM : MI K M.1) {row0 : Nat → Int32} (h0 : ∀ r, r < 24 → row0 r = 0) : Ok (lpO (b_X8_collect_28 n) n (mR M 18 row0, 0)) (fun S => ∃ row, S = mR M 18 row ∧ rtZ M (fun p => row p ≠ 0) ∧ lsZ M (fun p => row p ≠ 0)) := by
  refine ok_for2 (N := 8) (by omega) (I := fun k S => ∃ row, S = mR M 18 row ∧ (∀ i p, i < k → p < 24 → M.1 19 i = nI p → row p ≠ 0) ∧ lsZ M (fun p => row p ≠ 0)) (fun k S hk hS => ?_) ⟨row0, rfl, fun i p h => absurd h (Nat.not_lt_zero _), fun Z _ _ r hr h => absurd (h0 r hr) h⟩
  obtain ⟨row, hS, ha, hb⟩ := hS
  have e19 : S.1 19 = M.1 19 := by rw [hS]; rfl
  unfold b_X8_collect_28
  dsimp only
  rw [e19, Ok_ite]
  refine ⟨fun h => ?_, fun h => ?_⟩
  · have e : k = 8 := ge_eq (by decide) hk h
    rw [Ok_some]
    rw [e] at ha
    exact ⟨row, hS, ha, hb⟩
  · have hk2 : k < 8 := nge_lt (by decide) hk h
    rw [Ok_bif, nI_clamp (by omega), Ok_ite]
    refine ⟨inB_nI hk2 (by omega), fun h2 => ?_, fun h2 => ?_⟩
    · rw [Ok_nm, Ok_some]
      refine ⟨hk2, nI_1 k, row, hS, fun i p hi hp e => ?_, hb⟩
      rcases Nat.lt_succ_iff_lt_or_eq.mp hi with h4 | h4
      · exact ha i p h4 hp e
      · rw [h4] at e
        rw [e] at h2
        exact absurd h2 (nI_pos (by omega))
    · rcases hM.2.2.2.2.1 k hk2 with h3 | ⟨p, hp, h3, h4⟩
      · exact absurd (by rw [h3]; exact m1_lt) h2
      · rw [h3, Ok_bif, Ok_bif, Ok_nm, Ok_nm, Ok_some, nI_clamp (by omega)]
        refine ⟨inB_nI hk2 (by omega), inB_nI hp (by omega), hk2, nI_1 k, fun l => if l = p then 1 else row l, ?_, fun i p' hi hp' e => ?_, fun Z z1 z2 r hr hx => ?_⟩
        · show mI S 18 p 1 = _
          rw [hS]
          exact mI_mR _ _ _ _ _ _ (fun l => rfl)
        · rcases Nat.lt_succ_iff_lt_or_eq.mp hi with h5 | h5
          · show (if p' = p then (1 : Int32) else row p') ≠ 0
            by_cases e2 : p' = p
            · rw [if_pos e2]; exact one_ne
            · rw [if_neg e2]; exact ha i p' h5 hp' e
          · rw [h5, h3] at e
            show (if p' = p then (1 : Int32) else row p') ≠ 0
            rw [if_pos ((nI_eq (by omega) (by omega)).mp e).symm]
            exact one_ne
        · by_cases e2 : r = p
          · rw [e2]; exact z1 k p hk2 hp h3
          · have hx' : (if r = p then (1 : Int32) else row r) ≠ 0 := hx
            rw [if_neg e2] at hx'
            exact hb Z z1 z2 r hr hx'
/-- one pass of the spreading, from the marks row0 -/
def spI (M : MSt) (row0 : Nat → Int32) (r k : Nat) (S : MSt) (a : Int32) : Prop := ∃ row, S = mR M 18 row ∧ rtZ M (fun p => row p ≠ 0) ∧ lsZ M (fun p => row p ≠ 0) ∧ (∀ p, row0 p ≠ 0 → row p ≠ 0) ∧ ((a = 0 ∧ row = row0 ∧ ∀ r' c' k' q p, Fld (M.1 4) (M.1 6) (M.1 14) r' c' k' q → q ≠ 0 → p < 24 → r6 (M.1 16) r' k' = nI p → (r' < r ∨ r' = r ∧ k' < k) → row0 r' ≠ 0 → row0 p ≠ 0) ∨ (a = 1 ∧ ∃ p, p < 24 ∧ row0 p = 0 ∧ row p ≠ 0))
theorem p_spreadR {n : Nat} {M : MSt} {K : Nat} (hn : 24 < n) (hM : MI K M.1) {row0 : Nat → Int32} {r : Nat} (hr : r < 24) {S : MSt} {a : Int32} (h : spI M row0 r 0 S a) : Ok (lpO (b_X8_spread_18 n (nI r)) n (S, a, 0)) (fun w => spI M row0 (r + 1) 0 w.1 w.2) := by
  have hK4 := hM.1.1
  -- leaving: every field of r is seen
  have leave : ∀ {k : Nat} {S : MSt} {a : Int32}, spI M row0 r k S a → (S.1 18 r = 0 ∨ ∀ c' k' q, Fld (M.1 4) (M.1 6) (M.1 14) r c' k' q → k' < k) → spI M row0 (r + 1) 0 S a := by
    rintro k S a ⟨row, h1, h2, h3, h4, h5⟩ hx
    refine ⟨row, h1, h2, h3, h4, ?_⟩
    rcases h5 with ⟨a1, a2, a3⟩ | h5
    · refine Or.inl ⟨a1, a2, fun r' c' k' q p hF hq hp e hlt hr' => ?_⟩
      rcases hlt with hlt | ⟨-, hlt⟩
      · rcases Nat.lt_succ_iff_lt_or_eq.mp hlt with h6 | h6
        · exact a3 r' c' k' q p hF hq hp e (Or.inl h6) hr'
        · rcases hx with hx | hx
          · rw [h1] at hx
            have hx' : row r = 0 := hx
            rw [a2, ← h6] at hx'
            exact absurd hx' hr'
          · rw [h6] at hF
            refine a3 r' c' k' q p (by rw [h6]; exact hF) hq hp e (Or.inr ⟨h6, hx c' k' q hF⟩) hr'
      · exact absurd hlt (Nat.not_lt_zero _)
    · exact Or.inr h5
  by_cases hd : M.1 14 r = -1
  · -- a dead slot is never marked
    refine ok_for3 (N := 0) (by omega) (I := fun _ T b => T = S ∧ b = a) (fun k T b hk hT => ?_) ⟨rfl, rfl⟩
    obtain ⟨e1, e2⟩ := hT
    subst e1 e2
    have h0 : T.1 18 r = 0 := by
      obtain ⟨row, h1, h2, h3, -⟩ := h
      refine Decidable.byContradiction (fun hne => ls_live hM h3 r hr ?_ hd)
      rw [h1] at hne
      exact hne
    unfold b_X8_spread_18
    dsimp only
    rw [Ok_bif, nI_clamp (by omega), Ok_ite]
    refine ⟨inB_nI hr (by omega), fun _ => ?_, fun h2 => absurd h0 h2⟩
    rw [Ok_some]
    exact leave h (Or.inl h0)
  · rcases hM.2.2.1 r hr with h14 | ⟨c, hc, h14, -⟩
    · exact absurd h14 hd
    have hc4 : c < 4 := by omega
    obtain ⟨m, hm, hSh⟩ := hM.2.1 c hc4
    have hm6 := hSh.1
    refine ok_for3 (N := m) (by omega) (I := fun k T b => spI M row0 r k T b) (fun k T b hk hT => ?_) h
    obtain ⟨row, h1, h2, h3, h4, h5⟩ := id hT
    have e4 : T.1 4 = M.1 4 := by rw [h1]; rfl
    have e6 : T.1 6 = M.1 6 := by rw [h1]; rfl
    have e14 : T.1 14 = M.1 14 := by rw [h1]; rfl
    have e16 : T.1 16 = M.1 16 := by rw [h1]; rfl
    have e18 : T.1 18 = row := by rw [h1]; rfl
    unfold b_X8_spread_18
    dsimp only
    rw [e4, e6, e14, e16, nI_clamp (by omega), h14, nI_clamp (by omega : c < 2 ^ 31), hm, ix6, ix6, Ok_bif, Ok_ite]
    refine ⟨inB_nI hr (by omega), fun hz => ?_, fun hz => ?_⟩
    · rw [Ok_some]
      exact leave hT (Or.inl hz)
    · rw [Ok_bif, Ok_bif, Ok_ite]
      refine ⟨inB_nI hr (by omega), inB_nI hc4 (by omega), fun hk3 => ?_, fun hk3 => ?_⟩
      · have e : k = m := ge_eq (by omega) hk hk3
        rw [Ok_some]
        refine leave hT (Or.inr (fun c' k' q hF => ?_))
        obtain ⟨-, g1, g2, ⟨m', g3, g4, g5⟩, -⟩ := hF
        have ec : c' = c := nI_inj4 g1 hc4 (g2.symm.trans h14)
        rw [ec] at g4
        have em : m' = m := (nI_eq (by omega) (by omega)).mp (g4.symm.trans hm)
        omega
      · have hk2 : k < m := nge_lt (by omega) hk hk3
        have hfc : ∀ {c' q}, Fld (M.1 4) (M.1 6) (M.1 14) r c' k q → c' = c := fun {c' q} hF => nI_inj4 hF.2.1 hc4 (hF.2.2.1.symm.trans h14)
        -- the invariant one field on, marks as they are
        have next : (∀ q p, Fld (M.1 4) (M.1 6) (M.1 14) r c k q → q ≠ 0 → p < 24 → r6 (M.1 16) r k = nI p → row p ≠ 0) → spI M row0 r (k + 1) T b := fun hx => by
          refine ⟨row, h1, h2, h3, h4, ?_⟩
          rcases h5 with ⟨a1, a2, a3⟩ | h5
          · refine Or.inl ⟨a1, a2, fun r' c' k' q p hF hq hp e hlt hr' => ?_⟩
            rcases hlt with hlt | ⟨e1, hlt⟩
            · exact a3 r' c' k' q p hF hq hp e (Or.inl hlt) hr'
            · rcases Nat.lt_succ_iff_lt_or_eq.mp hlt with h6 | h6
              · exact a3 r' c' k' q p hF hq hp e (Or.inr ⟨e1, h6⟩) hr'
              · subst e1 h6
                have ec := hfc hF
                subst ec
                rw [← a2]
                exact hx q p hF hq hp e
          · exact Or.inr h5
        have fin : ∀ y : Int32, (y = -1 ∨ ∃ p, p < 24 ∧ y = nI p) → (∀ q p, Fld (M.1 4) (M.1 6) (M.1 14) r c k q → q ≠ 0 → p < 24 → r6 (M.1 16) r k = nI p → y = nI p) → (∀ p, p < 24 → y = nI p → ∃ q, Fld (M.1 4) (M.1 6) (M.1 14) r c k q ∧ q ≠ 0 ∧ r6 (M.1 16) r k = nI p) → Ok (m_X8_spread_J76 n T b (nI r) (nI k) y) (sumE (fun y => k < m ∧ y.2.2 = nI (k + 1) ∧ spI M row0 r (k + 1) y.1 y.2.1) (fun w => spI M row0 (r + 1) 0 w.1 w.2)) := fun y hy hy1 hy2 => by
          unfold m_X8_spread_J76
          rw [Ok_ite]
          refine ⟨fun hn0 => ?_, fun hn0 => ?_⟩
          · rw [Ok_nm, Ok_some]
            refine ⟨hk2, nI_1 k, next (fun q p hF hq hp e => ?_)⟩
            rw [hy1 q p hF hq hp e] at hn0
            exact absurd hn0 (nI_pos (by omega))
          · rcases hy with hy | ⟨p, hp, hy⟩
            · rw [hy] at hn0; exact absurd m1_lt hn0
            · rw [hy, Ok_bif, nI_clamp (by omega), e18, Ok_ite]
              refine ⟨inB_nI hp (by omega), fun hm1 => ?_, fun hm1 => ?_⟩
              · rw [Ok_nm, Ok_some]
                refine ⟨hk2, nI_1 k, next (fun q p' hF hq hp' e => ?_)⟩
                have e2 := hy1 q p' hF hq hp' e
                rw [hy] at e2
                rw [← (nI_eq (by omega) (by omega)).mp e2]
                exact hm1
              · have hm1 := Decidable.not_not.mp hm1
                rw [Ok_bif, Ok_nm, Ok_nm, Ok_some]
                refine ⟨inB_nI hp (by omega), hk2, nI_1 k, fun l => if l = p then 1 else row l, ?_, fun i p' hi hp' e => ?_, fun Z z1 z2 r' hr' hx => ?_, fun p' hp' => ?_, Or.inr ⟨rfl, p, hp, ?_, ?_⟩⟩
                · show mI T 18 p 1 = _
                  rw [h1]
                  exact mI_mR _ _ _ _ _ _ (fun l => rfl)
                · show (if p' = p then (1 : Int32) else row p') ≠ 0
                  by_cases e2 : p' = p
                  · rw [if_pos e2]; exact one_ne
                  · rw [if_neg e2]; exact h2 i p' hi hp' e
                · by_cases e2 : r' = p
                  · rw [e2]
                    obtain ⟨q, hF, hq, e3⟩ := hy2 p hp hy
                    refine z2 r c k q p hF hq hp e3 (h3 Z z1 z2 r hr ?_)
                    rw [e18] at hz
                    exact hz
                  · have hx' : (if r' = p then (1 : Int32) else row r') ≠ 0 := hx
                    rw [if_neg e2] at hx'
                    exact h3 Z z1 z2 r' hr' hx'
                · show (if p' = p then (1 : Int32) else row p') ≠ 0
                  by_cases e2 : p' = p
                  · rw [if_pos e2]; exact one_ne
                  · rw [if_neg e2]; exact h4 p' hp'
                · exact Decidable.byContradiction (fun hne => h4 p hne hm1)
                · show (if p = p then (1 : Int32) else row p) ≠ 0
                  rw [if_pos rfl]; exact one_ne
        rw [Ok_bif, Ok_bif, nI_clamp (by omega : 6 * c + k < 2 ^ 31), nI_clamp (by omega : 6 * r + k < 2 ^ 31), Ok_ite]
        refine ⟨inB_nI hr (by omega), inB_nI (by omega) (by omega), fun hk0 => ?_, fun hk0 => ?_⟩
        · rw [Ok_bif]
          have hF : Fld (M.1 4) (M.1 6) (M.1 14) r c k (r6 (M.1 6) c k) := ⟨hr, hc4, h14, ⟨m, hm6, hm, hk2⟩, rfl⟩
          refine ⟨inB_nI (by omega) (by omega), fin _ ?_ (fun q p hF hq hp e => e) (fun p hp e => ⟨_, hF, hk0, e⟩)⟩
          rcases ref_live hM hF hk0 with g | ⟨p, g1, g2, -⟩
          · exact Or.inl g
          · exact Or.inr ⟨p, g1, g2⟩
        · have hk0 := Decidable.not_not.mp hk0
          refine fin _ (Or.inl rfl) (fun q p hF hq hp e => ?_) (fun p hp e => absurd e (m1_ne_nI (by omega)))
          exact absurd (hF.2.2.2.2.symm.trans hk0) hq
theorem p_spread {n : Nat} {M : MSt} {K : Nat} (hn : 60 < n) (hM : MI K M.1) {row0 : Nat → Int32} (h1 : rtZ M (fun p => row0 p ≠ 0)) (h2 : lsZ M (fun p => row0 p ≠ 0)) : Ok (m_X8_spread n (mR M 18 row0)) (fun S => ∃ row, S = mR M 18 row ∧ rtZ M (fun p => row p ≠ 0) ∧ lsZ M (fun p => row p ≠ 0) ∧ clZ M (fun p => row p ≠ 0)) := by
  unfold m_X8_spread
  refine ok_seq (P := fun S => ∃ row, S = mR M 18 row ∧ rtZ M (fun p => row p ≠ 0) ∧ lsZ M (fun p => row p ≠ 0) ∧ clZ M (fun p => row p ≠ 0)) ?_ (fun S hS => Ok_some.mpr hS)
  refine ok_lp (I := fun x => ∃ row, x.1 = mR M 18 row ∧ rtZ M (fun p => row p ≠ 0) ∧ lsZ M (fun p => row p ≠ 0) ∧ (x.2 = 1 ∨ (x.2 = 0 ∧ clZ M (fun p => row p ≠ 0)))) (μ := fun x => 2 * cn (fun p => decide (x.1.1 18 p = 0)) 24 + (if x.2 = 0 then 0 else 1)) (fun x hx => ?_) n (mR M 18 row0, 1) ?_ ⟨row0, rfl, h1, h2, Or.inl rfl⟩
  · obtain ⟨row, e1, e2, e3, e4⟩ := hx
    unfold b_X8_spread_2
    rw [Ok_ite]
    refine ⟨fun h => ?_, fun h => ?_⟩
    · rw [Ok_some]
      rcases e4 with e4 | ⟨-, e4⟩
      · rw [e4] at h; exact absurd h one_ne
      · exact ⟨row, e1, e2, e3, e4⟩
    · have pass : Ok (lpO (b_X8_spread_10 n) n (x.1, 0, 0)) (fun w => spI M row 24 0 w.1 w.2) := by
        refine ok_for3 (N := 24) (by omega) (I := fun r S a => spI M row r 0 S a) (fun r S a hr hS => ?_) ⟨row, e1, e2, e3, fun p hp => hp, Or.inl ⟨rfl, rfl, fun r' c' k' q p hF hq hp e hlt => ?_⟩⟩
        · unfold b_X8_spread_10
          dsimp only
          rw [Ok_ite]
          refine ⟨fun h => ?_, fun h => ?_⟩
          · have e : r = 24 := ge_eq (by decide) hr h
            rw [Ok_some]
            rw [e] at hS
            exact hS
          · have hr2 : r < 24 := nge_lt (by decide) hr h
            refine ok_seq (p_spreadR (by omega) hM hr2 hS) (fun w hw => ?_)
            rw [Ok_nm, Ok_some]
            exact ⟨hr2, nI_1 r, hw⟩
        · omega
      refine ok_seq pass (fun w hw => ?_)
      rw [Ok_some]
      obtain ⟨row', f1, f2, f3, f4, f5⟩ := hw
      have ex : x.1.1 18 = row := by rw [e1]; rfl
      have ew : w.1.1 18 = row' := by rw [f1]; rfl
      refine ⟨⟨row', f1, f2, f3, ?_⟩, ?_⟩
      · rcases f5 with ⟨a1, a2, a3⟩ | ⟨a1, -⟩
        · refine Or.inr ⟨a1, fun r c k q p hF hq hp e hx => ?_⟩
          have hx' : row' r ≠ 0 := hx
          rw [a2] at hx' ⊢
          exact a3 r c k q p hF hq hp e (Or.inl hF.1) hx'
        · exact Or.inl a1
      · show 2 * cn (fun p => decide (w.1.1 18 p = 0)) 24 + (if w.2 = 0 then 0 else 1) < 2 * cn (fun p => decide (x.1.1 18 p = 0)) 24 + (if x.2 = 0 then 0 else 1)
        rw [ex, ew, if_neg h]
        rcases f5 with ⟨a1, a2, a3⟩ | ⟨a1, p, p1, p2, p3⟩
        · rw [if_pos a1, a2]; omega
        · have := cn_strict (p := fun p => decide (row p = 0)) (q := fun p => decide (row' p = 0)) (fun k hk => by
            have hk' := of_decide_eq_true hk
            exact decide_eq_true (Decidable.byContradiction (fun hne => f4 k hne hk'))) (i := p) (decide_eq_true p2) (decide_eq_false p3) (m := 24) p1
          split <;> omega
  · have := cn_le (fun p => decide ((mR M 18 row0).1 18 p = 0)) 24
    show 2 * cn (fun p => decide ((mR M 18 row0).1 18 p = 0)) 24 + (if (1 : Int32) = 0 then 0 else 1) < n
    rw [if_neg one_ne]
    omega
