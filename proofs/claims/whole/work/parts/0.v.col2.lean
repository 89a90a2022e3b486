/-! ===== collect: what the reference forgets and removes ===== -/
def fgP (M : MSt) (g r k : Nat) : Prop := ∃ c mo, c < 4 ∧ M.1 14 r = nI c ∧ mo ≤ 6 ∧ M.1 9 c = nI mo ∧ k < mo ∧ r6 (M.1 11) c k ≠ 0 ∧ r6 (M.1 17) r k = nI g
def fgI (M : MSt) (g r k : Nat) (S : MSt) : Prop := ∃ row, S = mR M 17 row ∧ ∀ r2 k2, r2 < 24 → k2 < 6 → (fgP M g r2 k2 ∧ (r2 < r ∨ r2 = r ∧ k2 < k) → r6 row r2 k2 = -1) ∧ (¬ (fgP M g r2 k2 ∧ (r2 < r ∨ r2 = r ∧ k2 < k)) → r6 row r2 k2 = r6 (M.1 17) r2 k2)
theorem p_forgetR {n : Nat} {M : MSt} (hn : 24 < n) (hcl : ∀ r, r < 24 → M.1 14 r = -1 ∨ ∃ c, c < 4 ∧ M.1 14 r = nI c) (hold : ∀ c, c < 4 → ∃ mo, mo ≤ 6 ∧ M.1 9 c = nI mo) {g r : Nat} (hg : g < 24) (hr : r < 24) {S : MSt} (h : fgI M g r 0 S) : Ok (lpO (b_X8_forget_10 n (nI g) (nI r)) n (S, 0)) (fun S => fgI M g (r + 1) 0 S) := by
  have leave : ∀ {k S}, fgI M g r k S → (∀ k2, k2 < 6 → fgP M g r k2 → k2 < k) → fgI M g (r + 1) 0 S := by
    rintro k S ⟨row, h1, h2⟩ hx
    refine ⟨row, h1, fun r2 k2 hr2 hk2 => ⟨fun hp => (h2 r2 k2 hr2 hk2).1 ⟨hp.1, ?_⟩, fun hp => (h2 r2 k2 hr2 hk2).2 (fun hq => hp ⟨hq.1, by omega⟩)⟩⟩
    rcases Nat.lt_or_ge r2 r with h3 | h3
    · exact Or.inl h3
    · have e : r2 = r := by omega
      subst e
      exact Or.inr ⟨rfl, hx k2 hk2 hp.1⟩
  rcases hcl r hr with hd | ⟨c, hc, h14⟩
  · refine ok_for2 (N := 0) (by omega) (I := fun _ T => T = S) (fun k T hk hT => ?_) rfl
    subst hT
    have e14 : T.1 14 = M.1 14 := by
      obtain ⟨row, h1, -⟩ := h
      rw [h1]; rfl
    unfold b_X8_forget_10
    dsimp only
    rw [Ok_bif, nI_clamp (by omega), e14, hd, Ok_ite]
    refine ⟨inB_nI hr (by omega), fun _ => ?_, fun h2 => absurd m1_lt h2⟩
    rw [Ok_some]
    refine leave h (fun k2 hk2 hp => ?_)
    obtain ⟨c, mo, p1, p2, -⟩ := hp
    rw [hd] at p2
    exact absurd p2 (m1_ne_nI (by omega))
  · obtain ⟨mo, hmo, h9⟩ := hold c hc
    refine ok_for2 (N := mo) (by omega) (I := fun k T => fgI M g r k T) (fun k T hk hT => ?_) h
    obtain ⟨row, h1, h2⟩ := id hT
    have e9 : T.1 9 = M.1 9 := by rw [h1]; rfl
    have e11 : T.1 11 = M.1 11 := by rw [h1]; rfl
    have e14 : T.1 14 = M.1 14 := by rw [h1]; rfl
    have e17 : T.1 17 = row := by rw [h1]; rfl
    have hrow : ∀ k, k < 6 → r6 row r k = row (6 * r + k) := fun k hk => rfl
    unfold b_X8_forget_10
    dsimp only
    rw [e9, e11, e14, nI_clamp (by omega), h14, nI_clamp (by omega : c < 2 ^ 31), h9, ix6, ix6, Ok_bif, Ok_ite]
    refine ⟨inB_nI hr (by omega), fun hz => absurd hz (nI_pos (by omega)), fun _ => ?_⟩
    rw [Ok_bif, Ok_bif, Ok_ite]
    refine ⟨inB_nI hr (by omega), inB_nI hc (by omega), fun hk3 => ?_, fun hk3 => ?_⟩
    · have e : k = mo := ge_eq (by omega) hk hk3
      rw [Ok_some]
      refine leave hT (fun k2 hk2 hp => ?_)
      obtain ⟨c', mo', p1, p2, p3, p4, p5, -⟩ := hp
      have ec : c' = c := nI_inj4 p1 hc (p2.symm.trans h14)
      rw [ec] at p4
      have em : mo' = mo := (nI_eq (by omega) (by omega)).mp (p4.symm.trans h9)
      omega
    · have hk2 : k < mo := nge_lt (by omega) hk hk3
      have hcur : r6 row r k = r6 (M.1 17) r k := (h2 r k hr (by omega)).2 (fun hp => by omega)
      -- a value is written, and the invariant stands one field on
      have fin : ∀ y : Int32, (fgP M g r k → y = -1) → (¬ fgP M g r k → y = r6 (M.1 17) r k) → Ok (m_X8_forget_J105 n T (nI g) (nI r) (nI k) (nI (6 * r + k)) y) (sumE (fun y => k < mo ∧ y.2 = nI (k + 1) ∧ fgI M g r (k + 1) y.1) (fun S => fgI M g (r + 1) 0 S)) := fun y y1 y2 => by
        unfold m_X8_forget_J105
        rw [Ok_bif, Ok_nm, Ok_nm, Ok_some, nI_clamp (by omega)]
        refine ⟨inB_nI (by omega) (by omega), hk2, nI_1 k, fun l => if l = 6 * r + k then y else row l, ?_, fun r2 k2 hr2 hk2' => ?_⟩
        · show mI T 17 (6 * r + k) y = _
          rw [h1]
          exact mI_mR _ _ _ _ _ _ (fun l => rfl)
        · have hrd : r6 (fun l => if l = 6 * r + k then y else row l) r2 k2 = if r2 = r ∧ k2 = k then y else r6 row r2 k2 := by
            show (if 6 * r2 + k2 = 6 * r + k then y else row (6 * r2 + k2)) = _
            by_cases e : r2 = r ∧ k2 = k
            · rw [if_pos e, if_pos (by rw [e.1, e.2])]
            · rw [if_neg e, if_neg (by omega)]; rfl
          rw [hrd]
          by_cases e : r2 = r ∧ k2 = k
          · rw [if_pos e]
            obtain ⟨e1, e2⟩ := e
            subst e1 e2
            exact ⟨fun hp => y1 hp.1, fun hp => y2 (fun hq => hp ⟨hq, by omega⟩)⟩
          · rw [if_neg e]
            refine ⟨fun hp => (h2 r2 k2 hr2 hk2').1 ⟨hp.1, by omega⟩, fun hp => (h2 r2 k2 hr2 hk2').2 (fun hq => hp ⟨hq.1, by omega⟩)⟩
      have stay : ¬ fgP M g r k → Ok (m_X8_forget_J72 n T (nI g) (nI r) (nI k)) (sumE (fun y => k < mo ∧ y.2 = nI (k + 1) ∧ fgI M g r (k + 1) y.1) (fun S => fgI M g (r + 1) 0 S)) := fun hnp => by
        unfold m_X8_forget_J72 m_X8_forget_J73
        rw [if_pos rfl, ix6, Ok_bif, nI_clamp (by omega), e17]
        exact ⟨inB_nI (by omega) (by omega), fin _ (fun hp => absurd hp hnp) (fun _ => hcur)⟩
      rw [Ok_bif, Ok_bif, nI_clamp (by omega : 6 * c + k < 2 ^ 31), nI_clamp (by omega : 6 * r + k < 2 ^ 31), Ok_ite]
      refine ⟨inB_nI hr (by omega), inB_nI (by omega) (by omega), fun hk0 => ?_, fun hk0 => ?_⟩
      · refine stay (fun hp => ?_)
        obtain ⟨c', mo', p1, p2, p3, p4, p5, p6, p7⟩ := hp
        have ec : c' = c := nI_inj4 p1 hc (p2.symm.trans h14)
        rw [ec] at p6
        exact p6 hk0
      · rw [Ok_bif, Ok_ite, e17]
        refine ⟨inB_nI (by omega) (by omega), fun hv => ?_, fun hv => ?_⟩
        · refine stay (fun hp => ?_)
          obtain ⟨c', mo', p1, p2, p3, p4, p5, p6, p7⟩ := hp
          exact hv (hcur.trans p7)
        · have hv := Decidable.not_not.mp hv
          have hp : fgP M g r k := ⟨c, mo, hc, h14, hmo, h9, hk2, hk0, hcur.symm.trans hv⟩
          unfold m_X8_forget_J73
          rw [if_neg one_ne, ix6]
          exact fin _ (fun _ => rfl) (fun hnp => absurd hp hnp)
theorem p_forget {n : Nat} {M : MSt} (hn : 24 < n) (hcl : ∀ r, r < 24 → M.1 14 r = -1 ∨ ∃ c, c < 4 ∧ M.1 14 r = nI c) (hold : ∀ c, c < 4 → ∃ mo, mo ≤ 6 ∧ M.1 9 c = nI mo) {g : Nat} (hg : g < 24) : Ok (m_X8_forget n M (nI g)) (fun S => ∃ row, S = mR M 17 row ∧ ∀ r k, r < 24 → k < 6 → (fgP M g r k → r6 row r k = -1) ∧ (¬ fgP M g r k → r6 row r k = r6 (M.1 17) r k)) := by
  unfold m_X8_forget
  refine ok_seq (P := fun S => fgI M g 24 0 S) ?_ (fun S hS => Ok_some.mpr ?_)
  · refine ok_for2 (N := 24) hn (I := fun r S => fgI M g r 0 S) (fun r S hr hS => ?_) ⟨M.1 17, mR_self M 17 rfl, fun r2 k2 _ _ => ⟨fun hp => by omega, fun _ => rfl⟩⟩
    unfold b_X8_forget_2
    dsimp only
    rw [Ok_ite]
    refine ⟨fun h => ?_, fun h => ?_⟩
    · have e : r = 24 := ge_eq (by decide) hr h
      rw [Ok_some]
      rw [e] at hS
      exact hS
    · have hr2 : r < 24 := nge_lt (by decide) hr h
      refine ok_seq (p_forgetR hn hcl hold hg hr2 hS) (fun w hw => ?_)
      rw [Ok_nm, Ok_some]
      exact ⟨hr2, nI_1 r, hw⟩
  · obtain ⟨row, h1, h2⟩ := hS
    exact ⟨row, h1, fun r k hr hk => ⟨fun hp => (h2 r k hr hk).1 ⟨hp, Or.inl hr⟩, fun hp => (h2 r k hr hk).2 (fun hq => hp hq.1)⟩⟩
/-- an old value of slot r that goes, for what it refers to is removed, below R -/
def rmP (M : MSt) (mk : Nat → Int32) (r k R : Nat) : Prop := ∃ c mo g, c < 4 ∧ M.1 14 r = nI c ∧ mo ≤ 6 ∧ M.1 9 c = nI mo ∧ k < mo ∧ r6 (M.1 11) c k ≠ 0 ∧ r6 (M.1 17) r k = nI g ∧ g < R ∧ g < 24 ∧ M.1 14 g ≠ -1 ∧ mk g = 0
theorem p_remove {n : Nat} {M : MSt} {K : Nat} (hn : 24 < n) (hM : MI K M.1) {mk : Nat → Int32} : Ok (lpO (b_X8_collect_69 n) n (mR M 18 mk, 0, 0)) (fun w => w.2 = nI (cn (fun r => !decide (M.1 14 r = -1) && decide (mk r = 0)) 24) ∧ ∃ row, w.1 = mR (mR (mR M 18 mk) 14 (fun r => if r < 24 ∧ mk r = 0 then -1 else M.1 14 r)) 17 row ∧ ∀ r k, r < 24 → mk r ≠ 0 → k < 6 → (rmP M mk r k 24 → r6 row r k = -1) ∧ (¬ rmP M mk r k 24 → r6 row r k = r6 (M.1 17) r k)) := by
  have hK4 := hM.1.1
  refine ok_for3 (N := 24) hn (I := fun R S a => a = nI (cn (fun r => !decide (M.1 14 r = -1) && decide (mk r = 0)) R) ∧ ∃ row, S = mR (mR (mR M 18 mk) 14 (fun r => if r < R ∧ mk r = 0 then -1 else M.1 14 r)) 17 row ∧ ∀ r k, r < 24 → mk r ≠ 0 → k < 6 → (rmP M mk r k R → r6 row r k = -1) ∧ (¬ rmP M mk r k R → r6 row r k = r6 (M.1 17) r k)) (fun R S a hR hS => ?_) ⟨rfl, M.1 17, ?_, fun r k hr hmk hk => ⟨fun hp => ?_, fun _ => rfl⟩⟩
  · obtain ⟨ha, row, h1, h2⟩ := hS
    have e18 : S.1 18 = mk := by rw [h1]; rfl
    have e14 : ∀ r, S.1 14 r = if r < R ∧ mk r = 0 then -1 else M.1 14 r := fun r => by rw [h1]; rfl
    unfold b_X8_collect_69
    dsimp only
    rw [e18, Ok_ite]
    refine ⟨fun h => ?_, fun h => ?_⟩
    · have e : R = 24 := ge_eq (by decide) hR h
      rw [Ok_some]
      subst e
      exact ⟨ha, row, h1, h2⟩
    · have hR2 : R < 24 := nge_lt (by decide) hR h
      have e14R : S.1 14 R = M.1 14 R := by rw [e14, if_neg (by omega)]
      -- nothing is removed here
      have stay : (M.1 14 R = -1 ∨ mk R ≠ 0) → R < 24 ∧ nI R + 1 = nI (R + 1) ∧ a = nI (cn (fun r => !decide (M.1 14 r = -1) && decide (mk r = 0)) (R + 1)) ∧ ∃ row, S = mR (mR (mR M 18 mk) 14 (fun r => if r < R + 1 ∧ mk r = 0 then -1 else M.1 14 r)) 17 row ∧ ∀ r k, r < 24 → mk r ≠ 0 → k < 6 → (rmP M mk r k (R + 1) → r6 row r k = -1) ∧ (¬ rmP M mk r k (R + 1) → r6 row r k = r6 (M.1 17) r k) := fun hx => by
        refine ⟨hR2, nI_1 R, ?_, row, ?_, fun r k hr hmk hk => ⟨fun hp => (h2 r k hr hmk hk).1 ?_, fun hp => (h2 r k hr hmk hk).2 (fun hq => hp ?_)⟩⟩
        · rw [cn_f (fun h3 => by
            simp only [Bool.and_eq_true, Bool.not_eq_true', decide_eq_false_iff_not, decide_eq_true_eq] at h3
            rcases hx with hx | hx
            · exact h3.1 hx
            · exact hx h3.2)]
          exact ha
        · rw [h1]
          congr 2
          funext r
          by_cases e : r = R
          · subst e
            rcases hx with hx | hx
            · by_cases hz : mk r = 0
              · rw [if_neg (by omega), if_pos ⟨by omega, hz⟩, hx]
              · rw [if_neg (fun h => hz h.2), if_neg (fun h => hz h.2)]
            · rw [if_neg (fun h => hx h.2), if_neg (fun h => hx h.2)]
          · have : r < R + 1 ↔ r < R := by omega
            simp only [this]
        · obtain ⟨c, mo, g, p1, p2, p3, p4, p5, p6, p7, p8, p9, p10, p11⟩ := hp
          refine ⟨c, mo, g, p1, p2, p3, p4, p5, p6, p7, ?_, p9, p10, p11⟩
          rcases Nat.lt_succ_iff_lt_or_eq.mp p8 with h4 | h4
          · exact h4
          · rw [h4] at p10 p11
            rcases hx with hx | hx
            · exact absurd hx p10
            · exact absurd p11 hx
        · obtain ⟨c, mo, g, p1, p2, p3, p4, p5, p6, p7, p8, p9, p10, p11⟩ := hq
          exact ⟨c, mo, g, p1, p2, p3, p4, p5, p6, p7, by omega, p9, p10, p11⟩
      rw [Ok_bif, nI_clamp (by omega), e14R, Ok_ite]
      refine ⟨inB_nI hR2 (by omega), fun hl => ?_, fun hl => ?_⟩
      · rw [Ok_nm, Ok_some]
        refine stay (Or.inl ?_)
        rcases hM.2.2.1 R hR2 with h4 | ⟨c, hc, h4, -⟩
        · exact h4
        · rw [h4] at hl; exact absurd hl (nI_pos (by omega))
      · have hlive : M.1 14 R ≠ -1 := fun h4 => hl (by rw [h4]; exact m1_lt)
        rw [Ok_bif, Ok_ite]
        refine ⟨inB_nI hR2 (by omega), fun hmk => ?_, fun hmk => ?_⟩
        · rw [Ok_nm, Ok_some]
          exact stay (Or.inr hmk)
        · have hmk := Decidable.not_not.mp hmk
          rw [Ok_bif, Ok_nm]
          refine ⟨inB_nI hR2 (by omega), ?_⟩
          have hm14 : ∀ r, (mI S 14 R (-1)).1 14 r = if r < R + 1 ∧ mk r = 0 then -1 else M.1 14 r := fun r => by
            rw [mI_at, e14]
            by_cases e : r = R
            · rw [if_pos ⟨rfl, e⟩, if_pos ⟨by omega, by rw [e]; exact hmk⟩]
            · rw [if_neg (fun h => e h.2)]
              have : r < R + 1 ↔ r < R := by omega
              simp only [this]
          have e9 : (mI S 14 R (-1)).1 9 = M.1 9 := by rw [h1]; rfl
          have e11 : (mI S 14 R (-1)).1 11 = M.1 11 := by rw [h1]; rfl
          have e17 : (mI S 14 R (-1)).1 17 = row := by rw [h1]; rfl
          have hf := p_forget (n := n) (M := mI S 14 R (-1)) hn (fun r hr => by
            rw [hm14]
            by_cases e : r < R + 1 ∧ mk r = 0
            · exact Or.inl (if_pos e)
            · rw [if_neg e]
              rcases hM.2.2.1 r hr with h4 | ⟨c, hc, h4, -⟩
              · exact Or.inl h4
              · exact Or.inr ⟨c, by omega, h4⟩) (fun c hc => by
            rw [e9]
            obtain ⟨mo, g1, g2, -⟩ := hM.2.2.2.2.2.2.1 c hc
            exact ⟨mo, g1, g2⟩) hR2
          refine ok_seq hf (fun T hT => ?_)
          obtain ⟨row', t1, t2⟩ := hT
          rw [Ok_nm, Ok_nm, Ok_some]
          refine ⟨hR2, nI_1 R, ?_, row', ?_, fun r k hr hmr hk => ?_⟩
          · rw [cn_t (by
              simp only [Bool.and_eq_true, Bool.not_eq_true', decide_eq_false_iff_not, decide_eq_true_eq]
              exact ⟨hlive, hmk⟩)]
            show a + 1 = _
            rw [ha, nI_1]
          · show T = _
            rw [t1]
            refine Prod.ext (funext fun g => funext fun l => ?_) (by rw [h1]; rfl)
            simp only [mR_at2]
            by_cases g17 : g = 17
            · rw [if_pos g17, if_pos g17]
            · rw [if_neg g17, if_neg g17]
              by_cases g14 : g = 14
              · subst g14
                rw [if_pos rfl, hm14]
              · rw [if_neg g14, mI_at, if_neg (fun h => g14 h.1), h1]
                simp only [mR_at2]
                rw [if_neg g17, if_neg g14]
          · have t3 := t2 r k hr hk
            have fg : fgP (mI S 14 R (-1)) R r k ↔ ∃ c mo, c < 4 ∧ M.1 14 r = nI c ∧ mo ≤ 6 ∧ M.1 9 c = nI mo ∧ k < mo ∧ r6 (M.1 11) c k ≠ 0 ∧ r6 row r k = nI R := by
              unfold fgP
              rw [e9, e11, e17, hm14, if_neg (fun h => hmr h.2)]
            rw [e17] at t3
            have old := h2 r k hr hmr hk
            refine ⟨fun hp => ?_, fun hp => ?_⟩
            · by_cases hf : fgP (mI S 14 R (-1)) R r k
              · exact t3.1 hf
              · rw [t3.2 hf]
                refine old.1 ?_
                obtain ⟨c, mo, g, p1, p2, p3, p4, p5, p6, p7, p8, p9, p10, p11⟩ := hp
                rcases Nat.lt_succ_iff_lt_or_eq.mp p8 with h4 | h4
                · exact ⟨c, mo, g, p1, p2, p3, p4, p5, p6, p7, h4, p9, p10, p11⟩
                · refine Classical.byContradiction (fun hno => hf (fg.mpr ⟨c, mo, p1, p2, p3, p4, p5, p6, ?_⟩))
                  rw [old.2 hno, p7, h4]
            · have hno : ¬ rmP M mk r k R := fun ⟨c, mo, g, p1, p2, p3, p4, p5, p6, p7, p8, p9⟩ => hp ⟨c, mo, g, p1, p2, p3, p4, p5, p6, p7, by omega, p9⟩
              have hf : ¬ fgP (mI S 14 R (-1)) R r k := fun hf => by
                obtain ⟨c, mo, p1, p2, p3, p4, p5, p6, p7⟩ := fg.mp hf
                rw [old.2 hno] at p7
                exact hp ⟨c, mo, R, p1, p2, p3, p4, p5, p6, p7, by omega, hR2, hlive, hmk⟩
              rw [t3.2 hf, old.2 hno]
  · refine Prod.ext (funext fun g => funext fun l => ?_) rfl
    simp only [mR_at2, Nat.not_lt_zero, false_and, if_false]
    by_cases g17 : g = 17
    · subst g17; simp
    · by_cases g14 : g = 14
      · subst g14; simp
      · simp [g17, g14]
  · obtain ⟨c, mo, g, p1, p2, p3, p4, p5, p6, p7, p8, -⟩ := hp
    exact absurd p8 (Nat.not_lt_zero _)
