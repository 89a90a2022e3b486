/-! ===== collect: what the class removes; both ===== -/
def rmE (C : CSt) (rows : Nat → Nat → Int32) (ln : Nat → Option Nat) (k : Nat) : CSt := sF (sF (lnS C rows ln) 13 (fun e l => if e < k ∧ l = 0 ∧ rows e 0 = 0 then 0 else C.1 13 e l)) 11 (fun i l => if i = 0 ∧ l = 0 then C.1 11 0 0 - nI (cn (fun e => !decide (C.1 13 e 0 = 0) && decide (rows e 0 = 0)) k) else C.1 11 i l)
theorem q_remove {n : Nat} {C : CSt} {rows : Nat → Nat → Int32} {ln : Nat → Option Nat} (hn : 24 < n) : lpO (b_X7_collect_8 n) n (lnS C rows ln, 0, 0) = some (rmE C rows ln 24, nI (cn (fun e => !decide (C.1 13 e 0 = 0) && decide (rows e 0 = 0)) 24)) := by
  refine ok_get (ok_for3 (N := 24) hn (I := fun k S a => S = rmE C rows ln k ∧ a = nI (cn (fun e => !decide (C.1 13 e 0 = 0) && decide (rows e 0 = 0)) k)) (fun k S a hk hS => ?_) ⟨?_, rfl⟩)
  · obtain ⟨hS, ha⟩ := hS
    have e16 : S.1 16 = rows := by rw [hS]; rfl
    have e13 : S.1 13 k 0 = C.1 13 k 0 := by
      rw [hS]
      exact if_neg (fun h => absurd h.1 (Nat.lt_irrefl _))
    have e11 : S.1 11 0 0 = C.1 11 0 0 - nI (cn (fun e => !decide (C.1 13 e 0 = 0) && decide (rows e 0 = 0)) k) := by
      rw [hS]; rfl
    unfold b_X7_collect_8
    dsimp only
    rw [e16, Ok_ite]
    refine ⟨fun h => ?_, fun h => ?_⟩
    · have e : k = 24 := ge_eq (by decide) hk h
      rw [Ok_some]
      rw [e] at hS ha
      exact Prod.ext hS ha
    · have hk2 : k < 24 := nge_lt (by decide) hk h
      have stay : (C.1 13 k 0 = 0 ∨ rows k 0 ≠ 0) → k < 24 ∧ nI k + 1 = nI (k + 1) ∧ S = rmE C rows ln (k + 1) ∧ a = nI (cn (fun e => !decide (C.1 13 e 0 = 0) && decide (rows e 0 = 0)) (k + 1)) := fun hx => by
        have hc : cn (fun e => !decide (C.1 13 e 0 = 0) && decide (rows e 0 = 0)) (k + 1) = cn (fun e => !decide (C.1 13 e 0 = 0) && decide (rows e 0 = 0)) k := cn_f (fun h3 => by
          simp only [Bool.and_eq_true, Bool.not_eq_true', decide_eq_false_iff_not, decide_eq_true_eq] at h3
          rcases hx with hx | hx
          · exact h3.1 hx
          · exact hx h3.2)
        refine ⟨hk2, nI_1 k, ?_, by rw [hc]; exact ha⟩
        rw [hS]
        unfold rmE
        rw [hc]
        congr 2
        funext e l
        by_cases e2 : e = k
        · subst e2
          rcases hx with hx | hx
          · by_cases hl : l = 0 ∧ rows e 0 = 0
            · rw [if_neg (by omega), if_pos ⟨by omega, hl⟩, hl.1, hx]
            · rw [if_neg (fun h => hl h.2), if_neg (fun h => hl h.2)]
          · rw [if_neg (fun h => hx h.2.2), if_neg (fun h => hx h.2.2)]
        · have : e < k + 1 ↔ e < k := by omega
          simp only [this]
      rw [Ok_bif, nI_clamp (by omega), e13, Ok_ite]
      refine ⟨inB_nI hk2 (by omega), fun h2 => ?_, fun h2 => ?_⟩
      · rw [Ok_nm, Ok_some]
        exact stay (Or.inl h2)
      · rw [Ok_ite]
        refine ⟨fun h3 => ?_, fun h3 => ?_⟩
        · rw [Ok_nm, Ok_some]
          exact stay (Or.inr h3)
        · have h3 := Decidable.not_not.mp h3
          have hc : cn (fun e => !decide (C.1 13 e 0 = 0) && decide (rows e 0 = 0)) (k + 1) = cn (fun e => !decide (C.1 13 e 0 = 0) && decide (rows e 0 = 0)) k + 1 := cn_t (by
            simp only [Bool.and_eq_true, Bool.not_eq_true', decide_eq_false_iff_not, decide_eq_true_eq]
            exact ⟨h2, h3⟩)
          unfold m_X6_remove
          rw [Ok_bind, Ok_nm, Ok_nm, Ok_some, Ok_nm, Ok_nm, Ok_some]
          refine ⟨hk2, nI_1 k, ?_, ?_⟩
          · show sI (sI S 13 k 0 0) 11 0 0 (S.1 11 0 0 - 1) = _
            rw [e11, Int32.sub_sub, nI_1, ← hc, hS]
            refine Prod.ext (funext fun g => funext fun e => funext fun l => ?_) rfl
            unfold rmE
            simp only [sI_at, sF_at2]
            by_cases g11 : g = 11
            · subst g11
              by_cases hl : e = 0 ∧ l = 0
              · simp [hl]
              · simp [hl]
            · by_cases g13 : g = 13
              · subst g13
                by_cases hl : e = k ∧ l = 0
                · simp [hl, h3]
                · have : (e < k + 1 ∧ l = 0 ∧ rows e 0 = 0) ↔ (e < k ∧ l = 0 ∧ rows e 0 = 0) := ⟨fun h => ⟨by omega, h.2⟩, fun h => ⟨by omega, h.2⟩⟩
                  simp [hl, this]
              · simp [g11, g13]
          · show a + 1 = _
            rw [ha, nI_1, ← hc]
  · refine Prod.ext (funext fun g => funext fun e => funext fun l => ?_) rfl
    unfold rmE
    simp only [sF_at2, Nat.not_lt_zero, false_and, if_false]
    by_cases g11 : g = 11
    · subst g11
      by_cases hl : e = 0 ∧ l = 0
      · rw [if_pos rfl, if_pos hl, hl.1, hl.2]
        show C.1 11 0 0 = C.1 11 0 0 - nI 0
        rw [nI_0, Int32.sub_zero]
      · rw [if_pos rfl, if_neg hl]; rfl
    · by_cases g13 : g = 13
      · subst g13; simp; rfl
      · simp [g11, g13]
set_option maxHeartbeats 2000000 in
theorem Rel_collect {j K L : Nat} {σ τ : Nat → Nat} {C : CSt} {M : MSt} (hM : MI K M.1) (hC : CR j K L σ τ C.1 M.1) {mk row : Nat → Int32} {rows : Nat → Nat → Int32} {ln : Nat → Option Nat}
    (a1 : rtZ M (fun p => mk p ≠ 0)) (a2 : lsZ M (fun p => mk p ≠ 0)) (a3 : clZ M (fun p => mk p ≠ 0)) (b1 : rtZ M (fun p => rows (σ p) 0 ≠ 0)) (b2 : lsZ M (fun r => M.1 14 r ≠ -1 ∧ rows (σ r) 0 ≠ 0)) (b3 : clZ M (fun p => M.1 14 p ≠ -1 ∧ rows (σ p) 0 ≠ 0))
    (hrow : ∀ r k, r < 24 → mk r ≠ 0 → k < 6 → (rmP M mk r k 24 → r6 row r k = -1) ∧ (¬ rmP M mk r k 24 → r6 row r k = r6 (M.1 17) r k)) :
    nI (cn (fun e => !decide (C.1 13 e 0 = 0) && decide (rows e 0 = 0)) 24) = nI (cn (fun r => !decide (M.1 14 r = -1) && decide (mk r = 0)) 24) ∧ Rel (j + 1) (rmE C rows ln 24) (mR (mR (mR M 18 mk) 14 (fun r => if r < 24 ∧ mk r = 0 then -1 else M.1 14 r)) 17 row) := by
  obtain ⟨hcls, hsh, hrec, hval, hroot, hrank, hold, hwrd, hstp⟩ := id hM
  obtain ⟨kcls, ksh, kold, krec, kid, kcnt, kval, kroot, koldv, kwrd, kstp, kflt⟩ := id hC
  have hK4 : K ≤ 4 := hcls.1
  have rl : rtZ M (fun p => M.1 14 p ≠ -1) := fun i p hi hp e => by
    rcases hroot i hi with h | ⟨p', h1, h2, h3⟩
    · rw [h] at e; exact absurd e (m1_ne_nI (by omega))
    · rw [(nI_eq (by omega) (by omega)).mp (e.symm.trans h2)]; exact h3
  have eqv : ∀ r, r < 24 → M.1 14 r ≠ -1 → (mk r ≠ 0 ↔ rows (σ r) 0 ≠ 0) := fun r hr hl => ⟨fun h => (a2 (fun p => M.1 14 p ≠ -1 ∧ rows (σ p) 0 ≠ 0) (fun i p hi hp e => ⟨rl i p hi hp e, b1 i p hi hp e⟩) b3 r hr h).2, fun h => b2 (fun p => mk p ≠ 0) a1 a3 r hr ⟨hl, h⟩⟩
  have mlive : ∀ r, r < 24 → mk r ≠ 0 → M.1 14 r ≠ -1 := ls_live hM a2
  have eqz : ∀ r, r < 24 → M.1 14 r ≠ -1 → (mk r = 0 ↔ rows (σ r) 0 = 0) := fun r hr hl => by
    have := eqv r hr hl
    constructor
    · intro h
      exact Decidable.byContradiction (fun h2 => this.mpr h2 h)
    · intro h
      exact Decidable.byContradiction (fun h2 => this.mp h2 h)
  have cnq : cn (fun r => !decide (M.1 14 r = -1) && decide (mk r = 0)) 24 = cn (fun e => !decide (C.1 13 e 0 = 0) && decide (rows e 0 = 0)) 24 := by
    refine cn_bij σ τ (fun r hr hp => ?_) (fun e he hp => ?_)
    · simp only [Bool.and_eq_true, Bool.not_eq_true', decide_eq_false_iff_not, decide_eq_true_eq] at hp ⊢
      obtain ⟨g1, g2, g3, -⟩ := krec.1 r hr hp.1
      exact ⟨g1, ⟨g3, (eqz r hr hp.1).mp hp.2⟩, g2⟩
    · simp only [Bool.and_eq_true, Bool.not_eq_true', decide_eq_false_iff_not, decide_eq_true_eq] at hp ⊢
      obtain ⟨g1, g2, g3⟩ := krec.2 e he hp.1
      exact ⟨g1, ⟨g3, (eqz (τ e) g1 g3).mpr (by rw [g2]; exact hp.2)⟩, g2⟩
  refine ⟨by rw [cnq], ?_⟩
  generalize hM' : (mR (mR (mR M 18 mk) 14 (fun r => if r < 24 ∧ mk r = 0 then -1 else M.1 14 r)) 17 row) = M'
  generalize hC' : rmE C rows ln 24 = C'
  have f14 : ∀ r, r < 24 → M'.1 14 r = if mk r = 0 then -1 else M.1 14 r := fun r hr => by
    rw [← hM']
    show (if r < 24 ∧ mk r = 0 then -1 else M.1 14 r) = _
    by_cases e : mk r = 0
    · rw [if_pos ⟨hr, e⟩, if_pos e]
    · rw [if_neg (fun h => e h.2), if_neg e]
  have f4 : M'.1 4 = M.1 4 := by rw [← hM']; rfl
  have f6 : M'.1 6 = M.1 6 := by rw [← hM']; rfl
  have f7 : M'.1 7 = M.1 7 := by rw [← hM']; rfl
  have f8 : M'.1 8 = M.1 8 := by rw [← hM']; rfl
  have f16 : M'.1 16 = M.1 16 := by rw [← hM']; rfl
  have f17 : M'.1 17 = row := by rw [← hM']; rfl
  have f19 : M'.1 19 = M.1 19 := by rw [← hM']; rfl
  have f3 : M'.1 3 = M.1 3 := by rw [← hM']; rfl
  have f9 : M'.1 9 = M.1 9 := by rw [← hM']; rfl
  have f11 : M'.1 11 = M.1 11 := by rw [← hM']; rfl
  have s13 : ∀ e, e < 24 → C'.1 13 e 0 = if rows e 0 = 0 then 0 else C.1 13 e 0 := fun e he => by
    rw [← hC']
    show (if e < 24 ∧ 0 = 0 ∧ rows e 0 = 0 then 0 else C.1 13 e 0) = _
    by_cases h : rows e 0 = 0
    · rw [if_pos ⟨he, rfl, h⟩, if_pos h]
    · rw [if_neg (fun h2 => h h2.2.2), if_neg h]
  have keep : ∀ {r c}, r < 24 → c < 4 → M'.1 14 r = nI c → mk r ≠ 0 ∧ M.1 14 r = nI c := fun {r c} hr hc h => by
    rw [f14 r hr] at h
    by_cases e : mk r = 0
    · rw [if_pos e] at h; exact absurd h (m1_ne_nI (by omega))
    · rw [if_neg e] at h; exact ⟨e, h⟩
  have fl : ∀ {r c k q}, Fld (M'.1 4) (M'.1 6) (M'.1 14) r c k q → Fld (M.1 4) (M.1 6) (M.1 14) r c k q ∧ mk r ≠ 0 := fun {r c k q} h => by
    obtain ⟨h1, h2, h3, h4, h5⟩ := h
    obtain ⟨g1, g2⟩ := keep h1 h2 h3
    rw [f4] at h4
    rw [f6] at h5
    exact ⟨⟨h1, h2, g2, h4, h5⟩, g1⟩
  have own : ∀ {r k p}, Own (M'.1 4) (M'.1 6) (M'.1 14) (M'.1 16) r k p → Own (M.1 4) (M.1 6) (M.1 14) (M.1 16) r k p := fun {r k p} ⟨c, h1, h2⟩ => ⟨c, (fl h1).1, by rw [← f16]; exact h2⟩
  have mk14 : ∀ {p}, p < 24 → mk p ≠ 0 → M'.1 14 p = M.1 14 p := fun {p} hp h => by rw [f14 p hp, if_neg h]
  have mkl : ∀ {p}, p < 24 → mk p ≠ 0 → M'.1 14 p ≠ -1 := fun {p} hp h => by rw [mk14 hp h]; exact mlive p hp h
  have trs : ∀ {w : Int32}, (w = -1 ∨ ∃ p, p < 24 ∧ w = nI p ∧ mk p ≠ 0) → tr σ (C'.1 13) w = tr σ (C.1 13) w := fun {w} h => by
    rcases h with h | ⟨p, hp, h, hmk⟩
    · rw [h, tr_m1, tr_m1]
    · have hl := mlive p hp hmk
      obtain ⟨g1, -⟩ := krec.1 p hp hl
      rw [h, tr_nI σ _ hp, tr_nI σ _ hp, s13 _ g1, if_neg ((eqv p hp hl).mp hmk)]
  have rfm : ∀ {r c k q}, Fld (M.1 4) (M.1 6) (M.1 14) r c k q → q ≠ 0 → mk r ≠ 0 → (r6 (M.1 16) r k = -1 ∨ ∃ p, p < 24 ∧ r6 (M.1 16) r k = nI p ∧ mk p ≠ 0) := fun {r c k q} hF hq hmk => by
    rcases ref_live hM hF hq with h | ⟨p, hp, h, hl⟩
    · exact Or.inl h
    · exact Or.inr ⟨p, hp, h, a3 r c k q p hF hq hp h hmk⟩
  have rtm : ∀ {i}, i < 8 → (M.1 19 i = -1 ∨ ∃ p, p < 24 ∧ M.1 19 i = nI p ∧ mk p ≠ 0) := fun {i} hi => by
    rcases hroot i hi with h | ⟨p, hp, h, hl⟩
    · exact Or.inl h
    · exact Or.inr ⟨p, hp, h, a1 i p hi hp h⟩
  refine ⟨K, L, σ, τ, ⟨by rw [← hM']; exact hcls, by rw [← hM']; exact hsh, fun r hr => ?_, ⟨fun r c k h => ?_, fun r c k h => ?_, fun r c k h => ?_, fun r k r' k' p h h' => hval.2.2.2 r k r' k' p (own h) (own h')⟩, fun i hi => ?_, by rw [← hM']; exact hrank, fun c hc => ?_, by rw [← hM']; exact hwrd, by rw [← hM']; exact hstp⟩, ⟨by rw [← hM', ← hC']; exact kcls, by rw [← hM', ← hC']; exact ksh, by rw [← hM', ← hC']; exact kold, ⟨fun r hr hl => ?_, fun e he hl => ?_⟩, ⟨?_, ?_, fun e he hl => ?_, fun e he hl e' he' h => ?_⟩, ?_, fun r c k q h => ?_, fun i hi => ?_, fun c mo r k hc h3 hmo h9 hr h14 hk => ?_, by rw [← hM', ← hC']; exact kwrd, by rw [← hM', ← hC']; exact kstp, by rw [← hM', ← hC']; exact kflt⟩⟩
  · -- records
    rw [f14 r hr]
    by_cases e : mk r = 0
    · exact Or.inl (if_pos e)
    · rw [if_neg e]
      have e2 : M'.1 2 = M.1 2 := by rw [← hM']; rfl
      have e15 : M'.1 15 = M.1 15 := by rw [← hM']; rfl
      rw [e2, e15]
      exact hrec r hr
  · rw [f7, f8, f16]
    exact hval.1 r c k (fl h).1
  · rw [f16]
    obtain ⟨hF, hmk⟩ := fl h
    rcases hval.2.1 r c k hF with g | ⟨p, g1, g2, g3, g4⟩
    · exact Or.inl g
    · refine Or.inr ⟨p, g1, g2, mkl g1 (a3 r c k 1 p hF (by decide) g1 g2 hmk), fun r' k' ho => g4 r' k' ?_⟩
      rw [← f16] at ho
      exact own ho
  · rw [f16, f7]
    obtain ⟨hF, hmk⟩ := fl h
    obtain ⟨p, g1, g2, g3⟩ := hval.2.2.1 r c k hF
    exact ⟨p, g1, g2, by rw [mk14 g1 (a3 r c k 2 p hF (by decide) g1 g2 hmk)]; exact g3⟩
  · rw [f19]
    rcases rtm hi with h | ⟨p, hp, h, hmk⟩
    · exact Or.inl h
    · exact Or.inr ⟨p, hp, h, mkl hp hmk⟩
  · -- old versions
    obtain ⟨mo, g1, g2, g3⟩ := hold c hc
    have f10 : M'.1 10 = M.1 10 := by rw [← hM']; rfl
    have f12 : M'.1 12 = M.1 12 := by rw [← hM']; rfl
    have f13 : M'.1 13 = M.1 13 := by rw [← hM']; rfl
    rw [f3, f9, f10, f11, f12, f13]
    refine ⟨mo, g1, g2, fun h3 => ?_⟩
    obtain ⟨c1, c2, c3, φ, c4, c5⟩ := g3 h3
    refine ⟨c1, fun r k hr h14 hk hq => ?_, fun r k hr h14 hk hq => ?_, φ, fun k hk hq => ?_, c5⟩
    · obtain ⟨hmk, h14⟩ := keep hr hc h14
      rw [f17, (hrow r k hr hmk (by omega)).2 (fun ⟨c', mo', g, p1, p2, p3, p4, p5, p6, _⟩ => by
        have ec : c' = c := nI_inj4 p1 hc (p2.symm.trans h14)
        rw [ec] at p6
        exact p6 hq)]
      exact c2 r k hr h14 hk hq
    · obtain ⟨hmk, h14⟩ := keep hr hc h14
      rw [f17]
      have hr2 := hrow r k hr hmk (by omega)
      by_cases hp : rmP M mk r k 24
      · exact Or.inl (hr2.1 hp)
      · rw [hr2.2 hp]
        rcases c3 r k hr h14 hk hq with w | ⟨p, w1, w2, w3, w4⟩
        · exact Or.inl w
        · refine Or.inr ⟨p, w1, w2, ?_, fun r' k' ho => w4 r' k' (own ho)⟩
          refine mkl w1 (fun hz => hp ⟨c, mo, p, hc, h14, g1, g2, hk, ?_, w2, w1, w1, w3, hz⟩)
          rw [hq]; decide
    · obtain ⟨d1, d2, d3, d4⟩ := c4 k hk hq
      rw [f4, f6, f7]
      refine ⟨d1, d2, d3, fun r hr h14 => ?_⟩
      obtain ⟨hmk, h14⟩ := keep hr hc h14
      have hx := d4 r hr h14
      have hF : Fld (M.1 4) (M.1 6) (M.1 14) r c (φ k) 2 := ⟨hr, hc, h14, d1, d2⟩
      rw [f17, f16, ← hx]
      refine (hrow r k hr hmk (by omega)).2 (fun ⟨c', mo', g, p1, p2, p3, p4, p5, p6, p7, p8, p9, p10, p11⟩ => ?_)
      rw [hx] at p7
      exact a3 r c (φ k) 2 g hF (by decide) p9 p7 hmk p11
  · -- the class's records
    rw [f14 r hr] at hl
    by_cases e : mk r = 0
    · rw [if_pos e] at hl; exact absurd rfl hl
    · rw [if_neg e] at hl
      obtain ⟨g1, g2, g3, g4, g5⟩ := krec.1 r hr hl
      have e14 : C'.1 14 = C.1 14 := by rw [← hC']; rfl
      have e15 : C'.1 15 = C.1 15 := by rw [← hC']; rfl
      have m15 : M'.1 15 = M.1 15 := by rw [← hM']; rfl
      refine ⟨g1, g2, by rw [s13 _ g1, if_neg ((eqv r hr hl).mp e)]; exact g3, by rw [e14, mk14 hr e]; exact g4, by rw [e15, m15]; exact g5⟩
  · rw [s13 e he] at hl
    by_cases h : rows e 0 = 0
    · rw [if_pos h] at hl; exact absurd rfl hl
    · rw [if_neg h] at hl
      obtain ⟨g1, g2, g3⟩ := krec.2 e he hl
      exact ⟨g1, g2, mkl g1 ((eqv (τ e) g1 g3).mpr (by rw [g2]; exact h))⟩
  · have := kid.1; omega
  · have e12 : C'.1 12 = C.1 12 := by rw [← hC']; rfl
    rw [e12]
    exact kid.2.1
  · rw [s13 e he] at hl ⊢
    by_cases h : rows e 0 = 0
    · rw [if_pos h] at hl; exact absurd rfl hl
    · rw [if_neg h] at hl ⊢
      exact kid.2.2.1 e he hl
  · rw [s13 e he] at hl h
    rw [s13 e' he'] at h
    by_cases h1 : rows e 0 = 0
    · rw [if_pos h1] at hl; exact absurd rfl hl
    · rw [if_neg h1] at hl h
      by_cases h2 : rows e' 0 = 0
      · rw [if_pos h2] at h; exact absurd h hl
      · rw [if_neg h2] at h
        exact kid.2.2.2 e he hl e' he' h
  · -- the count
    have e11 : C'.1 11 0 0 = C.1 11 0 0 - nI (cn (fun e => !decide (C.1 13 e 0 = 0) && decide (rows e 0 = 0)) 24) := by rw [← hC']; rfl
    show C'.1 11 0 0 = _
    have hsp := cn_split (fun r => !decide (M.1 14 r = -1)) (fun r => decide (mk r = 0)) 24
    have hk : C.1 11 0 0 = nI (cn (fun r => !decide (M.1 14 r = -1)) 24) := kcnt
    have hlast : cn (fun r => !decide (M'.1 14 r = -1)) 24 = cn (fun r => !decide (M.1 14 r = -1) && !decide (mk r = 0)) 24 := cn_cong (fun r hr => by
      rw [f14 r hr]
      by_cases e : mk r = 0
      · simp [e]
      · simp [e])
    rw [e11, hk, ← cnq, hlast, pk_sub (by omega)]
    congr 1
    omega
  · -- values
    obtain ⟨hF, hmk⟩ := fl h
    have e17 : C'.1 17 = C.1 17 := by rw [← hC']; rfl
    rw [e17, f16]
    have hv := kval r c k q hF
    by_cases hq : q = 0
    · rw [if_pos hq] at hv ⊢; exact hv
    · rw [if_neg hq] at hv ⊢
      rw [trs (rfm hF hq hmk)]
      exact hv
  · have e19 : C'.1 19 = C.1 19 := by rw [← hC']; rfl
    rw [e19, f19, trs (rtm hi)]
    exact kroot i hi
  · -- old values
    rw [f3] at h3
    rw [f9] at h9
    obtain ⟨hmk, h14⟩ := keep hr hc h14
    have e18 : C'.1 18 = C.1 18 := by rw [← hC']; rfl
    rw [f11, f17, e18]
    obtain ⟨o1, o2⟩ := koldv c mo r k hc h3 hmo h9 hr h14 hk
    have hr2 := hrow r k hr hmk (by omega)
    refine ⟨fun k0 => ?_, fun k0 => ?_⟩
    · rw [hr2.2 (fun ⟨c', mo', g, p1, p2, p3, p4, p5, p6, _⟩ => by
        have ec : c' = c := nI_inj4 p1 hc (p2.symm.trans h14)
        rw [ec] at p6
        exact p6 k0)]
      exact o1 k0
    · obtain ⟨o3, o4⟩ := o2 k0
      by_cases hp : rmP M mk r k 24
      · rw [hr2.1 hp]
        refine ⟨fun h => absurd rfl h, fun _ => ?_⟩
        obtain ⟨c', mo', g, p1, p2, p3, p4, p5, p6, p7, p8, p9, p10, p11⟩ := hp
        have e := o3 (by rw [p7]; exact nI_ne_m1 (by omega))
        rw [p7, tr_nI σ _ p9] at e
        obtain ⟨g1, g2, g3, -⟩ := krec.1 g p9 p10
        obtain ⟨i, i1, i2, i3⟩ := kid.2.2.1 (σ g) g1 g3
        refine ⟨i, i2, e.trans i3, fun e' he' hl' => ?_⟩
        rw [s13 e' he'] at hl' ⊢
        by_cases h1 : rows e' 0 = 0
        · rw [if_pos h1] at hl'; exact absurd rfl hl'
        · rw [if_neg h1] at hl' ⊢
          intro h2
          have h4 := kid.2.2.2 e' he' hl' (σ g) g1 (h2.trans i3.symm)
          rw [h4] at h1
          exact h1 ((eqz g p9 p10).mp p11)
      · rw [hr2.2 hp]
        refine ⟨fun hne => ?_, fun hm1 => ?_⟩
        · rw [trs ?_]
          · exact o3 hne
          · -- what an old reference refers to is there still
            obtain ⟨mo2, g1, g2, g3⟩ := hold c hc
            have em : mo = mo2 := (nI_eq (by omega) (by omega)).mp (h9.symm.trans g2)
            subst em
            obtain ⟨c1, c2, c3, φ, c4, c5⟩ := g3 h3
            have lv : ∃ p, p < 24 ∧ r6 (M.1 17) r k = nI p ∧ M.1 14 p ≠ -1 := by
              rcases (c1.2.2 k hk).2 with hq | ⟨hq, -⟩
              · exact absurd hq.1 k0
              · rcases hq with hq | hq
                · rcases c3 r k hr h14 hk hq with w | ⟨p, w1, w2, w3, -⟩
                  · exact absurd w hne
                  · exact ⟨p, w1, w2, w3⟩
                · obtain ⟨d1, d2, -, d4⟩ := c4 k hk hq
                  have hx := d4 r hr h14
                  have hF : Fld (M.1 4) (M.1 6) (M.1 14) r c (φ k) 2 := ⟨hr, hc, h14, d1, d2⟩
                  rcases ref_live hM hF (by decide) with w | ⟨p, w1, w2, w3⟩
                  · exact absurd (hx.trans w) hne
                  · exact ⟨p, w1, hx.trans w2, w3⟩
            obtain ⟨p, w1, w2, w3⟩ := lv
            exact Or.inr ⟨p, w1, w2, fun hz => hp ⟨c, mo, p, hc, h14, hmo, h9, hk, k0, w2, w1, w1, w3, hz⟩⟩
        · obtain ⟨i, i1, i2, i3⟩ := o4 hm1
          refine ⟨i, i1, i2, fun e' he' hl' => ?_⟩
          rw [s13 e' he'] at hl' ⊢
          by_cases h1 : rows e' 0 = 0
          · rw [if_pos h1] at hl'; exact absurd rfl hl'
          · rw [if_neg h1] at hl' ⊢
            exact i3 e' he' hl'
theorem do_collect (n : Nat) (hn : 60 < n) : Do_collect n Rel := fun j C M hj hR => by
  obtain ⟨K, L, σ, τ, hM, hC⟩ := id hR
  obtain ⟨S, hS, rows, ln, e1, b1, b2, b3⟩ := q_reachAll (n := n) (by omega) hM hC
  obtain ⟨S2, hS2, row2, e2, c1, c2⟩ := p_mark1 (n := n) (M := mI M 0 0 0) (by omega) hM (row0 := fun r => if r < 24 then 0 else M.1 18 r) (fun r hr => if_pos hr)
  obtain ⟨S3, hS3, mk, e3, a1, a2, a3⟩ := p_spread (n := n) (M := mI M 0 0 0) hn hM (row0 := row2) c1 c2
  obtain ⟨w, hw, w1, row, w2, w3⟩ := p_remove (n := n) (M := mI M 0 0 0) (by omega) hM (mk := mk)
  have hc : m_X7_collect n C = some (nI (cn (fun e => !decide (C.1 13 e 0 = 0) && decide (rows e 0 = 0)) 24), rmE C rows ln 24) := by
    unfold m_X7_collect
    rw [hS, Option.bind_some, e1, q_remove (by omega)]
    rfl
  have hm : m_X8_collect n M = some (w.2, w.1) := by
    unfold m_X8_collect
    show (lpO (b_X8_collect_7 n) n (mI M 0 0 0, 0)).bind _ = _
    rw [p_mark0 (by omega), Option.bind_some]
    show (lpO (b_X8_collect_28 n) n (mR (mI M 0 0 0) 18 (fun r => if r < 24 then 0 else M.1 18 r), 0)).bind _ = _
    rw [hS2, Option.bind_some, e2, hS3, Option.bind_some, e3, hw]
    rfl
  obtain ⟨f1, f2⟩ := Rel_collect (M := mI M 0 0 0) (ln := ln) hM hC a1 a2 a3 b1 b2 b3 w3
  refine ⟨_, _, hc, hm, ?_, ?_⟩
  · show nI _ = w.2
    rw [w1]
    exact f1
  · show Rel (j + 1) (rmE C rows ln 24) w.1
    rw [w2]
    exact f2
