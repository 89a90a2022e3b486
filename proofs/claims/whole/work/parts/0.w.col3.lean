/-! ===== collect: what the class reaches ===== -/
def lnS (C : CSt) (rows : Nat → Nat → Int32) (ln : Nat → Option Nat) : CSt := ((sF C 16 rows).1, C.2.1, ln)
theorem sI_lnS (C : CSt) (rows rows' : Nat → Nat → Int32) (ln : Nat → Option Nat) (i k : Nat) (v : Int32) (h : ∀ j l, rows' j l = if j = i ∧ l = k then v else rows j l) : sI (lnS C rows ln) 16 i k v = lnS C rows' ln := by
  have e := sI_sF C 16 rows rows' i k v h
  have e2 : (sI (sF C 16 rows) 16 i k v).1 = (sF C 16 rows').1 := by rw [e]
  exact Prod.ext (show (sI (lnS C rows ln) 16 i k v).1 = (lnS C rows' ln).1 from e2) rfl
theorem sL_lnS (C : CSt) (rows : Nat → Nat → Int32) (ln : Nat → Option Nat) (k : Nat) (v : Option Nat) : sL (lnS C rows ln) k v = lnS C rows (va_up ln k v) := rfl
def rcI (M : MSt) (σ : Nat → Nat) (rows : Nat → Nat → Int32) (ln : Nat → Option Nat) (R : Nat) : Prop := cn (fun e => !decide (rows e 0 = 0)) 24 = R ∧ (∀ i, i < R → ∃ r, r < 24 ∧ M.1 14 r ≠ -1 ∧ ln i = some (σ r) ∧ rows (σ r) 0 ≠ 0) ∧ (∀ e, e < 24 → rows e 0 ≠ 0 → ∃ i, i < R ∧ ln i = some e) ∧ lsZ M (fun r => M.1 14 r ≠ -1 ∧ rows (σ r) 0 ≠ 0)
/-- further on: nothing reached is lost, the line's beginning stands -/
def rcL (rows rows' : Nat → Nat → Int32) (ln ln' : Nat → Option Nat) (R R' : Nat) : Prop := R ≤ R' ∧ (∀ e, rows e 0 ≠ 0 → rows' e 0 ≠ 0) ∧ ∀ i, i < R → ln' i = ln i
theorem rcL_refl {rows : Nat → Nat → Int32} {ln : Nat → Option Nat} {R : Nat} : rcL rows rows ln ln R R := ⟨Nat.le_refl _, fun _ h => h, fun _ _ => rfl⟩
theorem rcL_trans {rows rows' rows'' : Nat → Nat → Int32} {ln ln' ln'' : Nat → Option Nat} {R R' R'' : Nat} (h : rcL rows rows' ln ln' R R') (h' : rcL rows' rows'' ln' ln'' R' R'') : rcL rows rows'' ln ln'' R R'' := ⟨Nat.le_trans h.1 h'.1, fun e he => h'.2.1 e (h.2.1 e he), fun i hi => by rw [h'.2.2 i (by have := h.1; omega), h.2.2 i hi]⟩
theorem q_reach {n : Nat} {j K L : Nat} {σ τ : Nat → Nat} {C : CSt} {M : MSt} (hn : 24 < n) (hM : MI K M.1) (hC : CR j K L σ τ C.1 M.1) {rows : Nat → Nat → Int32} {ln : Nat → Option Nat} {R : Nat} (h : rcI M σ rows ln R) {w : Int32} (hw : w = -1 ∨ ∃ p, p < 24 ∧ w = nI p ∧ M.1 14 p ≠ -1) (hz : ∀ p, p < 24 → w = nI p → ∀ Z, rtZ M Z → clZ M Z → Z p) : Ok (m_X7_reach n (lnS C rows ln) (tr σ (C.1 13) w) (nI R)) (fun o => ∃ rows' ln' R', o = (nI R', lnS C rows' ln') ∧ rcI M σ rows' ln' R' ∧ rcL rows rows' ln ln' R R' ∧ ∀ p, p < 24 → w = nI p → rows' (σ p) 0 ≠ 0) := by
  obtain ⟨kcls, ksh, kold, krec, kid, kcnt, kval, kroot, koldv, kwrd, kstp, kflt⟩ := id hC
  obtain ⟨h1, h2, h3, h4⟩ := id h
  have hR : R ≤ 24 := by rw [← h1]; exact cn_le _ _
  unfold m_X7_reach
  rcases hw with hw | ⟨p, hp, hw, hl⟩
  · rw [hw, tr_m1, q_find0, Ok_bind, Ok_some]
    show Ok (some (nI R, lnS C rows ln)) _
    rw [Ok_some]
    exact ⟨rows, ln, R, rfl, h, rcL_refl, fun p hp e => absurd e (m1_ne_nI (by omega))⟩
  · obtain ⟨g1, g2, g3, g4, g5⟩ := krec.1 p hp hl
    rw [hw, tr_nI σ _ hp]
    have hf : m_X6_find n (lnS C rows ln) (C.1 13 (σ p) 0) = some (some (σ p)) := q_findS (S := lnS C rows ln) hn g1 g3 kid.2.2.2
    rw [hf, Ok_bind, Ok_some]
    show Ok (bif decide (σ p < 24) then (if ¬ rows (σ p) 0 = 0 then some (nI R, lnS C rows ln) else (if nI R < 24 then (nm (sI (lnS C rows ln) 16 (σ p) 0 1) (fun S20 => bif inB (nI R) 24 then (nm (sL S20 (nI R).toNatClampNeg (some (σ p))) (fun S22 => some (nI R + 1, S22))) else none)) else some (nI R, lnS C rows ln))) else none) _
    rw [decide_eq_true g1, cond_true, Ok_ite]
    refine ⟨fun h5 => ?_, fun h5 => ?_⟩
    · rw [Ok_some]
      refine ⟨rows, ln, R, rfl, h, rcL_refl, fun p' hp' e => ?_⟩
      have : p = p' := (nI_eq (by omega) (by omega)).mp e
      rw [← this]
      exact h5
    · have h5 := Decidable.not_not.mp h5
      have hR2 : R < 24 := by
        rcases Nat.lt_or_ge R 24 with h6 | h6
        · exact h6
        · exfalso
          have := cn_strict (p := fun _ => true) (q := fun e => !decide (rows e 0 = 0)) (fun _ _ => rfl) (i := σ p) rfl (by simp [h5]) (m := 24) g1
          have h7 : cn (fun _ => true) 24 = 24 := by decide
          omega
      have hup := sI_lnS C rows (fun j l => if j = σ p ∧ l = 0 then 1 else rows j l) ln (σ p) 0 1 (fun j l => rfl)
      rw [Ok_ite]
      refine ⟨fun _ => ?_, fun h6 => absurd (nI_lt hR2 (by decide)) h6⟩
      rw [Ok_nm, Ok_bif, Ok_nm, Ok_some, nI_clamp (by omega), nI_1, hup, sL_lnS]
      refine ⟨inB_nI hR2 (by omega), fun j l => if j = σ p ∧ l = 0 then 1 else rows j l, va_up ln R (some (σ p)), R + 1, rfl, ⟨?_, fun i hi => ?_, fun e he hx => ?_, fun Z z1 z2 r hr hx => ?_⟩, ⟨by omega, fun e he => ?_, fun i hi => ?_⟩, fun p' hp' e => ?_⟩
      · rw [← h1]
        refine cn_up (i := σ p) (by simp [h5]) (by simp) (fun k hk => by simp [hk]) g1
      · rcases Nat.lt_succ_iff_lt_or_eq.mp hi with h6 | h6
        · obtain ⟨r, r1, r2, r3, r4⟩ := h2 i h6
          refine ⟨r, r1, r2, ?_, ?_⟩
          · rw [va_up_ne _ _ (by omega)]; exact r3
          · show (if σ r = σ p ∧ 0 = 0 then (1 : Int32) else rows (σ r) 0) ≠ 0
            by_cases e : σ r = σ p
            · rw [if_pos ⟨e, rfl⟩]; exact one_ne
            · rw [if_neg (fun h => e h.1)]; exact r4
        · refine ⟨p, hp, hl, ?_, ?_⟩
          · rw [h6, va_up_self]
          · show (if σ p = σ p ∧ 0 = 0 then (1 : Int32) else rows (σ p) 0) ≠ 0
            rw [if_pos ⟨rfl, rfl⟩]; exact one_ne
      · have hx' : (if e = σ p ∧ 0 = 0 then (1 : Int32) else rows e 0) ≠ 0 := hx
        by_cases e2 : e = σ p
        · exact ⟨R, by omega, by rw [va_up_self, e2]⟩
        · rw [if_neg (fun h => e2 h.1)] at hx'
          obtain ⟨i, i1, i2⟩ := h3 e he hx'
          exact ⟨i, by omega, by rw [va_up_ne _ _ (by omega)]; exact i2⟩
      · have hx2 : (if σ r = σ p ∧ 0 = 0 then (1 : Int32) else rows (σ r) 0) ≠ 0 := hx.2
        by_cases e2 : σ r = σ p
        · have e3 := (krec.1 r hr hx.1).2.1
          have e4 : r = p := by rw [← e3, e2, g2]
          rw [e4]
          exact hz p hp hw Z z1 z2
        · rw [if_neg (fun h => e2 h.1)] at hx2
          exact h4 Z z1 z2 r hr ⟨hx.1, hx2⟩
      · show (if e = σ p ∧ 0 = 0 then (1 : Int32) else rows e 0) ≠ 0
        by_cases e2 : e = σ p
        · rw [if_pos ⟨e2, rfl⟩]; exact one_ne
        · rw [if_neg (fun h => e2 h.1)]; exact he
      · rw [va_up_ne _ _ (by omega)]
      · have e2 : p = p' := (nI_eq (by omega) (by omega)).mp e
        show (if σ p' = σ p ∧ 0 = 0 then (1 : Int32) else rows (σ p') 0) ≠ 0
        rw [if_pos ⟨by rw [e2], rfl⟩]; exact one_ne
theorem q_reachFrom {n : Nat} {j K L : Nat} {σ τ : Nat → Nat} {C : CSt} {M : MSt} (hn : 24 < n) (hM : MI K M.1) (hC : CR j K L σ τ C.1 M.1) {rows : Nat → Nat → Int32} {ln : Nat → Option Nat} {R : Nat} (h : rcI M σ rows ln R) {r : Nat} (hr : r < 24) (hl : M.1 14 r ≠ -1) (hx : rows (σ r) 0 ≠ 0) : Ok (m_X7_reachFrom n (lnS C rows ln) (σ r) (nI R)) (fun o => ∃ rows' ln' R', o = (nI R', lnS C rows' ln') ∧ rcI M σ rows' ln' R' ∧ rcL rows rows' ln ln' R R' ∧ ∀ c k q p, Fld (M.1 4) (M.1 6) (M.1 14) r c k q → q ≠ 0 → p < 24 → r6 (M.1 16) r k = nI p → rows' (σ p) 0 ≠ 0) := by
  obtain ⟨kcls, ksh, kold, krec, kid, kcnt, kval, kroot, koldv, kwrd, kstp, kflt⟩ := id hC
  have hK4 := hM.1.1
  rcases hM.2.2.1 r hr with h14 | ⟨c, hc, h14, -⟩
  · exact absurd h14 hl
  have hc4 : c < 4 := by omega
  obtain ⟨m, hm, hSh⟩ := hM.2.1 c hc4
  have hm6 := hSh.1
  obtain ⟨p5, p6⟩ := ksh c m hc4 hm6 hm
  have s14 : C.1 14 (σ r) 0 = nI c := ((krec.1 r hr hl).2.2.2.1).trans h14
  have loop : Ok (lpO (b_X7_reachFrom_25 n (σ r) (2 * c)) n (lnS C rows ln, nI R, 0)) (fun o => ∃ rows' ln' R', o = (lnS C rows' ln', nI R') ∧ rcI M σ rows' ln' R' ∧ rcL rows rows' ln ln' R R' ∧ ∀ c k q p, Fld (M.1 4) (M.1 6) (M.1 14) r c k q → q ≠ 0 → p < 24 → r6 (M.1 16) r k = nI p → rows' (σ p) 0 ≠ 0) := by
    refine ok_for3 (N := m) (by omega) (I := fun k S a => ∃ rows' ln' R', S = lnS C rows' ln' ∧ a = nI R' ∧ rcI M σ rows' ln' R' ∧ rcL rows rows' ln ln' R R' ∧ ∀ c' k' q p, Fld (M.1 4) (M.1 6) (M.1 14) r c' k' q → q ≠ 0 → p < 24 → r6 (M.1 16) r k' = nI p → k' < k → rows' (σ p) 0 ≠ 0) (fun k S a hk hS => ?_) ⟨rows, ln, R, rfl, rfl, h, rcL_refl, fun c' k' q p _ _ _ _ hk => absurd hk (Nat.not_lt_zero _)⟩
    obtain ⟨rows', ln', R', e1, e2, e3, e4, e5⟩ := hS
    subst e1 e2
    unfold b_X7_reachFrom_25
    dsimp only
    rw [show (lnS C rows' ln').1 5 (2 * c) 0 = nI m from p5, Ok_ite]
    have hfc : ∀ {c' k' q}, Fld (M.1 4) (M.1 6) (M.1 14) r c' k' q → c' = c ∧ k' < m := fun {c' k' q} hF => by
      obtain ⟨-, g1, g2, ⟨m', g3, g4, g5⟩, -⟩ := hF
      have ec : c' = c := nI_inj4 g1 hc4 (g2.symm.trans h14)
      rw [ec] at g4
      have em : m' = m := (nI_eq (by omega) (by omega)).mp (g4.symm.trans hm)
      exact ⟨ec, by omega⟩
    refine ⟨fun h => ?_, fun h => ?_⟩
    · have e : k = m := ge_eq (by omega) hk h
      rw [Ok_some]
      refine ⟨rows', ln', R', rfl, e3, e4, fun c' k' q p hF hq hp ep => e5 c' k' q p hF hq hp ep ?_⟩
      rw [e]
      exact (hfc hF).2
    · have hk2 : k < m := nge_lt (by omega) hk h
      rw [q_isRef (S := lnS C rows' ln') hm6 p5 hk2, Ok_bind, Ok_some, show (lnS C rows' ln').1 7 (2 * c) k = r6 (M.1 6) c k from (p6 k hk2).2.1, Ok_ite]
      refine ⟨fun h2 => ?_, fun h2 => ?_⟩
      · have h3 : r6 (M.1 6) c k = 0 := Decidable.byContradiction (fun h3 => by rw [if_neg h3] at h2; exact one_ne h2)
        rw [Ok_nm, Ok_some]
        refine ⟨hk2, nI_1 k, rows', ln', R', rfl, rfl, e3, e4, fun c' k' q p hF hq hp ep hlt => ?_⟩
        rcases Nat.lt_succ_iff_lt_or_eq.mp hlt with h6 | h6
        · exact e5 c' k' q p hF hq hp ep h6
        · have ec := (hfc hF).1
          have h7 := hF.2.2.2.2
          rw [ec, h6, h3] at h7
          exact absurd h7.symm hq
      · have h3 : ¬ r6 (M.1 6) c k = 0 := fun h3 => h2 (if_pos h3)
        have hF : Fld (M.1 4) (M.1 6) (M.1 14) r c k (r6 (M.1 6) c k) := ⟨hr, hc4, h14, ⟨m, hm6, hm, hk2⟩, rfl⟩
        have hv := kval r c k _ hF
        rw [if_neg h3] at hv
        rw [Ok_bif, nI_clamp (by omega), show (lnS C rows' ln').1 17 (σ r) k = tr σ (C.1 13) (r6 (M.1 16) r k) from hv]
        refine ⟨inB_nI (by omega) (by omega), ok_seq (q_reach hn hM hC e3 (ref_live hM hF h3) (fun p hp ep Z z1 z2 => ?_)) (fun o ho => ?_)⟩
        · exact z2 r c k _ p hF h3 hp ep (e3.2.2.2 Z z1 z2 r hr ⟨hl, e4.2.1 _ hx⟩)
        · obtain ⟨rows2, ln2, R2, o1, o2, o3, o4⟩ := ho
          subst o1
          rw [Ok_nm, Ok_some]
          refine ⟨hk2, nI_1 k, rows2, ln2, R2, rfl, rfl, o2, rcL_trans e4 o3, fun c' k' q p hF' hq hp ep hlt => ?_⟩
          rcases Nat.lt_succ_iff_lt_or_eq.mp hlt with h6 | h6
          · exact o3.2.1 _ (e5 c' k' q p hF' hq hp ep h6)
          · rw [h6] at ep
            exact o4 p hp ep
  unfold m_X7_reachFrom
  rw [show (lnS C rows ln).1 14 (σ r) 0 = nI c from s14, inB_nI hc4 (by omega), nI_clamp (by omega)]
  refine ok_seq loop (fun o ho => ?_)
  obtain ⟨rows', ln', R', o1, o2⟩ := ho
  subst o1
  rw [Ok_some]
  exact ⟨rows', ln', R', rfl, o2⟩
theorem q_reachAll {n : Nat} {j K L : Nat} {σ τ : Nat → Nat} {C : CSt} {M : MSt} (hn : 24 < n) (hM : MI K M.1) (hC : CR j K L σ τ C.1 M.1) : Ok (m_X7_reachAll n C) (fun S => ∃ rows ln, S = lnS C rows ln ∧ rtZ M (fun p => rows (σ p) 0 ≠ 0) ∧ lsZ M (fun r => M.1 14 r ≠ -1 ∧ rows (σ r) 0 ≠ 0) ∧ clZ M (fun p => M.1 14 p ≠ -1 ∧ rows (σ p) 0 ≠ 0)) := by
  have a0 : lpO (b_X7_reachAll_2 n) n (C, 0) = some (sF C 16 (fun e l => if e < 24 ∧ l = 0 then 0 else C.1 16 e l)) := by
    refine ok_get (ok_for2 (N := 24) hn (I := fun k S => S = sF C 16 (fun e l => if e < k ∧ l = 0 then 0 else C.1 16 e l)) (fun k S hk hS => ?_) (sF_self C 16 (funext fun e => funext fun l => if_neg (fun h => absurd h.1 (Nat.not_lt_zero _)))))
    unfold b_X7_reachAll_2
    dsimp only
    rw [Ok_ite]
    refine ⟨fun h => ?_, fun h => ?_⟩
    · have e : k = 24 := ge_eq (by decide) hk h
      rw [Ok_some]
      rw [e] at hS
      exact hS
    · have hk2 : k < 24 := nge_lt (by decide) hk h
      rw [Ok_bif, Ok_nm, Ok_nm, Ok_some, nI_clamp (by omega)]
      refine ⟨inB_nI hk2 (by omega), hk2, nI_1 k, ?_⟩
      show sI S 16 k 0 0 = _
      rw [hS]
      refine sI_sF _ _ _ _ _ _ _ (fun e l => ?_)
      by_cases h2 : e = k ∧ l = 0
      · rw [if_pos h2, if_pos ⟨by omega, h2.2⟩]
      · rw [if_neg h2]
        have : (e < k + 1 ∧ l = 0) ↔ (e < k ∧ l = 0) := by omega
        simp only [this]
  have hC0 : (sF C 16 (fun e l => if e < 24 ∧ l = 0 then 0 else C.1 16 e l)) = lnS C (fun e l => if e < 24 ∧ l = 0 then 0 else C.1 16 e l) C.2.2 := rfl
  have r0 : rcI M σ (fun e l => if e < 24 ∧ l = 0 then 0 else C.1 16 e l) C.2.2 0 := by
    have hz : ∀ e, e < 24 → (if e < 24 ∧ 0 = 0 then (0 : Int32) else C.1 16 e 0) = 0 := fun e he => if_pos ⟨he, rfl⟩
    refine ⟨?_, fun i hi => absurd hi (Nat.not_lt_zero _), fun e he hx => absurd (hz e he) hx, fun Z _ _ r hr hx => ?_⟩
    · have e1 : cn (fun e => !decide ((if e < 24 ∧ 0 = 0 then (0 : Int32) else C.1 16 e 0) = 0)) 24 = cn (fun _ => false) 24 := cn_cong (fun k hk => by rw [hz k hk]; rfl)
      rw [e1]
      decide
    · exact absurd (hz (σ r) (hC.2.2.2.1.1 r hr hx.1).1) hx.2
  have a1 : Ok (lpO (b_X7_reachAll_31 n) n (lnS C (fun e l => if e < 24 ∧ l = 0 then 0 else C.1 16 e l) C.2.2, 0, 0)) (fun o => ∃ rows ln R, o = (lnS C rows ln, nI R) ∧ rcI M σ rows ln R ∧ rtZ M (fun p => rows (σ p) 0 ≠ 0)) := by
    refine ok_for3 (N := 8) (by omega) (I := fun k S a => ∃ rows ln R, S = lnS C rows ln ∧ a = nI R ∧ rcI M σ rows ln R ∧ ∀ i p, i < k → p < 24 → M.1 19 i = nI p → rows (σ p) 0 ≠ 0) (fun k S a hk hS => ?_) ⟨_, _, 0, rfl, rfl, r0, fun i p hi => absurd hi (Nat.not_lt_zero _)⟩
    obtain ⟨rows, ln, R, e1, e2, e3, e4⟩ := hS
    subst e1 e2
    unfold b_X7_reachAll_31
    dsimp only
    rw [Ok_ite]
    refine ⟨fun h => ?_, fun h => ?_⟩
    · have e : k = 8 := ge_eq (by decide) hk h
      rw [Ok_some]
      rw [e] at e4
      exact ⟨rows, ln, R, rfl, e3, e4⟩
    · have hk2 : k < 8 := nge_lt (by decide) hk h
      rw [Ok_bif, nI_clamp (by omega), show (lnS C rows ln).1 19 0 k = tr σ (C.1 13) (M.1 19 k) from hC.2.2.2.2.2.2.2.1 k hk2]
      refine ⟨inB_nI hk2 (by omega), ok_seq (q_reach hn hM hC e3 (hM.2.2.2.2.1 k hk2) (fun p hp ep Z z1 z2 => z1 k p hk2 hp ep)) (fun o ho => ?_)⟩
      obtain ⟨rows2, ln2, R2, o1, o2, o3, o4⟩ := ho
      subst o1
      rw [Ok_nm, Ok_some]
      refine ⟨hk2, nI_1 k, rows2, ln2, R2, rfl, rfl, o2, fun i p hi hp ep => ?_⟩
      rcases Nat.lt_succ_iff_lt_or_eq.mp hi with h6 | h6
      · exact o3.2.1 _ (e4 i p h6 hp ep)
      · rw [h6] at ep
        exact o4 p hp ep
  have a2 : ∀ rows ln R, rcI M σ rows ln R → rtZ M (fun p => rows (σ p) 0 ≠ 0) → Ok (lpO (b_X7_reachAll_57 n) n (lnS C rows ln, nI R, 0)) (fun S => ∃ rows ln, S = lnS C rows ln ∧ rtZ M (fun p => rows (σ p) 0 ≠ 0) ∧ lsZ M (fun r => M.1 14 r ≠ -1 ∧ rows (σ r) 0 ≠ 0) ∧ clZ M (fun p => M.1 14 p ≠ -1 ∧ rows (σ p) 0 ≠ 0)) := by
    intro rows ln R hI hrt
    refine ok_for3 (N := 24) hn (I := fun k S a => ∃ rows' ln' R', S = lnS C rows' ln' ∧ a = nI R' ∧ rcI M σ rows' ln' R' ∧ rtZ M (fun p => rows' (σ p) 0 ≠ 0) ∧ ∀ i r, i < k → i < R' → r < 24 → M.1 14 r ≠ -1 → ln' i = some (σ r) → ∀ c k q p, Fld (M.1 4) (M.1 6) (M.1 14) r c k q → q ≠ 0 → p < 24 → r6 (M.1 16) r k = nI p → rows' (σ p) 0 ≠ 0) (fun k S a hk hS => ?_) ⟨rows, ln, R, rfl, rfl, hI, hrt, fun i r hi => absurd hi (Nat.not_lt_zero _)⟩
    obtain ⟨rows', ln', R', e1, e2, e3, e4, e5⟩ := hS
    subst e1 e2
    have hR24 : R' ≤ 24 := by rw [← e3.1]; exact cn_le _ _
    -- the end: every record of the line is seen
    have fin : R' ≤ k → ∃ rows ln, lnS C rows' ln' = lnS C rows ln ∧ rtZ M (fun p => rows (σ p) 0 ≠ 0) ∧ lsZ M (fun r => M.1 14 r ≠ -1 ∧ rows (σ r) 0 ≠ 0) ∧ clZ M (fun p => M.1 14 p ≠ -1 ∧ rows (σ p) 0 ≠ 0) := fun hle => by
      refine ⟨rows', ln', rfl, e4, e3.2.2.2, fun r c k' q p hF hq hp ep hx => ?_⟩
      obtain ⟨i, i1, i2⟩ := e3.2.2.1 (σ r) (hC.2.2.2.1.1 r hF.1 hx.1).1 hx.2
      refine ⟨?_, e5 i r (by omega) i1 hF.1 hx.1 i2 c k' q p hF hq hp ep⟩
      rcases ref_live hM hF hq with g | ⟨p', g1, g2, g3⟩
      · rw [g] at ep; exact absurd ep (m1_ne_nI (by omega))
      · rw [(nI_eq (by omega) (by omega)).mp (ep.symm.trans g2)]
        exact g3
    unfold b_X7_reachAll_57
    dsimp only
    rw [Ok_ite]
    refine ⟨fun h => ?_, fun h => ?_⟩
    · rw [Ok_some]
      exact fin ((nI_leI (by omega) (by omega)).mp h)
    · have hkR : k < R' := Nat.not_le.mp (fun q => h (nI_le q (by omega)))
      rw [Ok_ite]
      refine ⟨fun h2 => ?_, fun h2 => ?_⟩
      · have e : k = 24 := ge_eq (by decide) hk h2
        omega
      · have hk2 : k < 24 := nge_lt (by decide) hk h2
        obtain ⟨r, r1, r2, r3, r4⟩ := e3.2.1 k hkR
        have g1 := (hC.2.2.2.1.1 r r1 r2).1
        rw [Ok_bif, nI_clamp (by omega), show (lnS C rows' ln').2.2 k = some (σ r) from r3]
        refine ⟨inB_nI hk2 (by omega), ?_⟩
        show Ok (bif decide (σ r < 24) then ((m_X7_reachFrom n (lnS C rows' ln') (σ r) (nI R')).bind _) else none) _
        rw [decide_eq_true g1]
        refine ok_seq (q_reachFrom hn hM hC e3 r1 r2 r4) (fun o ho => ?_)
        obtain ⟨rows2, ln2, R2, o1, o2, o3, o4⟩ := ho
        subst o1
        rw [Ok_nm, Ok_some]
        refine ⟨hk2, nI_1 k, rows2, ln2, R2, rfl, rfl, o2, fun i p hi hp ep => o3.2.1 _ (e4 i p hi hp ep), fun i r' hi hiR hr' hl' hln c k' q p hF hq hp ep => ?_⟩
        rcases Nat.lt_succ_iff_lt_or_eq.mp hi with h6 | h6
        · refine o3.2.1 _ (e5 i r' h6 (by omega) hr' hl' ?_ c k' q p hF hq hp ep)
          rw [← o3.2.2 i (by omega)]
          exact hln
        · rw [h6, o3.2.2 k hkR, r3] at hln
          have e6 : σ r = σ r' := Option.some.inj hln
          have e7 : r = r' := by rw [← (hC.2.2.2.1.1 r r1 r2).2.1, e6, (hC.2.2.2.1.1 r' hr' hl').2.1]
          subst e7
          exact o4 c k' q p hF hq hp ep
  unfold m_X7_reachAll
  rw [a0, Ok_bind, Ok_some, hC0]
  refine ok_seq a1 (fun o ho => ?_)
  obtain ⟨rows, ln, R, o1, o2, o3⟩ := ho
  subst o1
  refine ok_seq (a2 rows ln R o2 o3) (fun S hS => ?_)
  rw [Ok_some]
  exact hS
