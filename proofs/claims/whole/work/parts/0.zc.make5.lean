/-! ===== new records of the reference's ===== -/
theorem p_free {n : Nat} {M : MSt} (hn : 24 < n) (hM : ∀ r, r < 24 → M.1 14 r = -1 ∨ ∃ c, c < 4 ∧ M.1 14 r = nI c) (hd : cn (fun r => !decide (M.1 14 r = -1)) 24 < 24) : ∃ s, s < 24 ∧ M.1 14 s = -1 ∧ m_X8_free n M = some (nI s) := by
  have h : Ok (lpO (b_X8_free_5 n M) n ((-1 : Int32), (if 0 < 24 then nI (23 - 0) else -1))) (fun a => (∃ s, s < 24 ∧ M.1 14 s = -1 ∧ a = nI s) ∨ ∀ r, r < 24 → M.1 14 r ≠ -1) := by
    refine ok_forD (fun t (a : Int32) => (a, if t < 24 then nI (23 - t) else -1)) (N := 24) (I := fun t a => (∃ s, s < 24 ∧ M.1 14 s = -1 ∧ a = nI s) ∨ ∀ r, 24 - t ≤ r → r < 24 → M.1 14 r ≠ -1) (fun t a ht hI => ?_) 24 0 (-1) n (by omega) (by omega) (Or.inr (fun r h1 h2 => by omega)) hn
    unfold b_X8_free_5
    dsimp only
    rw [Ok_ite]
    refine ⟨fun h => ?_, fun h => ?_⟩
    · rw [Ok_some]
      have ht2 : t = 24 := by
        rcases Nat.lt_or_ge t 24 with h1 | h1
        · rw [if_pos h1] at h
          exact absurd h (nI_pos (by omega))
        · omega
      rcases hI with hI | hI
      · exact Or.inl hI
      · exact Or.inr (fun r hr => hI r (by omega) hr)
    · have ht2 : t < 24 := by
        rcases Nat.lt_or_ge t 24 with h1 | h1
        · exact h1
        · rw [if_neg (by omega)] at h
          exact absurd m1_lt h
      rw [if_pos ht2, Ok_bif, nI_clamp (by omega), Ok_ite]
      have hstep : nI (23 - t) + (-1) = if t + 1 < 24 then nI (23 - (t + 1)) else -1 := by
        by_cases h1 : t + 1 < 24
        · rw [if_pos h1]
          exact (congrArg (fun x => nI x + (-1)) (show 23 - t = (23 - (t + 1)) + 1 by omega)).trans (pk_m1 _)
        · rw [if_neg h1, show 23 - t = 0 by omega]
          decide
      refine ⟨inB_nI (by omega) (by omega), fun h2 => ?_, fun h2 => ?_⟩
      · rw [Ok_nm, Ok_some]
        refine ⟨ht2, a, congrArg (Prod.mk a) hstep, ?_⟩
        rcases hI with hI | hI
        · exact Or.inl hI
        · refine Or.inr (fun r h3 h4 => ?_)
          by_cases e : r = 23 - t
          · rw [e]
            intro h5
            rw [h5] at h2
            exact absurd h2 (by decide)
          · exact hI r (by omega) h4
      · rw [Ok_nm, Ok_some]
        refine ⟨ht2, nI (23 - t), congrArg (Prod.mk (nI (23 - t))) hstep, Or.inl ⟨23 - t, by omega, ?_, rfl⟩⟩
        rcases hM (23 - t) (by omega) with h3 | ⟨c, hc, h3⟩
        · exact h3
        · rw [h3] at h2
          exact absurd (nI_pos' (by omega)) h2
  obtain ⟨a, ha, hq⟩ := h
  have hm : m_X8_free n M = some a := by
    unfold m_X8_free
    rw [show ((-1 : Int32), (23 : Int32)) = ((-1 : Int32), (if 0 < 24 then nI (23 - 0) else -1)) from rfl, ha]
    rfl
  rcases hq with ⟨s, s1, s2, s3⟩ | hq
  · exact ⟨s, s1, s2, by rw [hm, s3]⟩
  · obtain ⟨k, k1, k2⟩ := cn_lt hd
    simp only [Bool.not_eq_false', decide_eq_true_eq] at k2
    exact absurd k2 (hq k k1)
def nr (lo hi : Int32) : Int32 := if lo ≤ 0 then (if 0 ≤ hi then 0 else hi) else lo
def dflM (M : MSt) (c q k : Nat) : Int32 := if k < q ∧ r6 (M.1 6) c k = 0 then nr (r6 (M.1 7) c k) (r6 (M.1 8) c k) else -1
def baM (M : MSt) (c q s : Nat) : MSt := mR (mI (mI (mI M 14 s (nI c)) 15 s (M.1 2 c)) 3 c 0) 16 (fun l => if 6 * s ≤ l ∧ l < 6 * s + 6 then dflM M c q (l - 6 * s) else M.1 16 l)
theorem p_bare {n : Nat} {M : MSt} {c q s : Nat} (hn : 24 < n) (hc : c < 4) (hq : M.1 4 c = nI q) (hq6 : q ≤ 6) (hs : s < 24) (hfree : m_X8_free n M = some (nI s)) : m_X8_bare n M (nI c) = some (nI s, baM M c q s) := by
  have loop : lpO (b_X8_bare_33 n (nI c) (nI s)) n (mI (mI (mI M 14 s (nI c)) 15 s (M.1 2 c)) 3 c 0, 0) = some (baM M c q s) := by
    refine ok_get (ok_for2 (N := 6) (by omega) (I := fun k S => S = mR (mI (mI (mI M 14 s (nI c)) 15 s (M.1 2 c)) 3 c 0) 16 (fun l => if 6 * s ≤ l ∧ l < 6 * s + k then dflM M c q (l - 6 * s) else M.1 16 l)) (fun k S hk hS => ?_) (mR_self _ 16 (funext fun l => if_neg (fun h => by omega))))
    have s4 : S.1 4 = M.1 4 := by rw [hS]; rfl
    have s6 : S.1 6 = M.1 6 := by rw [hS]; rfl
    have s7 : S.1 7 = M.1 7 := by rw [hS]; rfl
    have s8 : S.1 8 = M.1 8 := by rw [hS]; rfl
    unfold b_X8_bare_33
    dsimp only
    rw [s4, s6, s7, s8, ix6, Ok_ite]
    refine ⟨fun h => ?_, fun h => ?_⟩
    · have e : k = 6 := ge_eq (by decide) hk h
      rw [Ok_some]
      subst e
      exact hS
    · have hk2 : k < 6 := nge_lt (by decide) hk h
      have fin : ∀ y : Int32, y = dflM M c q k → Ok (m_X8_bare_J136 n S (nI c) (nI s) (nI k) (nI (6 * s + k)) y) (sumE (fun y => k < 6 ∧ y.2 = nI (k + 1) ∧ y.1 = mR (mI (mI (mI M 14 s (nI c)) 15 s (M.1 2 c)) 3 c 0) 16 (fun l => if 6 * s ≤ l ∧ l < 6 * s + (k + 1) then dflM M c q (l - 6 * s) else M.1 16 l)) (fun b => b = baM M c q s)) := fun y hy => by
        unfold m_X8_bare_J136
        rw [Ok_bif, Ok_nm, Ok_nm, Ok_some, nI_clamp (by omega)]
        refine ⟨inB_nI (by omega) (by omega), hk2, nI_1 k, ?_⟩
        show mI S 16 (6 * s + k) y = _
        rw [hS]
        refine mI_mR _ _ _ _ _ _ (fun l => ?_)
        by_cases e : l = 6 * s + k
        · rw [if_pos e, if_pos ⟨by omega, by omega⟩, hy, show l - 6 * s = k by omega]
        · rw [if_neg e]
          have : (6 * s ≤ l ∧ l < 6 * s + (k + 1)) ↔ (6 * s ≤ l ∧ l < 6 * s + k) := by omega
          simp only [this]
      have no : ¬ (k < q ∧ r6 (M.1 6) c k = 0) → Ok (m_X8_bare_J93 n S (nI c) (nI s) (nI k) (M.1 7 (6 * c + k)) (M.1 8 (6 * c + k))) (sumE (fun y => k < 6 ∧ y.2 = nI (k + 1) ∧ y.1 = mR (mI (mI (mI M 14 s (nI c)) 15 s (M.1 2 c)) 3 c 0) 16 (fun l => if 6 * s ≤ l ∧ l < 6 * s + (k + 1) then dflM M c q (l - 6 * s) else M.1 16 l)) (fun b => b = baM M c q s)) := fun hno => by
        unfold m_X8_bare_J93 m_X8_bare_J94
        rw [if_neg (fun h => h rfl), ix6]
        exact fin _ (if_neg hno).symm
      rw [Ok_bif, Ok_nm, Ok_bif, Ok_nm, Ok_bif, nI_clamp (by omega : 6 * c + k < 2 ^ 31), nI_clamp (by omega : c < 2 ^ 31), hq, Ok_ite]
      refine ⟨inB_nI (by omega) (by omega), inB_nI (by omega) (by omega), inB_nI hc (by omega), fun h1 => ?_, fun h1 => ?_⟩
      · refine no (fun h2 => ?_)
        have := (nI_leI (by omega) (by omega)).mp h1
        omega
      · have hkq : k < q := Nat.not_le.mp (fun h2 => h1 (nI_le h2 (by omega)))
        rw [Ok_bif, Ok_ite]
        refine ⟨inB_nI (by omega) (by omega), fun h2 => no (fun h3 => h2 h3.2), fun h2 => ?_⟩
        have h2 : r6 (M.1 6) c k = 0 := Decidable.not_not.mp h2
        have hdf : dflM M c q k = nr (M.1 7 (6 * c + k)) (M.1 8 (6 * c + k)) := if_pos ⟨hkq, h2⟩
        unfold m_X8_bare_J94
        rw [if_pos one_ne, ix6, Ok_ite]
        refine ⟨fun h3 => ?_, fun h3 => ?_⟩
        · rw [Ok_ite]
          refine ⟨fun h4 => fin _ ?_, fun h4 => fin _ ?_⟩
          · rw [hdf]; unfold nr; rw [if_pos h3, if_pos h4]
          · rw [hdf]; unfold nr; rw [if_pos h3, if_neg h4]
        · refine fin _ ?_
          rw [hdf]; unfold nr; rw [if_neg h3]
  unfold m_X8_bare
  rw [hfree, Option.bind_some, inB_nI hs (by omega), nI_clamp (by omega), inB_nI hc (by omega), nI_clamp (by omega)]
  show (lpO (b_X8_bare_33 n (nI c) (nI s)) n (mI (mI (mI M 14 s (nI c)) 15 s (M.1 2 c)) 3 c 0, 0)).bind _ = _
  rw [loop]
  rfl
def frM (g : Nat) : Prop := g ≠ 3 ∧ g ≠ 14 ∧ g ≠ 15 ∧ g ≠ 16 ∧ g ≠ 43
/-- from M to S the first N records of a family of class c have come, in the slots ln; the fields below (i0, k0) are filled -/
def maI (K : Nat) (M : MSt) (c i0 k0 N : Nat) (S : MSt) (ln cl : Nat → Nat) (ch : Nat → Nat → Nat) : Prop :=
  PT (fun i k => ownM M (cl i) k ∧ (i < i0 ∨ i = i0 ∧ k < k0)) (loM M) c N cl ch ∧
  (∀ j, j < N → ln j < 24 ∧ cl j < K ∧ M.1 14 (ln j) = -1 ∧ S.1 43 j = nI (ln j) ∧ S.1 14 (ln j) = nI (cl j) ∧ S.1 15 (ln j) = M.1 2 (cl j) ∧ S.1 3 (cl j) = 0) ∧
  (∀ i, i < N → ∀ j, j < N → ln i = ln j → i = j) ∧
  (∀ r, (∀ j, j < N → r ≠ ln j) → S.1 14 r = M.1 14 r ∧ S.1 15 r = M.1 15 r ∧ ∀ k, k < 6 → r6 (S.1 16) r k = r6 (M.1 16) r k) ∧
  (∀ j q k, j < N → q ≤ 6 → M.1 4 (cl j) = nI q → k < 6 → (ownM M (cl j) k ∧ (j < i0 ∨ j = i0 ∧ k < k0) → r6 (S.1 16) (ln j) k = nI (ln (ch j k))) ∧ (¬ (ownM M (cl j) k ∧ (j < i0 ∨ j = i0 ∧ k < k0)) → r6 (S.1 16) (ln j) k = dflM M (cl j) q k)) ∧
  (∀ g, frM g → S.1 g = M.1 g) ∧ (∀ d, S.1 3 d = M.1 3 d ∨ (S.1 3 d = 0 ∧ ∃ j, j < N ∧ cl j = d)) ∧
  cn (fun r => !decide (S.1 14 r = -1)) 24 = cn (fun r => !decide (M.1 14 r = -1)) 24 + N
theorem ma_done {K : Nat} {M : MSt} {c i0 k0 i1 k1 N : Nat} {S : MSt} {ln cl : Nat → Nat} {ch : Nat → Nat → Nat} (h : maI K M c i0 k0 N S ln cl ch) (hp : ∀ i k, i < N → ownM M (cl i) k → ((i < i0 ∨ i = i0 ∧ k < k0) ↔ (i < i1 ∨ i = i1 ∧ k < k1))) : maI K M c i1 k1 N S ln cl ch := by
  obtain ⟨a1, a2, a3, a4, a5, a6⟩ := h
  refine ⟨PT_iff a1 (fun i k hi => ⟨fun hq => ⟨hq.1, (hp i k hi hq.1).mp hq.2⟩, fun hq => ⟨hq.1, (hp i k hi hq.1).mpr hq.2⟩⟩), a2, a3, a4, fun j q k hj hq hm hk => ⟨fun hx => (a5 j q k hj hq hm hk).1 ⟨hx.1, (hp j k hj hx.1).mpr hx.2⟩, fun hx => (a5 j q k hj hq hm hk).2 (fun hy => hx ⟨hy.1, (hp j k hj hy.1).mp hy.2⟩)⟩, a6⟩
theorem ma_own {K : Nat} {M : MSt} {c d i0 k0 N q s : Nat} {S : MSt} {ln cl : Nat → Nat} {ch : Nat → Nat → Nat} (h : maI K M c i0 k0 N S ln cl ch) (hi0 : i0 < N) (ho : ownM M (cl i0) k0) (hd : loM M (cl i0) k0 = d) (hdK : d < K) (hK4 : K ≤ 4) (hq : M.1 4 d = nI q) (hq6 : q ≤ 6) (hs : s < 24) (hs0 : S.1 14 s = -1) : maI K M c i0 (k0 + 1) (N + 1) (mI (mI (baM S d q s) 43 N (nI s)) 16 (6 * ln i0 + k0) (nI s)) (fun j => if j = N then s else ln j) (fun j => if j = N then d else cl j) (fun i k => if i = i0 ∧ k = k0 then N else ch i k) := by
  obtain ⟨⟨t1, t2, t3, t4, t5⟩, a2, a3, a4, a5, a6, a7, a8⟩ := h
  have hk06 : k0 < 6 := ownM_lt ho
  have hnew : ∀ j, j < N → s ≠ ln j := fun j hj e => by
    have h1 := (a2 j hj).2.2.2.2.1
    rw [← e, hs0] at h1
    have := (a2 j hj).2.1
    exact m1_ne_nI (by omega) h1
  have hMs : M.1 14 s = -1 := by rw [← (a4 s hnew).1]; exact hs0
  have r2 := a6 2 (by unfold frM; omega)
  have r6' := a6 6 (by unfold frM; omega)
  have r7 := a6 7 (by unfold frM; omega)
  have r8 := a6 8 (by unfold frM; omega)
  have hdf : ∀ k, dflM S d q k = dflM M d q k := fun k => by unfold dflM; rw [r6', r7, r8]
  have f14 : ∀ r, (mI (mI (baM S d q s) 43 N (nI s)) 16 (6 * ln i0 + k0) (nI s)).1 14 r = if r = s then nI d else S.1 14 r := fun r => by
    show (mI S 14 s (nI d)).1 14 r = _
    rw [mI_at]
    by_cases e : r = s
    · rw [if_pos ⟨rfl, e⟩, if_pos e]
    · rw [if_neg (fun h => e h.2), if_neg e]
  have f15 : ∀ r, (mI (mI (baM S d q s) 43 N (nI s)) 16 (6 * ln i0 + k0) (nI s)).1 15 r = if r = s then M.1 2 d else S.1 15 r := fun r => by
    show (mI (mI S 14 s (nI d)) 15 s (S.1 2 d)).1 15 r = _
    rw [mI_at, r2]
    by_cases e : r = s
    · rw [if_pos ⟨rfl, e⟩, if_pos e]
    · rw [if_neg (fun h => e h.2), if_neg e]; rfl
  have f3 : ∀ e, (mI (mI (baM S d q s) 43 N (nI s)) 16 (6 * ln i0 + k0) (nI s)).1 3 e = if e = d then 0 else S.1 3 e := fun e => by
    show (mI (mI (mI S 14 s (nI d)) 15 s (S.1 2 d)) 3 d 0).1 3 e = _
    rw [mI_at]
    by_cases e1 : e = d
    · rw [if_pos ⟨rfl, e1⟩, if_pos e1]
    · rw [if_neg (fun h => e1 h.2), if_neg e1]; rfl
  have f43 : ∀ j, (mI (mI (baM S d q s) 43 N (nI s)) 16 (6 * ln i0 + k0) (nI s)).1 43 j = if j = N then nI s else S.1 43 j := fun j => by
    show (mI (baM S d q s) 43 N (nI s)).1 43 j = _
    rw [mI_at]
    by_cases e1 : j = N
    · rw [if_pos ⟨rfl, e1⟩, if_pos e1]
    · rw [if_neg (fun h => e1 h.2), if_neg e1]; rfl
  have f16 : ∀ r k, k < 6 → r6 ((mI (mI (baM S d q s) 43 N (nI s)) 16 (6 * ln i0 + k0) (nI s)).1 16) r k = if r = ln i0 ∧ k = k0 then nI s else if r = s then dflM M d q k else r6 (S.1 16) r k := fun r k hk => by
    rw [r6_up hk06 hk]
    by_cases e : r = ln i0 ∧ k = k0
    · rw [if_pos e, if_pos e]
    · rw [if_neg e, if_neg e]
      show (if 6 * s ≤ 6 * r + k ∧ 6 * r + k < 6 * s + 6 then dflM S d q (6 * r + k - 6 * s) else S.1 16 (6 * r + k)) = _
      by_cases e1 : r = s
      · rw [if_pos e1, if_pos (by omega), hdf, show 6 * r + k - 6 * s = k by omega]
      · rw [if_neg e1, if_neg (by omega)]; rfl
  have fg : ∀ g, frM g → (mI (mI (baM S d q s) 43 N (nI s)) 16 (6 * ln i0 + k0) (nI s)).1 g = S.1 g := fun g hg => by
    obtain ⟨g1, g2, g3, g4, g5⟩ := hg
    funext l
    unfold baM
    rw [mI_at, if_neg (fun h => g4 h.1), mI_at, if_neg (fun h => g5 h.1), mR_at2, if_neg g4, mI_at, if_neg (fun h => g1 h.1), mI_at, if_neg (fun h => g3 h.1), mI_at, if_neg (fun h => g2 h.1)]
  have lnL : ∀ {j}, j < N → (if j = N then s else ln j) = ln j := fun {j} h => if_neg (by omega)
  have clL : ∀ {j}, j < N → (if j = N then d else cl j) = cl j := fun {j} h => if_neg (by omega)
  generalize (mI (mI (baM S d q s) 43 N (nI s)) 16 (6 * ln i0 + k0) (nI s)) = T at f14 f15 f3 f43 f16 fg
  have done : ∀ {i k}, i < N → (ownM M (if i = N then d else cl i) k ∧ (i < i0 ∨ i = i0 ∧ k < k0 + 1)) → ¬ (i = i0 ∧ k = k0) → ownM M (cl i) k ∧ (i < i0 ∨ i = i0 ∧ k < k0) := fun {i k} hi hp hne => by
    rw [clL hi] at hp
    exact ⟨hp.1, by have := hp.2; omega⟩
  have notN : ∀ {k}, ¬ (ownM M (if N = N then d else cl N) k ∧ (N < i0 ∨ N = i0 ∧ k < k0 + 1)) := fun {k} hp => by have := hp.2; omega
  refine ⟨⟨by omega, ?_, fun i k hi hp => ?_, fun j hj hjN => ?_, fun i k1 i' k2 hi hi' hp hp' e => ?_⟩, fun j hj => ?_, fun i hi j hj e => ?_, fun r hr => ?_, fun j q' k hj hq' hm hk => ?_, fun g hg => ?_, fun e => ?_, ?_⟩
  · show (if 0 = N then d else cl 0) = c
    rw [clL t1, t2]
  · dsimp only at hp ⊢
    by_cases hiN : i = N
    · rw [hiN] at hp
      exact absurd hp notN
    · have hi : i < N := by omega
      rw [clL hi]
      by_cases e : i = i0 ∧ k = k0
      · rw [if_pos e, if_pos rfl, e.1, e.2]
        exact ⟨hi0, by omega, hd.symm⟩
      · rw [if_neg e]
        obtain ⟨q1, q2, q3⟩ := t3 i k hi (done hi hp e)
        rw [clL q2]
        exact ⟨q1, by omega, q3⟩
  · dsimp only
    by_cases hj0 : j = N
    · refine ⟨i0, k0, by omega, ⟨by rw [clL hi0]; exact ho, by omega⟩, ?_⟩
      rw [if_pos ⟨rfl, rfl⟩, hj0]
    · obtain ⟨i, k, i1, i2, i3⟩ := t4 j hj (by omega)
      refine ⟨i, k, i1, ⟨by rw [clL (by omega)]; exact i2.1, by have := i2.2; omega⟩, ?_⟩
      rw [if_neg (fun e => by have := i2.2; omega), i3]
  · dsimp only at hp hp' e
    have hiN : i ≠ N := fun h => by rw [h] at hp; exact notN hp
    have hi'N : i' ≠ N := fun h => by rw [h] at hp'; exact notN hp'
    by_cases e1 : i = i0 ∧ k1 = k0
    · rw [if_pos e1] at e
      by_cases e2 : i' = i0 ∧ k2 = k0
      · exact ⟨by omega, by omega⟩
      · rw [if_neg e2] at e
        have := (t3 i' k2 (by omega) (done (by omega) hp' e2)).2.1
        omega
    · rw [if_neg e1] at e
      have h1 := (t3 i k1 (by omega) (done (by omega) hp e1)).2.1
      by_cases e2 : i' = i0 ∧ k2 = k0
      · rw [if_pos e2] at e
        omega
      · rw [if_neg e2] at e
        exact t5 i k1 i' k2 (by omega) (by omega) (done (by omega) hp e1) (done (by omega) hp' e2) e
  · dsimp only
    rw [f43, f14, f15, f3]
    by_cases e : j = N
    · rw [if_pos e, if_pos e, if_pos rfl, if_pos rfl, if_pos rfl, if_pos e]
      exact ⟨hs, hdK, hMs, rfl, rfl, rfl, rfl⟩
    · have hjN : j < N := by omega
      rw [if_neg e, if_neg e, if_neg (hnew j hjN).symm, if_neg (hnew j hjN).symm, if_neg e]
      obtain ⟨c1, c2, c3, c4, c5, c6, c7⟩ := a2 j hjN
      refine ⟨c1, c2, c3, c4, c5, c6, ?_⟩
      by_cases e1 : cl j = d
      · rw [if_pos e1]
      · rw [if_neg e1]; exact c7
  · dsimp only at e
    by_cases e1 : i = N
    · by_cases e2 : j = N
      · omega
      · rw [if_pos e1, if_neg e2] at e
        exact absurd e (hnew j (by omega))
    · by_cases e2 : j = N
      · rw [if_neg e1, if_pos e2] at e
        exact absurd e.symm (hnew i (by omega))
      · rw [if_neg e1, if_neg e2] at e
        exact a3 i (by omega) j (by omega) e
  · dsimp only at hr
    have h1 : ∀ j, j < N → r ≠ ln j := fun j hj => by have := hr j (by omega); rwa [lnL hj] at this
    have h2 : r ≠ s := by have := hr N (by omega); rwa [if_pos rfl] at this
    obtain ⟨c1, c2, c3⟩ := a4 r h1
    refine ⟨by rw [f14, if_neg h2]; exact c1, by rw [f15, if_neg h2]; exact c2, fun k hk => ?_⟩
    rw [f16 r k hk, if_neg (fun e => h1 i0 hi0 e.1), if_neg h2]
    exact c3 k hk
  · dsimp only at hm ⊢
    by_cases e : j = N
    · rw [if_pos e] at hm ⊢
      have eq : q' = q := (nI_eq (by omega) (by omega)).mp (hm.symm.trans hq)
      rw [f16 _ k hk, if_pos e, if_neg (fun h => hnew i0 hi0 h.1), if_pos rfl, eq]
      refine ⟨fun hp => ?_, fun _ => rfl⟩
      have := hp.2
      omega
    · have hjN : j < N := by omega
      rw [if_neg e] at hm ⊢
      rw [if_neg e, f16 _ k hk, if_neg (hnew j hjN).symm]
      by_cases e1 : j = i0 ∧ k = k0
      · have e1' : ln j = ln i0 ∧ k = k0 := ⟨by rw [e1.1], e1.2⟩
        rw [if_pos e1, if_pos rfl, if_pos e1']
        refine ⟨fun _ => rfl, fun hn => absurd ⟨?_, ?_⟩ hn⟩
        · rw [e1.1, e1.2]; exact ho
        · omega
      · have e1' : ¬ (ln j = ln i0 ∧ k = k0) := fun h => e1 ⟨a3 j hjN i0 hi0 h.1, h.2⟩
        rw [if_neg e1, if_neg e1']
        obtain ⟨b1, b2⟩ := a5 j q' k hjN hq' hm hk
        refine ⟨fun hp => ?_, fun hn => b2 (fun hy => hn ⟨hy.1, by have := hy.2; omega⟩)⟩
        have hp' : ownM M (cl j) k ∧ (j < i0 ∨ j = i0 ∧ k < k0) := ⟨hp.1, by have := hp.2; omega⟩
        rw [if_neg (by have := (t3 j k hjN hp').2.1; omega)]
        exact b1 hp'
  · exact (fg g hg).trans (a6 g hg)
  · rw [f3]
    by_cases e1 : e = d
    · rw [if_pos e1]
      exact Or.inr ⟨rfl, N, by omega, by dsimp only; rw [if_pos rfl, e1]⟩
    · rw [if_neg e1]
      rcases a7 e with h1 | ⟨h1, j, j1, j2⟩
      · exact Or.inl h1
      · exact Or.inr ⟨h1, j, by omega, by dsimp only; rw [clL j1]; exact j2⟩
  · rw [← Nat.add_assoc, ← a8]
    refine cn_up (i := s) (by simp [hs0]) ?_ (fun k hk => ?_) hs
    · rw [f14, if_pos rfl]
      simp only [Bool.not_eq_true', decide_eq_false_iff_not]
      exact nI_ne_m1 (by omega)
    · rw [f14, if_neg hk]
