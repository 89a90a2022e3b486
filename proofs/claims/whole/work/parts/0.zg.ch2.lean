/-! ===== ranks among what is kept ===== -/
theorem cn_mono (p : Nat → Bool) {a : Nat} : ∀ {b : Nat}, a ≤ b → cn p a ≤ cn p b
  | 0, h => by
    have : a = 0 := by omega
    rw [this]
    exact Nat.le_refl _
  | b + 1, h => by
    rcases Nat.lt_or_ge a (b + 1) with h1 | h1
    · have := cn_mono p (a := a) (b := b) (by omega)
      show _ ≤ cn p b + _
      omega
    · have : a = b + 1 := by omega
      rw [this]
      exact Nat.le_refl _
theorem rk_lt {p : Nat → Bool} {i m : Nat} (hi : i < m) (hp : p i = true) : cn p i < cn p m := by
  have := cn_mono p (a := i + 1) (b := m) (by omega)
  rw [cn_t hp] at this
  omega
theorem rk_inj {p : Nat → Bool} {i j : Nat} (hi : p i = true) (hj : p j = true) (h : cn p i = cn p j) : i = j := by
  rcases Nat.lt_trichotomy i j with h1 | h1 | h1
  · have := rk_lt h1 hi; omega
  · exact h1
  · have := rk_lt h1 hj; omega
theorem rk_sur {p : Nat → Bool} : ∀ {m j : Nat}, j < cn p m → ∃ i, i < m ∧ p i = true ∧ cn p i = j
  | 0, j, h => absurd h (Nat.not_lt_zero _)
  | m + 1, j, h => by
    by_cases e : p m = true
    · rw [cn_t e] at h
      rcases Nat.lt_succ_iff_lt_or_eq.mp h with h1 | h1
      · obtain ⟨i, i1, i2, i3⟩ := rk_sur h1
        exact ⟨i, by omega, i2, i3⟩
      · exact ⟨m, by omega, e, h1.symm⟩
    · rw [cn_f e] at h
      obtain ⟨i, i1, i2, i3⟩ := rk_sur h
      exact ⟨i, by omega, i2, i3⟩
/-! ===== the reference's draft ===== -/
theorem p_findDraft {n : Nat} {T : MSt} {m : Nat} {x : Int32} (hn : 6 < n) (h6 : m ≤ 6) (hm : T.1 28 0 = nI m) : m_X8_findDraft n T x = some (plc (T.1 29) m x) := by
  have h : Ok (lpO (b_X8_findDraft_4 n T x) n (-1, 0)) (fun b => b = plc (T.1 29) m x) := by
    refine ok_for2 (N := m) (by omega) (I := fun k a => a = plc (T.1 29) k x) (fun k a hk ha => ?_) rfl
    unfold b_X8_findDraft_4
    dsimp only
    rw [hm, Ok_ite]
    refine ⟨fun h => ?_, fun h => ?_⟩
    · rw [Ok_some]
      have e : k = m := ge_eq (by omega) hk h
      rw [← e]
      exact ha
    · have hk2 : k < m := nge_lt (by omega) hk h
      rw [Ok_bif, nI_clamp (by omega), Ok_ite]
      refine ⟨inB_nI (by omega) (by omega), fun h2 => ?_, fun h2 => ?_⟩
      · rw [Ok_nm, Ok_some]
        refine ⟨hk2, nI_1 k, ?_⟩
        show a = if T.1 29 k = x then _ else _
        rw [if_neg h2]
        exact ha
      · rw [Ok_nm, Ok_some]
        refine ⟨hk2, nI_1 k, ?_⟩
        show nI k = if T.1 29 k = x then _ else _
        rw [if_pos (Decidable.not_not.mp h2)]
  unfold m_X8_findDraft
  rw [ok_get h]
  rfl
/-- a field is appended to the draft -/
def dA (T : MSt) (m : Nat) (x1 x2 x3 x4 : Int32) : MSt := mI (mI (mI (mI (mI (mI T 29 m x1) 30 m x2) 31 m x3) 32 m x4) 33 m (-1)) 28 0 (nI (m + 1))
theorem p_append {n : Nat} {T : MSt} {m : Nat} {x1 x2 x3 x4 : Int32} (hn : 6 < n) (h6 : m ≤ 6) (hm : T.1 28 0 = nI m) : m_X8_append n T x1 x2 x3 x4 = if plc (T.1 29) m x1 = -1 ∧ m < 6 then some (1, dA T m x1 x2 x3 x4) else some (0, T) := by
  unfold m_X8_append
  rw [p_findDraft hn h6 hm, Option.bind_some]
  rcases plc_spec (T.1 29) x1 m with ⟨h1, -⟩ | ⟨k, hk, h1, -⟩
  · rw [h1, if_neg (show ¬ (0 : Int32) ≤ -1 by decide), hm]
    by_cases hm6 : m < 6
    · rw [if_pos (show ¬ nI m = 6 from fun h => by have := (nI_eq (a := m) (b := 6) (by omega) (by decide)).mp h; omega), if_pos ⟨rfl, hm6⟩, inB_nI hm6 (by omega), nI_clamp (by omega)]
      show (bif inB (T.1 28 0) 6 then (bif inB (T.1 28 0) 6 then (bif inB (T.1 28 0) 6 then (bif inB (T.1 28 0) 6 then some ((1 : Int32), mI (mI (mI (mI (mI (mI T 29 m x1) 30 (T.1 28 0).toNatClampNeg x2) 31 (T.1 28 0).toNatClampNeg x3) 32 (T.1 28 0).toNatClampNeg x4) 33 (T.1 28 0).toNatClampNeg (-1)) 28 0 (T.1 28 0 + 1)) else none) else none) else none) else none) = _
      rw [hm, inB_nI hm6 (by omega), nI_clamp (by omega), nI_1]
      rfl
    · have e : m = 6 := by omega
      subst e
      rw [if_neg (show ¬ ¬ nI 6 = 6 by decide), if_neg (fun h => hm6 h.2)]
  · rw [h1, if_pos (nI_pos' (by omega)), if_neg (fun h => nI_ne_m1 (by omega) h.1)]
/-- field k0 of the draft's m is taken out, as far as k -/
def tkF (T : MSt) (k0 m k : Nat) : MSt := (fun g => cond (Nat.ble 29 g && Nat.ble g 33) (fun l => if k0 ≤ l ∧ l < k then T.1 g (l + 1) else T.1 g l) (cond (Nat.beq g 34) (fun l => if l < 144 ∧ k0 ≤ l % 6 ∧ l % 6 < k then T.1 34 (l + 1) else T.1 34 l) (cond (Nat.beq g 28) (fun l => if l = 0 then nI (m - 1) else T.1 28 l) (T.1 g))), T.2)
theorem tkF_a (T : MSt) (k0 m k g l : Nat) (h1 : 29 ≤ g) (h2 : g ≤ 33) : (tkF T k0 m k).1 g l = if k0 ≤ l ∧ l < k then T.1 g (l + 1) else T.1 g l := by
  unfold tkF
  show (cond (Nat.ble 29 g && Nat.ble g 33) (fun l => if k0 ≤ l ∧ l < k then T.1 g (l + 1) else T.1 g l) (cond (Nat.beq g 34) (fun l => if l < 144 ∧ k0 ≤ l % 6 ∧ l % 6 < k then T.1 34 (l + 1) else T.1 34 l) (cond (Nat.beq g 28) (fun l => if l = 0 then nI (m - 1) else T.1 28 l) (T.1 g)))) l = _
  rw [show (Nat.ble 29 g && Nat.ble g 33) = true by simp [h1, h2]]
  rfl
theorem tkF_o (T : MSt) (k0 m k g : Nat) (h1 : g < 28 ∨ 34 < g) : (tkF T k0 m k).1 g = T.1 g := by
  unfold tkF
  show (cond (Nat.ble 29 g && Nat.ble g 33) _ (cond (Nat.beq g 34) _ (cond (Nat.beq g 28) _ (T.1 g)))) = _
  rw [show (Nat.ble 29 g && Nat.ble g 33) = false by
    cases h2 : (Nat.ble 29 g && Nat.ble g 33)
    · rfl
    · exfalso
      simp only [Bool.and_eq_true, Nat.ble_eq] at h2
      omega, beq_f (by omega), beq_f (by omega)]
  rfl
theorem p_takeCol {n : Nat} {T : MSt} {k : Nat} (hn : 24 < n) (hk : k < 5) : lpO (b_X8_takeField_92 n (nI k)) n (T, 0) = some (mR T 34 (fun l => if l < 144 ∧ l % 6 = k then T.1 34 (l + 1) else T.1 34 l)) := by
  refine ok_get (ok_for2 (N := 24) hn (I := fun r S => S = mR T 34 (fun l => if l < 6 * r ∧ l % 6 = k then T.1 34 (l + 1) else T.1 34 l)) (fun r S hr hS => ?_) (mR_self T 34 (funext fun l => if_neg (fun h => by omega))))
  unfold b_X8_takeField_92
  dsimp only
  rw [ix6, Ok_ite]
  refine ⟨fun h => ?_, fun h => ?_⟩
  · have e : r = 24 := ge_eq (by decide) hr h
    rw [Ok_some]
    subst e
    exact hS
  · have hr2 : r < 24 := nge_lt (by decide) hr h
    rw [nI_1, Ok_bif, Ok_bif, Ok_nm, Ok_nm, Ok_some, nI_clamp (by omega), nI_clamp (by omega)]
    refine ⟨inB_nI (by omega) (by omega), inB_nI (by omega) (by omega), hr2, nI_1 r, ?_⟩
    show mI S 34 (6 * r + k) (S.1 34 (6 * r + k + 1)) = _
    have e34 : S.1 34 (6 * r + k + 1) = T.1 34 (6 * r + k + 1) := by
      rw [hS]
      exact if_neg (fun h => by omega)
    rw [e34, hS]
    refine mI_mR _ _ _ _ _ _ (fun l => ?_)
    by_cases e : l = 6 * r + k
    · rw [if_pos e, if_pos (by omega), e]
    · rw [if_neg e]
      have : (l < 6 * (r + 1) ∧ l % 6 = k) ↔ (l < 6 * r ∧ l % 6 = k) := by omega
      simp only [this]
theorem p_takeField {n : Nat} {T : MSt} {k0 m : Nat} (hn : 24 < n) (h6 : m ≤ 6) (hm : T.1 28 0 = nI m) (hk0 : k0 < m) : m_X8_takeField n T (nI k0) = some (tkF T k0 m (m - 1)) := by
  have h : Ok (lpO (b_X8_takeField_12 n) n (mI T 28 0 (nI (m - 1)), nI (k0 + 0))) (fun S => S = tkF T k0 m (m - 1)) := by
    refine ok_forD (fun t (S : MSt) => (S, nI (k0 + t))) (N := m - 1 - k0) (I := fun t S => S = tkF T k0 m (k0 + t)) (fun t S ht hS => ?_) (m - 1 - k0) 0 _ n (by omega) (by omega) ?_ (by omega)
    · have e28 : S.1 28 0 = nI (m - 1) := by rw [hS]; rfl
      unfold b_X8_takeField_12
      dsimp only
      rw [e28, Ok_ite]
      refine ⟨fun h => ?_, fun h => ?_⟩
      · have := (nI_leI (by omega) (by omega)).mp h
        rw [Ok_some]
        have e : k0 + t = m - 1 := by omega
        rw [e] at hS
        exact hS
      · have hlt : k0 + t < m - 1 := Nat.not_le.mp (fun q => h (nI_le q (by omega)))
        rw [nI_1, inB_nI (show k0 + t + 1 < 6 by omega) (by omega), inB_nI (show k0 + t < 6 by omega) (by omega), nI_clamp (by omega), nI_clamp (by omega)]
        simp only [cond_true, nm]
        have hcol := p_takeCol (n := n) (T := mI (mI (mI (mI (mI S 29 (k0 + t) (S.1 29 (k0 + t + 1))) 30 (k0 + t) (S.1 30 (k0 + t + 1))) 31 (k0 + t) (S.1 31 (k0 + t + 1))) 32 (k0 + t) (S.1 32 (k0 + t + 1))) 33 (k0 + t) (S.1 33 (k0 + t + 1))) (k := k0 + t) hn (by omega)
        show Ok ((lpO (b_X8_takeField_92 n (nI (k0 + t))) n (mI (mI (mI (mI (mI S 29 (k0 + t) (S.1 29 (k0 + t + 1))) 30 (k0 + t) (S.1 30 (k0 + t + 1))) 31 (k0 + t) (S.1 31 (k0 + t + 1))) 32 (k0 + t) (S.1 32 (k0 + t + 1))) 33 (k0 + t) (S.1 33 (k0 + t + 1)), 0)).bind _) _
        rw [hcol, Ok_bind, Ok_some, Ok_some]
        refine ⟨by omega, _, rfl, ?_⟩
        show mR _ 34 (fun l => if l < 144 ∧ l % 6 = k0 + t then S.1 34 (l + 1) else S.1 34 l) = _
        rw [hS]
        refine Prod.ext (funext fun g => funext fun l => ?_) rfl
        rw [mR_at2, mI_at, mI_at, mI_at, mI_at, mI_at]
        by_cases g34 : g = 34
        · rw [if_pos g34, g34]
          show (if l < 144 ∧ l % 6 = k0 + t then (if l + 1 < 144 ∧ k0 ≤ (l + 1) % 6 ∧ (l + 1) % 6 < k0 + t then T.1 34 (l + 1 + 1) else T.1 34 (l + 1)) else (if l < 144 ∧ k0 ≤ l % 6 ∧ l % 6 < k0 + t then T.1 34 (l + 1) else T.1 34 l)) = (if l < 144 ∧ k0 ≤ l % 6 ∧ l % 6 < k0 + (t + 1) then T.1 34 (l + 1) else T.1 34 l)
          by_cases e : l < 144 ∧ l % 6 = k0 + t
          · rw [if_pos e, if_neg (by omega), if_pos (by omega)]
          · rw [if_neg e]
            have : (l < 144 ∧ k0 ≤ l % 6 ∧ l % 6 < k0 + (t + 1)) ↔ (l < 144 ∧ k0 ≤ l % 6 ∧ l % 6 < k0 + t) := by omega
            simp only [this]
        · rw [if_neg g34]
          by_cases hg : 29 ≤ g ∧ g ≤ 33
          · rw [tkF_a _ _ _ _ 33 _ (by omega) (by omega), tkF_a _ _ _ _ 32 _ (by omega) (by omega), tkF_a _ _ _ _ 31 _ (by omega) (by omega), tkF_a _ _ _ _ 30 _ (by omega) (by omega), tkF_a _ _ _ _ 29 _ (by omega) (by omega), tkF_a _ _ _ _ g _ hg.1 hg.2, tkF_a _ _ _ _ g _ hg.1 hg.2]
            rw [if_neg (show ¬ (k0 ≤ k0 + t + 1 ∧ k0 + t + 1 < k0 + t) by omega), if_neg (show ¬ (k0 ≤ k0 + t + 1 ∧ k0 + t + 1 < k0 + t) by omega), if_neg (show ¬ (k0 ≤ k0 + t + 1 ∧ k0 + t + 1 < k0 + t) by omega), if_neg (show ¬ (k0 ≤ k0 + t + 1 ∧ k0 + t + 1 < k0 + t) by omega), if_neg (show ¬ (k0 ≤ k0 + t + 1 ∧ k0 + t + 1 < k0 + t) by omega)]
            by_cases e : l = k0 + t
            · subst e
              rw [if_pos (show k0 ≤ k0 + t ∧ k0 + t < k0 + (t + 1) by omega), if_neg (show ¬ (k0 ≤ k0 + t ∧ k0 + t < k0 + t) by omega)]
              have hgs : g = 29 ∨ g = 30 ∨ g = 31 ∨ g = 32 ∨ g = 33 := by omega
              rcases hgs with e | e | e | e | e <;> subst e <;> simp
            · have : (k0 ≤ l ∧ l < k0 + (t + 1)) ↔ (k0 ≤ l ∧ l < k0 + t) := by omega
              simp [e, this]
          · rw [if_neg (by omega), if_neg (by omega), if_neg (by omega), if_neg (by omega), if_neg (by omega)]
            by_cases hg28 : g = 28
            · rw [hg28]; rfl
            · rw [tkF_o _ _ _ _ _ (by omega), tkF_o _ _ _ _ _ (by omega)]
    · refine Prod.ext (funext fun g => funext fun l => ?_) rfl
      by_cases hg : 29 ≤ g ∧ g ≤ 33
      · rw [tkF_a _ _ _ _ g _ hg.1 hg.2, if_neg (by omega), mI_at, if_neg (by omega)]
      · by_cases hg34 : g = 34
        · subst hg34
          show (mI T 28 0 (nI (m - 1))).1 34 l = (if l < 144 ∧ k0 ≤ l % 6 ∧ l % 6 < k0 + 0 then T.1 34 (l + 1) else T.1 34 l)
          rw [if_neg (by omega)]
          rfl
        · by_cases hg28 : g = 28
          · subst hg28
            rw [mI_at]
            show _ = (if l = 0 then nI (m - 1) else T.1 28 l)
            by_cases e : l = 0
            · rw [if_pos ⟨rfl, e⟩, if_pos e]
            · rw [if_neg (fun h => e h.2), if_neg e]
          · rw [tkF_o _ _ _ _ _ (by omega), mI_at, if_neg (by omega)]
  unfold m_X8_takeField
  show (lpO (b_X8_takeField_12 n) n (mI T 28 0 (T.1 28 0 - 1), nI (k0 + 0))).bind _ = _
  have e1 : nI m - 1 = nI (m - 1) := pk_sub (b := 1) (by omega)
  rw [hm, e1, ok_get h]
  rfl
