/-! ===== takeBack, the reference's ===== -/
theorem mR_at2 (M : MSt) (f : Nat) (row : Nat → Int32) (g l : Nat) : (mR M f row).1 g l = if g = f then row l else M.1 g l := by
  rw [mR_at]
  by_cases h : g = f
  · rw [if_pos h, if_pos h]
  · rw [if_neg h, if_neg h]
theorem sF_at2 (S : CSt) (f : Nat) (row : Nat → Nat → Int32) (g j l : Nat) : (sF S f row).1 g j l = if g = f then row j l else S.1 g j l := by
  rw [sF_at]
  by_cases h : g = f
  · rw [if_pos h, if_pos h]
  · rw [if_neg h, if_neg h]
theorem p_tbIn {n : Nat} {T : MSt} {r : Nat} {x1 x2 : Int32} (hn : 6 < n) (hr : r < 24) : lpO (b_X8_takeBack_123 n x1 x2 (nI r)) n (T, 0) = some (mR T 16 (fun l => if 6 * r ≤ l ∧ l < 6 * r + 6 then T.1 17 l else T.1 16 l)) := by
  refine ok_get (ok_for2 (N := 6) hn (I := fun k S => S = mR T 16 (fun l => if 6 * r ≤ l ∧ l < 6 * r + k then T.1 17 l else T.1 16 l)) (fun k S hk hS => ?_) (mR_self T 16 (funext fun l => if_neg (fun h => by omega))))
  have e17 : S.1 17 = T.1 17 := by rw [hS]; rfl
  unfold b_X8_takeBack_123
  show Ok (if 6 ≤ nI k then _ else (bif inB (6 * nI r + nI k) 144 then (bif inB (6 * nI r + nI k) 144 then (nm (mI S 16 ((6 * nI r + nI k).toNatClampNeg) (S.1 17 (6 * nI r + nI k).toNatClampNeg)) _) else none) else none)) _
  rw [e17, ix6, Ok_ite]
  refine ⟨fun h => ?_, fun h => ?_⟩
  · have e : k = 6 := ge_eq (by decide) hk h
    rw [Ok_some]
    rw [e] at hS
    exact hS
  · have hk2 : k < 6 := nge_lt (by decide) hk h
    rw [Ok_bif, Ok_bif, Ok_nm, Ok_nm, Ok_some, nI_clamp (by omega)]
    refine ⟨inB_nI (by omega) (by omega), inB_nI (by omega) (by omega), hk2, nI_1 k, ?_⟩
    show mI S 16 (6 * r + k) (T.1 17 (6 * r + k)) = _
    rw [hS]
    refine mI_mR _ _ _ _ _ _ (fun l => ?_)
    by_cases e : l = 6 * r + k
    · rw [if_pos e, if_pos ⟨by omega, by omega⟩, e]
    · rw [if_neg e]
      have : (6 * r ≤ l ∧ l < 6 * r + (k + 1)) ↔ (6 * r ≤ l ∧ l < 6 * r + k) := by omega
      simp only [this]
/-- the records of class c below R are taken back -/
def tbR (M : MSt) (c R : Nat) : MSt := mR (mR M 15 (fun r => if r < R ∧ M.1 14 r = nI c ∧ M.1 15 r = M.1 2 c then M.1 15 r - 1 else M.1 15 r)) 16 (fun l => if l < 6 * R ∧ M.1 14 (l / 6) = nI c then M.1 17 l else M.1 16 l)
theorem p_tbL {n : Nat} {M : MSt} {c : Nat} (hn : 24 < n) (hc : c < 4) : lpO (b_X8_takeBack_43 n (nI c)) n (M, 0, 0) = some (tbR M c 24, nI (cn (fun r => decide (M.1 14 r = nI c) && decide (M.1 15 r = M.1 2 c)) 24)) := by
  refine ok_get (ok_for3 (N := 24) hn (I := fun k S a => S = tbR M c k ∧ a = nI (cn (fun r => decide (M.1 14 r = nI c) && decide (M.1 15 r = M.1 2 c)) k)) (fun k S a hk hS => ?_) ⟨?_, rfl⟩)
  · obtain ⟨hS, ha⟩ := hS
    have e14 : S.1 14 = M.1 14 := by rw [hS]; rfl
    have e2 : S.1 2 = M.1 2 := by rw [hS]; rfl
    have e17 : S.1 17 = M.1 17 := by rw [hS]; rfl
    have e15 : S.1 15 k = M.1 15 k := by
      rw [hS]
      exact if_neg (fun h => absurd h.1 (Nat.lt_irrefl _))
    unfold b_X8_takeBack_43
    show Ok (if 24 ≤ nI k then _ else (bif inB (nI k) 24 then (if ¬ (S.1 14 (nI k).toNatClampNeg) = nI c then _ else (bif inB (nI k) 24 then (bif inB (nI c) 4 then (if ¬ (S.1 15 (nI k).toNatClampNeg) = (S.1 2 (nI c).toNatClampNeg) then (m_X8_takeBack_J80 n S (nI c) (nI k) a 0) else (m_X8_takeBack_J80 n S (nI c) (nI k) a 1)) else none) else none)) else none)) _
    rw [Ok_ite]
    refine ⟨fun h => ?_, fun h => ?_⟩
    · have e : k = 24 := ge_eq (by decide) hk h
      rw [Ok_some, ← e]
      exact Prod.ext hS ha
    · have hk2 : k < 24 := nge_lt (by decide) hk h
      rw [Ok_bif, nI_clamp (by omega), nI_clamp (by omega), e14, e2, e15, Ok_ite]
      refine ⟨inB_nI hk2 (by omega), fun h2 => ?_, fun h2 => ?_⟩
      · rw [Ok_nm, Ok_some]
        refine ⟨hk2, nI_1 k, ?_, ?_⟩
        · show S = _
          rw [hS]
          refine Prod.ext (funext fun g => funext fun l => ?_) rfl
          unfold tbR
          simp only [mR_at2]
          by_cases g16 : g = 16
          · rw [if_pos g16, if_pos g16]
            by_cases hl : 6 * k ≤ l ∧ l < 6 * k + 6
            · rw [if_neg (fun h => by omega), if_neg (fun h => h2 (by rw [show k = l / 6 by omega]; exact h.2))]
            · have : (l < 6 * (k + 1) ∧ M.1 14 (l / 6) = nI c) ↔ (l < 6 * k ∧ M.1 14 (l / 6) = nI c) := ⟨fun h => ⟨by omega, h.2⟩, fun h => ⟨by omega, h.2⟩⟩
              simp only [this]
          · rw [if_neg g16, if_neg g16]
            by_cases g15 : g = 15
            · rw [if_pos g15, if_pos g15]
              by_cases hl : l = k
              · rw [if_neg (fun h => by omega), if_neg (fun h => h2 (by rw [← hl]; exact h.2.1))]
              · have : (l < k + 1 ∧ M.1 14 l = nI c ∧ M.1 15 l = M.1 2 c) ↔ (l < k ∧ M.1 14 l = nI c ∧ M.1 15 l = M.1 2 c) := ⟨fun h => ⟨by omega, h.2⟩, fun h => ⟨by omega, h.2⟩⟩
                simp only [this]
            · rw [if_neg g15, if_neg g15]
        · rw [cn_f (fun h3 => by rw [Bool.and_eq_true] at h3; exact h2 (of_decide_eq_true h3.1))]
          exact ha
      · have h2 := Decidable.not_not.mp h2
        have fin : ∀ y : Int32, y = (if M.1 15 k = M.1 2 c then M.1 15 k - 1 else M.1 15 k) → mR (mI S 15 k y) 16 (fun l => if 6 * k ≤ l ∧ l < 6 * k + 6 then (mI S 15 k y).1 17 l else (mI S 15 k y).1 16 l) = tbR M c (k + 1) := fun y hy => by
          refine Prod.ext (funext fun g => funext fun l => ?_) (by rw [hS]; rfl)
          show (mR (mI S 15 k y) 16 (fun l => if 6 * k ≤ l ∧ l < 6 * k + 6 then S.1 17 l else S.1 16 l)).1 g l = _
          rw [e17, hS]
          unfold tbR
          simp only [mR_at2, mI_at]
          by_cases g16 : g = 16
          · rw [if_pos g16, if_pos g16]
            by_cases hl : 6 * k ≤ l ∧ l < 6 * k + 6
            · rw [if_pos hl, if_pos ⟨by omega, by rw [show l / 6 = k by omega]; exact h2⟩]
            · rw [if_neg hl]
              have : (l < 6 * (k + 1) ∧ M.1 14 (l / 6) = nI c) ↔ (l < 6 * k ∧ M.1 14 (l / 6) = nI c) := ⟨fun h => ⟨by omega, h.2⟩, fun h => ⟨by omega, h.2⟩⟩
              simp only [this]
              rfl
          · rw [if_neg g16, if_neg g16, if_neg g16]
            by_cases g15 : g = 15
            · by_cases hl : l = k
              · rw [if_pos ⟨g15, hl⟩, if_pos g15, hy, hl]
                by_cases h3 : M.1 15 k = M.1 2 c
                · rw [if_pos h3, if_pos ⟨by omega, h2, h3⟩]
                · rw [if_neg h3, if_neg (fun h => h3 h.2.2)]
              · rw [if_neg (fun h => hl h.2), if_pos g15, if_pos g15]
                have : (l < k + 1 ∧ M.1 14 l = nI c ∧ M.1 15 l = M.1 2 c) ↔ (l < k ∧ M.1 14 l = nI c ∧ M.1 15 l = M.1 2 c) := ⟨fun h => ⟨by omega, h.2⟩, fun h => ⟨by omega, h.2⟩⟩
                simp only [this]
            · rw [if_neg (fun h => g15 h.1), if_neg g15, if_neg g15]
        have j119 : ∀ (x2 y : Int32), m_X8_takeBack_J119 n S (nI c) x2 (nI k) (nI k) y = some (.inl (mR (mI S 15 k y) 16 (fun l => if 6 * k ≤ l ∧ l < 6 * k + 6 then (mI S 15 k y).1 17 l else (mI S 15 k y).1 16 l), x2, nI (k + 1))) := fun x2 y => by
          unfold m_X8_takeBack_J119
          rw [inB_nI hk2 (by omega), nI_clamp (by omega)]
          show (lpO (b_X8_takeBack_123 n (nI c) x2 (nI k)) n (mI S 15 k y, 0)).bind _ = _
          rw [p_tbIn (by omega) hk2, Option.bind_some, nI_1]
          rfl
        have j80 : ∀ y1 : Int32, m_X8_takeBack_J80 n S (nI c) (nI k) a y1 = if ¬ M.1 15 k = M.1 2 c then m_X8_takeBack_J119 n S (nI c) (a + y1) (nI k) (nI k) (M.1 15 k) else m_X8_takeBack_J119 n S (nI c) (a + y1) (nI k) (nI k) (M.1 15 k - 1) := fun y1 => by
          unfold m_X8_takeBack_J80
          rw [inB_nI hk2 (by omega), inB_nI hc (by omega), nI_clamp (by omega), nI_clamp (by omega), e2, e15]
          rfl
        rw [Ok_bif, Ok_bif, Ok_ite]
        refine ⟨inB_nI hk2 (by omega), inB_nI hc (by omega), fun h3 => ?_, fun h3 => ?_⟩
        · rw [j80, if_pos h3, j119, Ok_some]
          refine ⟨hk2, rfl, fin _ (by rw [if_neg h3]), ?_⟩
          rw [cn_f (fun h4 => by rw [Bool.and_eq_true] at h4; exact h3 (of_decide_eq_true h4.2))]
          show a + 0 = _
          rw [ha, nI_a0]
        · rw [j80, if_neg h3, j119, Ok_some]
          have h3 := Decidable.not_not.mp h3
          refine ⟨hk2, rfl, fin _ (by rw [if_pos h3]), ?_⟩
          rw [cn_t (by rw [Bool.and_eq_true]; exact ⟨decide_eq_true h2, decide_eq_true h3⟩)]
          show a + 1 = _
          rw [ha, nI_1]
  · refine Prod.ext (funext fun g => funext fun l => ?_) rfl
    unfold tbR
    simp only [mR_at2]
    by_cases g16 : g = 16
    · rw [if_pos g16, if_neg (fun h => by omega), g16]
    · rw [if_neg g16]
      by_cases g15 : g = 15
      · rw [if_pos g15, if_neg (fun h => by omega), g15]
      · rw [if_neg g15]
/-- the shape of class c becomes the old one -/
def tbM (M : MSt) (c k : Nat) : MSt := (fun g => cond (Nat.ble 5 g && Nat.ble g 8) (fun l => if 6 * c ≤ l ∧ l < 6 * c + k then M.1 (g + 5) l else M.1 g l) (M.1 g), M.2)
theorem tbM_at (M : MSt) (c k g l : Nat) : (tbM M c k).1 g l = if (5 ≤ g ∧ g ≤ 8) ∧ 6 * c ≤ l ∧ l < 6 * c + k then M.1 (g + 5) l else M.1 g l := by
  unfold tbM
  show (cond (Nat.ble 5 g && Nat.ble g 8) _ (M.1 g)) l = _
  by_cases h : 5 ≤ g ∧ g ≤ 8
  · rw [show (Nat.ble 5 g && Nat.ble g 8) = true by simp [h.1, h.2]]
    show (if 6 * c ≤ l ∧ l < 6 * c + k then _ else _) = _
    by_cases e : 6 * c ≤ l ∧ l < 6 * c + k
    · rw [if_pos e, if_pos ⟨h, e⟩]
    · rw [if_neg e, if_neg (fun h2 => e h2.2)]
  · rw [show (Nat.ble 5 g && Nat.ble g 8) = false by
      cases h2 : (Nat.ble 5 g && Nat.ble g 8)
      · rfl
      · exfalso
        simp only [Bool.and_eq_true, Nat.ble_eq] at h2
        exact h h2]
    rw [if_neg (fun h2 => h h2.1)]
    rfl
theorem p_tbS {n : Nat} {M : MSt} {c : Nat} {x : Int32} (hn : 6 < n) (hc : c < 4) : lpO (b_X8_takeBack_168 n (nI c) x) n (M, 0) = some (tbM M c 6) := by
  refine ok_get (ok_for2 (N := 6) hn (I := fun k S => S = tbM M c k) (fun k S hk hS => ?_) ?_)
  · unfold b_X8_takeBack_168
    dsimp only
    rw [ix6, Ok_ite]
    refine ⟨fun h => ?_, fun h => ?_⟩
    · have e : k = 6 := ge_eq (by decide) hk h
      rw [Ok_some]
      rw [e] at hS
      exact hS
    · have hk2 : k < 6 := nge_lt (by decide) hk h
      rw [inB_nI (by omega : 6 * c + k < 24) (by omega), nI_clamp (by omega)]
      refine ⟨_, rfl, hk2, nI_1 k, ?_⟩
      show mI (mI (mI (mI S 5 (6 * c + k) (S.1 10 (6 * c + k))) 6 (6 * c + k) (S.1 11 (6 * c + k))) 7 (6 * c + k) (S.1 12 (6 * c + k))) 8 (6 * c + k) (S.1 13 (6 * c + k)) = _
      rw [hS]
      refine Prod.ext (funext fun g => funext fun l => ?_) rfl
      simp only [mI_at, tbM_at]
      by_cases el : l = 6 * c + k
      · subst el
        by_cases e5 : g = 5
        · subst e5; simp
        · by_cases e6 : g = 6
          · subst e6; simp
          · by_cases e7 : g = 7
            · subst e7; simp
            · by_cases e8 : g = 8
              · subst e8; simp
              · have hg : ¬ (5 ≤ g ∧ g ≤ 8) := by omega
                simp [e5, e6, e7, e8, hg]
      · have : (6 * c ≤ l ∧ l < 6 * c + (k + 1)) ↔ (6 * c ≤ l ∧ l < 6 * c + k) := by omega
        simp [el, this]
  · refine Prod.ext (funext fun g => funext fun l => ?_) rfl
    rw [tbM_at, if_neg (by omega)]
theorem p_takeBack {n : Nat} {M : MSt} {c K : Nat} (hn : 24 < n) (hK : M.1 1 0 = nI K) (hK4 : K ≤ 4) (hcK : c < K) (h3 : M.1 3 c = 1) : m_X8_takeBack n M (nI c) = some (nI (cn (fun r => decide (M.1 14 r = nI c) && decide (M.1 15 r = M.1 2 c)) 24), mI (mI (mI (tbM (tbR (mI M 0 0 0) c 24) c 6) 4 c (M.1 9 c)) 2 c (M.1 2 c - 1)) 3 c 0) := by
  have hc : c < 4 := by omega
  unfold m_X8_takeBack
  rw [p_isClass n hK hK4 hcK, Option.bind_some, if_pos one_ne, inB_nI hc (by omega), nI_clamp (by omega), h3, if_pos one_ne]
  unfold m_X8_takeBack_J27
  rw [code0, p_tbL (M := mI M 0 0 0) hn hc, Option.bind_some, p_tbS (by omega) hc, Option.bind_some, inB_nI hc (by omega), nI_clamp (by omega)]
  rfl
