/-! ===== shapes of the class's: append, appendAll, copyFrom ===== -/
/-- to the a fields of shape i the first k of shape i2 are appended -/
def apS (S : CSt) (i i2 a k : Nat) : CSt := (fun g => cond (Nat.ble 5 g && Nat.ble g 10) (fun j l => if j = i then (if 6 ≤ g ∧ g ≤ 9 ∧ a ≤ l ∧ l < a + k then S.1 g i2 (l - a) else if g = 10 ∧ a ≤ l ∧ l < a + k then -1 else if g = 5 ∧ l = 0 then nI (a + k) else S.1 g j l) else S.1 g j l) (S.1 g), S.2)
theorem apS_at (S : CSt) (i i2 a k g j l : Nat) : (apS S i i2 a k).1 g j l = if j = i ∧ 5 ≤ g ∧ g ≤ 10 then (if 6 ≤ g ∧ g ≤ 9 ∧ a ≤ l ∧ l < a + k then S.1 g i2 (l - a) else if g = 10 ∧ a ≤ l ∧ l < a + k then -1 else if g = 5 ∧ l = 0 then nI (a + k) else S.1 g j l) else S.1 g j l := by
  unfold apS
  show (cond (Nat.ble 5 g && Nat.ble g 10) _ (S.1 g)) j l = _
  by_cases h : 5 ≤ g ∧ g ≤ 10
  · rw [show (Nat.ble 5 g && Nat.ble g 10) = true by simp [h.1, h.2]]
    show (if j = i then _ else _) = _
    by_cases e : j = i
    · rw [if_pos e, if_pos (show j = i ∧ 5 ≤ g ∧ g ≤ 10 from ⟨e, h⟩)]
    · rw [if_neg e, if_neg (fun h2 => e h2.1)]
  · rw [show (Nat.ble 5 g && Nat.ble g 10) = false by
      cases h2 : (Nat.ble 5 g && Nat.ble g 10)
      · rfl
      · exfalso
        simp only [Bool.and_eq_true, Nat.ble_eq] at h2
        exact h h2]
    rw [if_neg (fun h2 => h h2.2)]
    rfl
theorem q_append {n : Nat} {S : CSt} {i a : Nat} {x1 x2 x3 x4 : Int32} (ha : a < 6) (h5 : S.1 5 i 0 = nI a) : m_X4_append n S i x1 x2 x3 x4 = some (sI (sI (sI (sI (sI (sI S 6 i a x1) 7 i a x2) 8 i a x3) 9 i a x4) 10 i a (-1)) 5 i 0 (nI (a + 1))) := by
  unfold m_X4_append
  rw [h5, if_neg (show ¬ 6 ≤ nI a from nI_ge ha (by decide)), inB_nI ha (by omega), nI_clamp (by omega)]
  show (bif inB (S.1 5 i 0) 6 then (bif inB (S.1 5 i 0) 6 then (bif inB (S.1 5 i 0) 6 then (bif inB (S.1 5 i 0) 6 then some (sI (sI (sI (sI (sI (sI S 6 i a x1) 7 i (S.1 5 i 0).toNatClampNeg x2) 8 i (S.1 5 i 0).toNatClampNeg x3) 9 i (S.1 5 i 0).toNatClampNeg x4) 10 i (S.1 5 i 0).toNatClampNeg (-1)) 5 i 0 (S.1 5 i 0 + 1)) else none) else none) else none) else none) = _
  rw [h5, inB_nI ha (by omega), nI_clamp (by omega), nI_1]
  rfl
theorem q_appendAll {n : Nat} {S : CSt} {i i2 a b : Nat} (hn : 6 < n) (hi : i ≠ i2) (hab : a + b ≤ 6) (h5 : S.1 5 i 0 = nI a) (h52 : S.1 5 i2 0 = nI b) : m_X4_appendAll n S i i2 = some (apS S i i2 a b) := by
  have h : lpO (b_X4_appendAll_2 n i i2) n (S, 0) = some (apS S i i2 a b) := by
    refine ok_get (ok_for2 (N := b) (by omega) (I := fun k T => T = apS S i i2 a k) (fun k T hk hT => ?_) ?_)
    · have hne : ∀ g, T.1 g i2 = S.1 g i2 := fun g => by
        funext l
        rw [hT, apS_at, if_neg (fun h => hi h.1.symm)]
      have h5T : T.1 5 i 0 = nI (a + k) := by
        rw [hT, apS_at, if_pos ⟨rfl, by omega, by omega⟩, if_neg (by omega), if_neg (by omega), if_pos ⟨rfl, rfl⟩]
      unfold b_X4_appendAll_2
      show Ok (if T.1 5 i2 0 ≤ nI k then _ else (bif inB (nI k) 6 then (bif inB (nI k) 6 then (bif inB (nI k) 6 then (bif inB (nI k) 6 then ((m_X4_append n T i (T.1 6 i2 (nI k).toNatClampNeg) (T.1 7 i2 (nI k).toNatClampNeg) (T.1 8 i2 (nI k).toNatClampNeg) (T.1 9 i2 (nI k).toNatClampNeg)).bind _) else none) else none) else none) else none)) _
      rw [hne 5, hne 6, hne 7, hne 8, hne 9, h52, nI_clamp (by omega), Ok_ite]
      refine ⟨fun h => ?_, fun h => ?_⟩
      · have e : k = b := ge_eq (by omega) hk h
        rw [Ok_some, ← e]
        exact hT
      · have hk2 : k < b := nge_lt (by omega) hk h
        rw [inB_nI (by omega : k < 6) (by omega), q_append (by omega) h5T]
        refine ⟨_, rfl, hk2, nI_1 k, ?_⟩
        show sI (sI (sI (sI (sI (sI T 6 i (a + k) _) 7 i (a + k) _) 8 i (a + k) _) 9 i (a + k) _) 10 i (a + k) (-1)) 5 i 0 (nI (a + k + 1)) = _
        rw [hT]
        refine Prod.ext (funext fun g => funext fun j => funext fun l => ?_) rfl
        simp only [sI_at, apS_at]
        by_cases ej : j = i
        · subst ej
          by_cases e5 : g = 5
          · subst e5
            by_cases el : l = 0
            · subst el
              simp
              rfl
            · simp [el]
          · by_cases e6 : g = 6
            · subst e6
              by_cases el : l = a + k
              · subst el; simp
              · have : (a ≤ l ∧ l < a + (k + 1)) ↔ (a ≤ l ∧ l < a + k) := by omega
                simp [el, this]
            · by_cases e7 : g = 7
              · subst e7
                by_cases el : l = a + k
                · subst el; simp
                · have : (a ≤ l ∧ l < a + (k + 1)) ↔ (a ≤ l ∧ l < a + k) := by omega
                  simp [el, this]
              · by_cases e8 : g = 8
                · subst e8
                  by_cases el : l = a + k
                  · subst el; simp
                  · have : (a ≤ l ∧ l < a + (k + 1)) ↔ (a ≤ l ∧ l < a + k) := by omega
                    simp [el, this]
                · by_cases e9 : g = 9
                  · subst e9
                    by_cases el : l = a + k
                    · subst el; simp
                    · have : (a ≤ l ∧ l < a + (k + 1)) ↔ (a ≤ l ∧ l < a + k) := by omega
                      simp [el, this]
                  · by_cases e10 : g = 10
                    · subst e10
                      by_cases el : l = a + k
                      · subst el; simp
                      · have : (a ≤ l ∧ l < a + (k + 1)) ↔ (a ≤ l ∧ l < a + k) := by omega
                        simp [el, this]
                    · have hg : ¬ (5 ≤ g ∧ g ≤ 10) := by omega
                      simp [e5, e6, e7, e8, e9, e10, hg]
        · simp [ej]
    · refine Prod.ext (funext fun g => funext fun j => funext fun l => ?_) rfl
      rw [apS_at]
      by_cases h : j = i ∧ 5 ≤ g ∧ g ≤ 10
      · rw [if_pos h, if_neg (by omega), if_neg (by omega)]
        by_cases h2 : g = 5 ∧ l = 0
        · rw [if_pos h2, h2.1, h2.2, h.1, h5]
          rfl
        · rw [if_neg h2]
      · rw [if_neg h]
  unfold m_X4_appendAll
  rw [h]
  rfl
/-- shape i becomes the first m fields of shape i2 -/
def cpS (S : CSt) (i i2 m : Nat) : CSt := apS (sI S 5 i 0 0) i i2 0 m
theorem cpS_at (S : CSt) (i i2 m g j l : Nat) (hi : i ≠ i2) : (cpS S i i2 m).1 g j l = if j = i ∧ 5 ≤ g ∧ g ≤ 10 then (if 6 ≤ g ∧ g ≤ 9 ∧ l < m then S.1 g i2 l else if g = 10 ∧ l < m then -1 else if g = 5 ∧ l = 0 then nI m else S.1 g j l) else S.1 g j l := by
  unfold cpS
  rw [apS_at, sI_at, sI_at]
  by_cases h : j = i ∧ 5 ≤ g ∧ g ≤ 10
  · rw [if_pos h, if_pos h]
    by_cases h1 : 6 ≤ g ∧ g ≤ 9 ∧ l < m
    · rw [if_pos h1, if_pos ⟨h1.1, h1.2.1, by omega, by omega⟩, if_neg (by omega)]
      rfl
    · rw [if_neg h1, if_neg (by omega)]
      by_cases h2 : g = 10 ∧ l < m
      · rw [if_pos h2, if_pos ⟨h2.1, by omega, by omega⟩]
      · rw [if_neg h2, if_neg (by omega)]
        by_cases h3 : g = 5 ∧ l = 0
        · rw [if_pos h3, if_pos h3, Nat.zero_add]
        · rw [if_neg h3, if_neg h3, if_neg (fun h4 => h3 ⟨h4.1, h4.2.2⟩)]
  · rw [if_neg h, if_neg h, if_neg (fun h4 => h ⟨h4.2.1, by omega, by omega⟩)]
theorem q_copyFrom {n : Nat} {S : CSt} {i i2 m : Nat} (hn : 6 < n) (hi : i ≠ i2) (hm : m ≤ 6) (h52 : S.1 5 i2 0 = nI m) : m_X4_copyFrom n S i i2 = some (cpS S i i2 m) := by
  unfold m_X4_copyFrom
  show (m_X4_appendAll n (sI S 5 i 0 0) i i2).bind _ = _
  rw [q_appendAll hn hi (by omega : 0 + m ≤ 6) (by rw [sI_eq]; rfl) (by rw [sI_at, if_neg (fun h => hi h.2.1.symm)]; exact h52)]
  rfl
theorem cpS_sh (S : CSt) {i i2 m : Nat} (hi : i ≠ i2) : (cpS S i i2 m).1 5 i 0 = nI m ∧ ∀ k, k < m → (cpS S i i2 m).1 6 i k = S.1 6 i2 k ∧ (cpS S i i2 m).1 7 i k = S.1 7 i2 k ∧ (cpS S i i2 m).1 8 i k = S.1 8 i2 k ∧ (cpS S i i2 m).1 9 i k = S.1 9 i2 k := by
  refine ⟨?_, fun k hk => ⟨?_, ?_, ?_, ?_⟩⟩
  · rw [cpS_at _ _ _ _ _ _ _ hi, if_pos ⟨rfl, by omega, by omega⟩, if_neg (by omega), if_neg (by omega), if_pos ⟨rfl, rfl⟩]
  all_goals rw [cpS_at _ _ _ _ _ _ _ hi, if_pos ⟨rfl, by omega, by omega⟩, if_pos ⟨by omega, by omega, hk⟩]
theorem cpS_ne (S : CSt) {i i2 m g j l : Nat} (hi : i ≠ i2) (hj : j ≠ i) : (cpS S i i2 m).1 g j l = S.1 g j l := by
  rw [cpS_at _ _ _ _ _ _ _ hi, if_neg (fun h => hj h.1)]
