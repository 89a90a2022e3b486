/-! ===== whether the words are a formula ===== -/
theorem rgt_le (f : Nat → Int32) : ∀ k h, rgt f k = some h → h ≤ k
  | 0, h, e => by
    have : 0 = h := Option.some.inj e
    omega
  | k + 1, h, e => by
    unfold rgt at e
    cases e1 : rgt f k with
    | none => rw [e1] at e; cases e
    | some h1 =>
      rw [e1] at e
      have := rgt_le f k h1 e1
      by_cases h2 : tk (f k) ≤ h1
      · have e : (if tk (f k) ≤ h1 then some (h1 + 1 - tk (f k)) else none) = some h := e
        rw [if_pos h2] at e
        have := Option.some.inj e
        omega
      · have e : (if tk (f k) ≤ h1 then some (h1 + 1 - tk (f k)) else none) = some h := e
        rw [if_neg h2] at e; cases e
theorem rgt_cong {f g : Nat → Int32} : ∀ {k : Nat}, (∀ i, i < k → f i = g i) → rgt f k = rgt g k
  | 0, _ => rfl
  | k + 1, h => by
    unfold rgt
    rw [rgt_cong (k := k) (fun i hi => h i (by omega)), h k (by omega)]
theorem rgt_t {f : Nat → Int32} {k h : Nat} (h1 : rgt f k = some h) (h2 : tk (f k) ≤ h) : rgt f (k + 1) = some (h + 1 - tk (f k)) := by
  show (match rgt f k with | none => none | some h => if tk (f k) ≤ h then some (h + 1 - tk (f k)) else none) = _
  rw [h1]
  exact if_pos h2
theorem rgt_f {f : Nat → Int32} {k h : Nat} (h1 : rgt f k = some h) (h2 : ¬ tk (f k) ≤ h) : rgt f (k + 1) = none := by
  show (match rgt f k with | none => none | some h => if tk (f k) ≤ h then some (h + 1 - tk (f k)) else none) = _
  rw [h1]
  exact if_neg h2
theorem rgt_n {f : Nat → Int32} {k : Nat} (h1 : rgt f k = none) : rgt f (k + 1) = none := by
  show (match rgt f k with | none => none | some h => if tk (f k) ≤ h then some (h + 1 - tk (f k)) else none) = _
  rw [h1]
theorem rgt_none {f : Nat → Int32} {k : Nat} (h : rgt f k = none) : ∀ d, rgt f (k + d) = none
  | 0 => h
  | d + 1 => rgt_n (rgt_none h d)
theorem tk_cases (x : Int32) : (x = 16 ∧ tk x = 1) ∨ (¬ x = 16 ∧ x < 10 ∧ tk x = 0) ∨ (¬ x = 16 ∧ ¬ x < 10 ∧ x < 16 ∧ tk x = 2) ∨ (¬ x = 16 ∧ ¬ x < 16 ∧ tk x = 0) := by
  unfold tk
  by_cases h : x = 16
  · exact Or.inl ⟨h, if_pos h⟩
  · rw [if_neg h]
    by_cases h1 : x < 10
    · exact Or.inr (Or.inl ⟨h, h1, if_neg (fun h2 => Int32.not_lt.mpr h2.1 h1)⟩)
    · by_cases h2 : x < 16
      · exact Or.inr (Or.inr (Or.inl ⟨h, h1, h2, if_pos ⟨Int32.not_lt.mp h1, h2⟩⟩))
      · exact Or.inr (Or.inr (Or.inr ⟨h, h2, if_neg (fun h3 => h2 h3.2)⟩))
theorem q_taken (n : Nat) (S : CSt) (x : Int32) : m_X1_takenBy n S x = some (nI (tk x)) := by
  unfold m_X1_takenBy
  rcases tk_cases x with ⟨h, e⟩ | ⟨h, h1, e⟩ | ⟨h, h1, h2, e⟩ | ⟨h, h2, e⟩
  · rw [if_neg (fun h2 => h2 h), e]; rfl
  · rw [if_pos h, if_pos h1, e]; rfl
  · rw [if_pos h, if_neg h1, if_neg (Int32.not_le.mpr h2), e]; rfl
  · rw [if_pos h, if_neg (fun h1 => h2 (Int32.lt_of_lt_of_le h1 (by decide))), if_pos (Int32.not_lt.mp h2), e]; rfl
theorem up_tk {h t : Nat} (ht : t ≤ h) : nI h + (1 - nI t) = nI (h + 1 - t) := by
  have : nI h + (1 - nI t) = nI (h + 1) - nI t := by
    rw [← nI_1]
    have e : (1 : Int32) - nI t = 1 + -nI t := Int32.sub_eq_add_neg _ _
    have e2 : nI h + 1 - nI t = nI h + 1 + -nI t := Int32.sub_eq_add_neg _ _
    rw [e, e2, Int32.add_assoc]
  rw [this, pk_sub (by omega)]
theorem q_isRight {n : Nat} {S : CSt} {w : Nat} (hn : 12 < n) (hw : w ≤ 12) (h20 : S.1 20 6 0 = nI w) : m_X1_isRight n S 6 = some (if rgt (S.1 21 6) w = some 1 then 1 else 0) := by
  have h : Ok (lpO (b_X1_isRight_4 n S 6) n (0, 0)) (sumE (fun _ => rgt (S.1 21 6) w = none) (fun v => ∃ h, rgt (S.1 21 6) w = some h ∧ v = nI h)) := by
    refine ok_for2 (N := w) (by omega) (I := fun k a => ∃ h, rgt (S.1 21 6) k = some h ∧ a = nI h) (fun k a hk ha => ?_) ⟨0, rfl, rfl⟩
    obtain ⟨h, h1, h2⟩ := ha
    have hle := rgt_le _ _ _ h1
    unfold b_X1_isRight_4
    rw [h20, Ok_ite]
    refine ⟨fun h3 => ?_, fun h3 => ?_⟩
    · have e : k = w := ge_eq (by omega) hk h3
      rw [Ok_some]
      exact ⟨h, by rw [← e]; exact h1, h2⟩
    · have hk2 : k < w := nge_lt (by omega) hk h3
      have htk : tk (S.1 21 6 k) ≤ 2 := by
        rcases tk_cases (S.1 21 6 k) with ⟨-, e⟩ | ⟨-, -, e⟩ | ⟨-, -, -, e⟩ | ⟨-, -, e⟩ <;> omega
      rw [Ok_bif, nI_clamp (by omega), q_taken, Ok_bind, Ok_some, Ok_ite]
      refine ⟨inB_nI (by omega) (by omega), fun h4 => ?_, fun h4 => ?_⟩
      · have h5 : tk (S.1 21 6 k) ≤ h := by
          have h4' : nI (tk (S.1 21 6 k)) ≤ a := h4
          rw [h2] at h4'
          exact (nI_leI (by omega) (by omega)).mp h4'
        rw [Ok_nm, Ok_nm, Ok_some]
        refine ⟨hk2, nI_1 k, h + 1 - tk (S.1 21 6 k), rgt_t h1 h5, ?_⟩
        show a + (1 - _) = _
        rw [h2, up_tk h5]
      · rw [Ok_some]
        have h5 : ¬ tk (S.1 21 6 k) ≤ h := fun h6 => h4 (by show nI _ ≤ a; rw [h2]; exact nI_le h6 (by omega))
        have h6 := rgt_none (rgt_f h1 h5) (w - (k + 1))
        rw [show k + 1 + (w - (k + 1)) = w by omega] at h6
        exact h6
  obtain ⟨o, ho, hq⟩ := h
  unfold m_X1_isRight
  rw [ho]
  cases o with
  | inl v =>
    have hq' : rgt (S.1 21 6) w = none := hq
    rw [hq']
    rfl
  | inr v =>
    obtain ⟨h, h1, h2⟩ := hq
    have hle := rgt_le _ _ _ h1
    show (if ¬ v = 1 then some 0 else some 1) = _
    rw [h1, h2]
    by_cases e : h = 1
    · rw [e]; rfl
    · rw [if_pos (show ¬ nI h = 1 from fun h3 => e ((nI_eq (a := h) (b := 1) (by omega) (by decide)).mp h3)), if_neg (fun h3 => e (Option.some.inj h3))]
theorem p_isRight {n : Nat} {M : MSt} {w : Nat} (hn : 12 < n) (hw : w ≤ 12) (h20 : M.1 20 0 = nI w) (hW : ∀ k, k < w → isW (M.1 21 k)) : m_X8_isRight n M = some (if rgt (M.1 21) w = some 1 then 1 else 0) := by
  have h : Ok (lpO (b_X8_isRight_6 n M) n (0, 1, 0)) (fun v => (v.2 = 1 ∧ ∃ h, rgt (M.1 21) w = some h ∧ v.1 = nI h) ∨ (v.2 = 0 ∧ rgt (M.1 21) w = none)) := by
    refine ok_for3 (N := w) (by omega) (I := fun k a b => (b = 1 ∧ ∃ h, rgt (M.1 21) k = some h ∧ a = nI h) ∨ (b = 0 ∧ rgt (M.1 21) k = none)) (fun k a b hk hab => ?_) (Or.inl ⟨rfl, 0, rfl, rfl⟩)
    unfold b_X8_isRight_6
    rw [h20, Ok_ite]
    refine ⟨fun h3 => ?_, fun h3 => ?_⟩
    · have e : k = w := ge_eq (by omega) hk h3
      rw [Ok_some, ← e]
      exact hab
    · have hk2 : k < w := nge_lt (by omega) hk h3
      have htk : tk (M.1 21 k) ≤ 2 := by
        rcases tk_cases (M.1 21 k) with ⟨-, e⟩ | ⟨-, -, e⟩ | ⟨-, -, -, e⟩ | ⟨-, -, e⟩ <;> omega
      have key : Ok (m_X8_isRight_J56 n M a b (nI k) (nI (tk (M.1 21 k)))) (sumE (fun y => k < w ∧ y.2.2 = nI (k + 1) ∧ ((y.2.1 = 1 ∧ ∃ h, rgt (M.1 21) (k + 1) = some h ∧ y.1 = nI h) ∨ (y.2.1 = 0 ∧ rgt (M.1 21) (k + 1) = none))) (fun v => (v.2 = 1 ∧ ∃ h, rgt (M.1 21) w = some h ∧ v.1 = nI h) ∨ (v.2 = 0 ∧ rgt (M.1 21) w = none))) := by
        unfold m_X8_isRight_J56
        rw [Ok_ite]
        refine ⟨fun h4 => ?_, fun h4 => ?_⟩
        · rcases hab with ⟨h5, -⟩ | ⟨-, h5⟩
          · rw [h5] at h4; exact absurd h4 one_ne
          · unfold m_X8_isRight_J72 m_X8_isRight_J73
            rw [Ok_nm, Ok_nm, Ok_some]
            exact ⟨hk2, nI_1 k, Or.inr ⟨rfl, rgt_n h5⟩⟩
        · obtain ⟨-, h, h5, h6⟩ := hab.resolve_right (fun h => h4 h.1)
          have hle := rgt_le _ _ _ h5
          rw [Ok_ite]
          refine ⟨fun h7 => ?_, fun h7 => ?_⟩
          · unfold m_X8_isRight_J72 m_X8_isRight_J73
            rw [Ok_nm, Ok_nm, Ok_some]
            refine ⟨hk2, nI_1 k, Or.inr ⟨rfl, rgt_f h5 (fun h8 => ?_)⟩⟩
            rw [h6] at h7
            exact nI_nlt h8 (by omega) h7
          · unfold m_X8_isRight_J73
            have h8 : tk (M.1 21 k) ≤ h := by
              rw [h6] at h7
              exact Nat.not_lt.mp (fun h9 => h7 (nI_lt h9 (by omega)))
            rw [Ok_nm, Ok_nm, Ok_some]
            refine ⟨hk2, nI_1 k, Or.inl ⟨rfl, h + 1 - tk (M.1 21 k), rgt_t h5 h8, ?_⟩⟩
            show a + (1 - _) = _
            rw [h6, up_tk h8]
      have hWk := hW k hk2
      unfold isW at hWk
      rw [Ok_bif, nI_clamp (by omega), Ok_ite]
      refine ⟨inB_nI (by omega) (by omega), fun h4 => ?_, fun h4 => ?_⟩
      · rcases tk_cases (M.1 21 k) with ⟨h, e⟩ | ⟨h, h1, e⟩ | ⟨h, h1, h2, e⟩ | ⟨h, h2, e⟩
        · rw [h] at h4; exact absurd h4 (by decide)
        · rw [e] at key; exact key
        · exact absurd h4 h1
        · exact absurd (Int32.lt_of_lt_of_le h4 (by decide)) h2
      · rw [Ok_bif, Ok_ite]
        refine ⟨inB_nI (by omega) (by omega), fun h5 => ?_, fun h5 => ?_⟩
        · rw [Ok_bif, Ok_ite]
          refine ⟨inB_nI (by omega) (by omega), fun h6 => ?_, fun h6 => ?_⟩
          · rcases tk_cases (M.1 21 k) with ⟨h, e⟩ | ⟨h, h1, e⟩ | ⟨h, h1, h2, e⟩ | ⟨h, h2, e⟩
            · exact absurd h h6
            · exact absurd h1 h4
            · rw [e] at key; exact key
            · exfalso
              simp only [Int32.lt_iff_toInt_lt, Int32.le_iff_toInt_le, Int32.reduceToInt, ← Int32.toInt_inj] at hWk h5 h2 h6
              omega
          · have h6 := Decidable.not_not.mp h6
            rcases tk_cases (M.1 21 k) with ⟨h, e⟩ | ⟨h, h1, e⟩ | ⟨h, h1, h2, e⟩ | ⟨h, h2, e⟩
            · rw [e] at key; exact key
            · exact absurd h6 h
            · exact absurd h6 h
            · exact absurd h6 h
        · rcases tk_cases (M.1 21 k) with ⟨h, e⟩ | ⟨h, h1, e⟩ | ⟨h, h1, h2, e⟩ | ⟨h, h2, e⟩
          · rw [h] at h5; exact absurd (by decide) h5
          · exact absurd h1 h4
          · exact absurd (Int32.lt_of_lt_of_le h2 (by decide)) h5
          · rw [e] at key; exact key
  obtain ⟨v, hv, hq⟩ := h
  unfold m_X8_isRight
  rw [hv, Option.bind_some]
  rcases hq with ⟨h1, h, h2, h3⟩ | ⟨h1, h2⟩
  · have hle := rgt_le _ _ _ h2
    rw [if_neg (by rw [h1]; exact one_ne), h2, h3]
    by_cases e : h = 1
    · rw [e]; rfl
    · rw [if_pos (show ¬ nI h = 1 from fun h3 => e ((nI_eq (a := h) (b := 1) (by omega) (by decide)).mp h3)), if_neg (fun h3 => e (Option.some.inj h3))]
  · rw [if_pos h1, h2]
    rfl
/-! ===== whether it is a step ===== -/
def SC (K : Nat) (R : Prop) (kd a b c d : Int32) : Prop := (∃ x, x < 10 ∧ a = nI x) ∧ (kd = 0 ∨ kd = 6 ∨ (kd = 1 ∧ ∃ x, x < 10 ∧ b = nI x) ∨ (kd = 2 ∧ (b ≤ c ∧ (-1000000) ≤ b ∧ c ≤ 1000000) ∧ R) ∨ (kd = 3 ∧ (b ≤ c ∧ (-1000000) ≤ b ∧ c ≤ 1000000) ∧ (d = 0 ∨ d = 1)) ∨ (kd = 4 ∧ ∃ x, x < K ∧ b = nI x) ∨ (kd = 5 ∧ (∃ x, x < K ∧ b = nI x) ∧ 1 ≤ c ∧ c ≤ 1023))
theorem q_isRange (n : Nat) (S : CSt) (b c : Int32) : m_X7_isRange n S b c = some (if b ≤ c ∧ (-1000000) ≤ b ∧ c ≤ 1000000 then 1 else 0) := by
  unfold m_X7_isRange
  by_cases h1 : b < (-1000000)
  · rw [if_pos h1, if_neg (fun h => Int32.not_lt.mpr h.2.1 h1)]
  · rw [if_neg h1]
    by_cases h2 : c < b
    · rw [if_pos h2, if_neg (fun h => Int32.not_lt.mpr h.1 h2)]
    · rw [if_neg h2]
      by_cases h3 : 1000000 < c
      · rw [if_pos h3, if_neg (fun h => Int32.not_lt.mpr h.2.2 h3)]
      · rw [if_neg h3, if_pos ⟨Int32.not_lt.mp h2, Int32.not_lt.mp h1, Int32.not_lt.mp h3⟩]
theorem q_isStep {n : Nat} {S : CSt} {K w : Nat} (hn : 12 < n) (hw : w ≤ 12) (h20 : S.1 20 6 0 = nI w) (hK : S.1 0 0 0 = nI K) (hK4 : K ≤ 4) (kd a b c d : Int32) : (m_X7_isStep n S kd a b c d = some 1 ∧ SC K (rgt (S.1 21 6) w = some 1) kd a b c d) ∨ (m_X7_isStep n S kd a b c d = some 0 ∧ ¬ SC K (rgt (S.1 21 6) w = some 1) kd a b c d) := by
  unfold m_X7_isStep SC
  rcases nI_lt3 (x := a) (N := 10) (by decide) with ha | ⟨hne, ha⟩
  · obtain ⟨x, hx, e⟩ := id ha
    rw [e, q_isName n S hx, Option.bind_some, if_pos one_ne, ← e]
    by_cases k0 : kd = 0
    · rw [if_pos k0]
      exact Or.inl ⟨rfl, ha, Or.inl k0⟩
    rw [if_neg k0]
    by_cases k1 : kd = 1
    · rw [if_pos k1]
      subst k1
      rcases nI_lt3 (x := b) (N := 10) (by decide) with hb | ⟨hne, hb⟩
      · obtain ⟨y, hy, e⟩ := id hb
        rw [e, q_isName n S hy, ← e]
        exact Or.inl ⟨rfl, ha, Or.inr (Or.inr (Or.inl ⟨rfl, hb⟩))⟩
      · rw [q_isName0 n S hb]
        refine Or.inr ⟨rfl, fun h => hne ?_⟩
        simpa using h.2
    rw [if_neg k1]
    by_cases k2 : kd = 2
    · rw [if_pos k2, q_isRange, Option.bind_some]
      subst k2
      by_cases hr : b ≤ c ∧ (-1000000) ≤ b ∧ c ≤ 1000000
      · rw [if_pos hr, if_neg one_ne, q_isRight hn hw h20, Option.bind_some]
        by_cases hR : rgt (S.1 21 6) w = some 1
        · rw [if_pos hR, if_neg one_ne]
          exact Or.inl ⟨rfl, ha, Or.inr (Or.inr (Or.inr (Or.inl ⟨rfl, hr, hR⟩)))⟩
        · rw [if_neg hR]
          refine Or.inr ⟨rfl, fun h => hR ?_⟩
          have h2 := h.2
          simp at h2
          exact h2.2
      · rw [if_neg hr]
        refine Or.inr ⟨rfl, fun h => hr ?_⟩
        have h2 := h.2
        simp only [(by decide : ¬ (2 : Int32) = 0), (by decide : ¬ (2 : Int32) = 1), (by decide : ¬ (2 : Int32) = 3), (by decide : ¬ (2 : Int32) = 4), (by decide : ¬ (2 : Int32) = 5), (by decide : ¬ (2 : Int32) = 6), false_and, false_or, or_false, true_and] at h2
        exact h2.1
    rw [if_neg k2]
    by_cases k3 : kd = 3
    · rw [if_pos k3, q_isRange, Option.bind_some]
      subst k3
      have simp3 : ((3 : Int32) = 0 ∨ (3 : Int32) = 6 ∨ ((3 : Int32) = 1 ∧ ∃ x, x < 10 ∧ b = nI x) ∨ ((3 : Int32) = 2 ∧ (b ≤ c ∧ (-1000000) ≤ b ∧ c ≤ 1000000) ∧ rgt (S.1 21 6) w = some 1) ∨ ((3 : Int32) = 3 ∧ (b ≤ c ∧ (-1000000) ≤ b ∧ c ≤ 1000000) ∧ (d = 0 ∨ d = 1)) ∨ ((3 : Int32) = 4 ∧ ∃ x, x < K ∧ b = nI x) ∨ ((3 : Int32) = 5 ∧ (∃ x, x < K ∧ b = nI x) ∧ 1 ≤ c ∧ c ≤ 1023)) → (b ≤ c ∧ (-1000000) ≤ b ∧ c ≤ 1000000) ∧ (d = 0 ∨ d = 1) := fun h2 => by
        simp only [(by decide : ¬ (3 : Int32) = 0), (by decide : ¬ (3 : Int32) = 1), (by decide : ¬ (3 : Int32) = 2), (by decide : ¬ (3 : Int32) = 4), (by decide : ¬ (3 : Int32) = 5), (by decide : ¬ (3 : Int32) = 6), false_and, false_or, or_false, true_and] at h2
        exact h2
      by_cases hr : b ≤ c ∧ (-1000000) ≤ b ∧ c ≤ 1000000
      · rw [if_pos hr, if_neg one_ne]
        by_cases d0 : d = 0
        · rw [if_pos d0]
          exact Or.inl ⟨rfl, ha, Or.inr (Or.inr (Or.inr (Or.inr (Or.inl ⟨rfl, hr, Or.inl d0⟩))))⟩
        · rw [if_neg d0]
          by_cases d1 : d = 1
          · rw [if_neg (fun h => h d1)]
            exact Or.inl ⟨rfl, ha, Or.inr (Or.inr (Or.inr (Or.inr (Or.inl ⟨rfl, hr, Or.inr d1⟩))))⟩
          · rw [if_pos d1]
            refine Or.inr ⟨rfl, fun h => ?_⟩
            rcases (simp3 h.2).2 with h | h
            · exact d0 h
            · exact d1 h
      · rw [if_neg hr]
        exact Or.inr ⟨rfl, fun h => hr (simp3 h.2).1⟩
    rw [if_neg k3]
    by_cases k4 : kd = 4
    · rw [if_pos k4]
      subst k4
      rcases nI_lt3 (x := b) (N := K) (by omega) with hb | ⟨hne, hb⟩
      · obtain ⟨y, hy, e⟩ := id hb
        rw [e, q_isClass n hK hK4 hy, ← e]
        exact Or.inl ⟨rfl, ha, Or.inr (Or.inr (Or.inr (Or.inr (Or.inr (Or.inl ⟨rfl, hb⟩)))))⟩
      · rw [q_isClass0 n hK hb]
        refine Or.inr ⟨rfl, fun h => hne ?_⟩
        simpa using h.2
    rw [if_neg k4]
    by_cases k5 : kd = 5
    · rw [if_pos k5]
      subst k5
      have simp5 : ((5 : Int32) = 0 ∨ (5 : Int32) = 6 ∨ ((5 : Int32) = 1 ∧ ∃ x, x < 10 ∧ b = nI x) ∨ ((5 : Int32) = 2 ∧ (b ≤ c ∧ (-1000000) ≤ b ∧ c ≤ 1000000) ∧ rgt (S.1 21 6) w = some 1) ∨ ((5 : Int32) = 3 ∧ (b ≤ c ∧ (-1000000) ≤ b ∧ c ≤ 1000000) ∧ (d = 0 ∨ d = 1)) ∨ ((5 : Int32) = 4 ∧ ∃ x, x < K ∧ b = nI x) ∨ ((5 : Int32) = 5 ∧ (∃ x, x < K ∧ b = nI x) ∧ 1 ≤ c ∧ c ≤ 1023)) → (∃ x, x < K ∧ b = nI x) ∧ 1 ≤ c ∧ c ≤ 1023 := fun h2 => by
        simp only [(by decide : ¬ (5 : Int32) = 0), (by decide : ¬ (5 : Int32) = 1), (by decide : ¬ (5 : Int32) = 2), (by decide : ¬ (5 : Int32) = 4), (by decide : ¬ (5 : Int32) = 3), (by decide : ¬ (5 : Int32) = 6), false_and, false_or, or_false, true_and] at h2
        exact h2
      rcases nI_lt3 (x := b) (N := K) (by omega) with hb | ⟨hne, hb⟩
      · obtain ⟨y, hy, e⟩ := id hb
        rw [e, q_isClass n hK hK4 hy, ← e, Option.bind_some, if_neg one_ne]
        by_cases c1 : c < 1
        · rw [if_pos c1]
          exact Or.inr ⟨rfl, fun h => Int32.not_lt.mpr (simp5 h.2).2.1 c1⟩
        · rw [if_neg c1]
          by_cases c2 : 1023 < c
          · rw [if_pos c2]
            exact Or.inr ⟨rfl, fun h => Int32.not_lt.mpr (simp5 h.2).2.2 c2⟩
          · rw [if_neg c2]
            exact Or.inl ⟨rfl, ha, Or.inr (Or.inr (Or.inr (Or.inr (Or.inr (Or.inr ⟨rfl, hb, Int32.not_lt.mp c1, Int32.not_lt.mp c2⟩)))))⟩
      · rw [q_isClass0 n hK hb]
        exact Or.inr ⟨rfl, fun h => hne (simp5 h.2).1⟩
    rw [if_neg k5]
    by_cases k6 : kd = 6
    · rw [if_pos k6]
      exact Or.inl ⟨rfl, ha, Or.inr (Or.inl k6)⟩
    rw [if_neg k6]
    refine Or.inr ⟨rfl, fun h => ?_⟩
    rcases h.2 with h | h | h | h | h | h | h
    · exact k0 h
    · exact k6 h
    · exact k1 h.1
    · exact k2 h.1
    · exact k3 h.1
    · exact k4 h.1
    · exact k5 h.1
  · rw [q_isName0 n S ha]
    exact Or.inr ⟨rfl, fun h => hne h.1⟩
