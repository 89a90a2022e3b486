/-! ===== takeBack, the class's ===== -/
/-- what a remembered value comes back as -/
def bk (S : CSt) (i e l : Nat) (v : Int32) : Prop := (S.1 7 i l = 0 ∧ v = S.1 18 e l) ∨ (S.1 7 i l ≠ 0 ∧ (∃ e', e' < 24 ∧ S.1 13 e' 0 ≠ 0 ∧ S.1 13 e' 0 = S.1 18 e l) ∧ v = S.1 18 e l) ∨ (S.1 7 i l ≠ 0 ∧ (∀ e', e' < 24 → S.1 13 e' 0 ≠ 0 → S.1 13 e' 0 ≠ S.1 18 e l) ∧ v = 0)
theorem q_restore {n : Nat} {S : CSt} {e i m : Nat} {g : Nat → Int32} (hn : 24 < n) (hm : m ≤ 6) (h5 : S.1 5 i 0 = nI m) (hd : ∀ e', e' < 24 → S.1 13 e' 0 ≠ 0 → ∀ e'', e'' < 24 → S.1 13 e' 0 = S.1 13 e'' 0 → e' = e'') (hv : ∀ l, l < m → bk S i e l (g l)) : m_X7_restore n S e i = some (sF S 17 (fun j l => if j = e ∧ l < m then g l else S.1 17 j l)) := by
  have h : lpO (b_X7_restore_2 n e i) n (S, 0) = some (sF S 17 (fun j l => if j = e ∧ l < m then g l else S.1 17 j l)) := by
    refine ok_get (ok_for2 (N := m) (by omega) (I := fun k T => T = sF S 17 (fun j l => if j = e ∧ l < k then g l else S.1 17 j l)) (fun k T hk hT => ?_) (sF_self S 17 (funext fun j => funext fun l => if_neg (fun h => absurd h.2 (Nat.not_lt_zero _)))))
    have e5 : T.1 5 = S.1 5 := by rw [hT]; rfl
    have e7 : T.1 7 = S.1 7 := by rw [hT]; rfl
    have e13 : T.1 13 = S.1 13 := by rw [hT]; rfl
    have e18 : T.1 18 = S.1 18 := by rw [hT]; rfl
    unfold b_X7_restore_2
    dsimp only
    rw [e5, h5, e18, Ok_ite]
    refine ⟨fun h => ?_, fun h => ?_⟩
    · have e : k = m := ge_eq (by omega) hk h
      rw [Ok_some]
      rw [e] at hT
      exact hT
    · have hk2 : k < m := nge_lt (by omega) hk h
      have fin : ∀ v : Int32, v = g k → Ok (m_X7_restore_J61 n T e i (nI k) e (nI k) v) (sumE (fun y => k < m ∧ y.2 = nI (k + 1) ∧ y.1 = sF S 17 (fun j l => if j = e ∧ l < k + 1 then g l else S.1 17 j l)) (fun b => b = sF S 17 (fun j l => if j = e ∧ l < m then g l else S.1 17 j l))) := fun v hv => by
        unfold m_X7_restore_J61
        rw [Ok_bif, Ok_nm, Ok_nm, Ok_some, nI_clamp (by omega)]
        refine ⟨inB_nI (by omega) (by omega), hk2, nI_1 k, ?_⟩
        show sI T 17 e k v = _
        rw [hT]
        refine sI_sF _ _ _ _ _ _ _ (fun j l => ?_)
        by_cases h : j = e ∧ l = k
        · rw [if_pos ⟨h.1, by omega⟩, if_pos h, hv, h.2]
        · rw [if_neg h]
          have : (j = e ∧ l < k + 1) ↔ (j = e ∧ l < k) := by omega
          simp only [this]
      rw [Ok_bif, nI_clamp (by omega), Ok_nm, q_isRef hm (by rw [e5]; exact h5) hk2, Ok_bind, Ok_some, e7, Ok_ite]
      refine ⟨inB_nI (by omega) (by omega), fun h2 => ?_, fun h2 => ?_⟩
      · have h3 : S.1 7 i k = 0 := Decidable.byContradiction (fun h3 => by rw [if_neg h3] at h2; exact one_ne h2)
        unfold m_X7_restore_J42 m_X7_restore_J43
        rw [if_pos rfl]
        refine fin _ ?_
        rcases hv k hk2 with h4 | h4 | h4
        · exact h4.2.symm
        · exact absurd h3 h4.1
        · exact absurd h3 h4.1
      · have h3 : ¬ S.1 7 i k = 0 := fun h3 => h2 (if_pos h3)
        rcases hv k hk2 with h4 | ⟨-, ⟨e', h4, h5, h6⟩, h7⟩ | ⟨-, h4, h5⟩
        · exact absurd h4.1 h3
        · have hf : m_X6_find n T (S.1 18 e k) = some (some e') := by
            rw [← h6, ← e13]
            exact q_findS hn h4 (by rw [e13]; exact h5) (by rw [e13]; exact hd)
          rw [hf, Ok_bind, Ok_some]
          show Ok (bif decide (e' < 24) then _ else none) _
          rw [decide_eq_true h4]
          show Ok (m_X7_restore_J42 n T e i (nI k) (S.1 18 e k)) _
          unfold m_X7_restore_J42 m_X7_restore_J43
          rw [if_pos rfl]
          exact fin _ h7.symm
        · have hf : m_X6_find n T (S.1 18 e k) = some none := q_findN hn (by rw [e13]; exact h4)
          rw [hf, Ok_bind, Ok_some]
          show Ok (m_X7_restore_J43 n T e i (nI k) (S.1 18 e k) 1) _
          unfold m_X7_restore_J43
          rw [if_neg one_ne]
          exact fin _ h5.symm
  unfold m_X7_restore
  rw [h]
  rfl
/-- the entries of class c below R are taken back -/
def tbE (C : CSt) (g : Nat → Nat → Int32) (c m R : Nat) : CSt := sF (sF C 15 (fun j l => if j < R ∧ l = 0 ∧ (!decide (C.1 13 j 0 = 0) && decide (C.1 14 j 0 = nI c)) = true ∧ C.1 15 j 0 = C.1 3 c 0 then C.1 15 j 0 - 1 else C.1 15 j l)) 17 (fun j l => if j < R ∧ (!decide (C.1 13 j 0 = 0) && decide (C.1 14 j 0 = nI c)) = true ∧ l < m then g j l else C.1 17 j l)
theorem q_tbL {n : Nat} {C : CSt} {c m : Nat} {g : Nat → Nat → Int32} (hn : 24 < n) (hc : c < 4) (hm : m ≤ 6) (h5 : C.1 5 (2 * c + 1) 0 = nI m) (hd : ∀ e', e' < 24 → C.1 13 e' 0 ≠ 0 → ∀ e'', e'' < 24 → C.1 13 e' 0 = C.1 13 e'' 0 → e' = e'') (hv : ∀ e l, e < 24 → C.1 13 e 0 ≠ 0 → C.1 14 e 0 = nI c → l < m → bk C (2 * c + 1) e l (g e l)) : lpO (b_X7_takeBack_34 n (nI c) c) n (C, 0, 0) = some (tbE C g c m 24, nI (cn (fun e => (!decide (C.1 13 e 0 = 0) && decide (C.1 14 e 0 = nI c)) && decide (C.1 15 e 0 = C.1 3 c 0)) 24)) := by
  refine ok_get (ok_for3 (N := 24) hn (I := fun k S a => S = tbE C g c m k ∧ a = nI (cn (fun e => (!decide (C.1 13 e 0 = 0) && decide (C.1 14 e 0 = nI c)) && decide (C.1 15 e 0 = C.1 3 c 0)) k)) (fun k S a hk hS => ?_) ⟨?_, rfl⟩)
  · obtain ⟨hS, ha⟩ := hS
    have e5 : S.1 5 = C.1 5 := by rw [hS]; rfl
    have e7 : S.1 7 = C.1 7 := by rw [hS]; rfl
    have e13 : S.1 13 = C.1 13 := by rw [hS]; rfl
    have e14 : S.1 14 = C.1 14 := by rw [hS]; rfl
    have e18 : S.1 18 = C.1 18 := by rw [hS]; rfl
    have e3 : S.1 3 = C.1 3 := by rw [hS]; rfl
    have e15 : S.1 15 k 0 = C.1 15 k 0 := by
      rw [hS]
      exact if_neg (fun h => absurd h.1 (Nat.lt_irrefl _))
    unfold b_X7_takeBack_34
    dsimp only
    rw [Ok_ite]
    refine ⟨fun h => ?_, fun h => ?_⟩
    · have e : k = 24 := ge_eq (by decide) hk h
      rw [Ok_some]
      rw [e] at hS ha
      exact Prod.ext hS ha
    · have hk2 : k < 24 := nge_lt (by decide) hk h
      rw [Ok_bif, nI_clamp (by omega), q_isOf, Ok_bind, Ok_some, Ok_ite, e13, e14]
      refine ⟨inB_nI hk2 (by omega), fun h2 => ?_, fun h2 => ?_⟩
      · have hno : ¬ (!decide (C.1 13 k 0 = 0) && decide (C.1 14 k 0 = nI c)) = true := fun h3 => by
          rw [if_pos h3] at h2
          exact absurd h2 one_ne
        rw [Ok_nm, Ok_some]
        refine ⟨hk2, nI_1 k, ?_, ?_⟩
        · show S = _
          rw [hS]
          refine Prod.ext (funext fun f => funext fun j => funext fun l => ?_) rfl
          unfold tbE
          simp only [sF_at2]
          by_cases ej : j = k
          · subst ej
            simp [hno]
          · have h1 : j < k + 1 ↔ j < k := by omega
            simp only [h1]
        · rw [cn_f (fun h3 => hno (by rw [Bool.and_eq_true] at h3; exact h3.1))]
          exact ha
      · have hof : (!decide (C.1 13 k 0 = 0) && decide (C.1 14 k 0 = nI c)) = true := Decidable.byContradiction (fun h3 => h2 (if_neg h3))
        have h4 := hof
        simp only [Bool.and_eq_true, Bool.not_eq_true', decide_eq_false_iff_not, decide_eq_true_eq] at h4
        have hres : m_X7_restore n S k (2 * c + 1) = some (sF S 17 (fun j l => if j = k ∧ l < m then g k l else S.1 17 j l)) := by
          refine q_restore hn hm (by rw [e5]; exact h5) (by rw [e13]; exact hd) (fun l hl => ?_)
          have := hv k l hk2 h4.1 h4.2 hl
          unfold bk at this ⊢
          rw [e7, e13, e18]
          exact this
        rw [hres, Ok_bind, Ok_some]
        show Ok (if ¬ S.1 15 k 0 = S.1 3 c 0 then _ else (nm (sI (sF S 17 (fun j l => if j = k ∧ l < m then g k l else S.1 17 j l)) 15 k 0 (S.1 15 k 0 - 1)) _)) _
        rw [e15, e3, Ok_ite]
        refine ⟨fun h5 => ?_, fun h5 => ?_⟩
        · rw [Ok_nm, Ok_some]
          refine ⟨hk2, nI_1 k, ?_, ?_⟩
          · show sF S 17 (fun j l => if j = k ∧ l < m then g k l else S.1 17 j l) = _
            rw [hS]
            refine Prod.ext (funext fun f => funext fun j => funext fun l => ?_) rfl
            unfold tbE
            simp only [sF_at2]
            by_cases ej : j = k
            · subst ej
              simp only [h5, hof, Nat.lt_irrefl, false_and, and_false, if_false, true_and, Nat.lt_succ_self]
              by_cases f17 : f = 17
              · rw [if_pos f17, if_pos f17, if_pos trivial]
              · rw [if_neg f17, if_neg f17, if_neg f17]
            · have h1 : j < k + 1 ↔ j < k := by omega
              simp only [h1, ej, false_and, if_false, if_true]
              by_cases f17 : f = 17
              · rw [if_pos f17, if_pos f17]
              · rw [if_neg f17, if_neg f17]
          · rw [cn_f (fun h3 => by rw [Bool.and_eq_true] at h3; exact h5 (of_decide_eq_true h3.2))]
            exact ha
        · have h5 := Decidable.not_not.mp h5
          rw [Ok_nm, Ok_nm, Ok_nm, Ok_some]
          refine ⟨hk2, nI_1 k, ?_, ?_⟩
          · show sI (sF S 17 (fun j l => if j = k ∧ l < m then g k l else S.1 17 j l)) 15 k 0 (C.1 15 k 0 - 1) = _
            rw [hS]
            refine Prod.ext (funext fun f => funext fun j => funext fun l => ?_) rfl
            unfold tbE
            simp only [sI_at, sF_at2]
            by_cases ej : j = k
            · subst ej
              simp only [h5, hof, Nat.lt_irrefl, false_and, and_false, if_false, true_and, Nat.lt_succ_self, and_true]
              by_cases f17 : f = 17
              · subst f17
                simp
              · rw [if_neg f17, if_neg f17, if_neg f17]
                by_cases f15 : f = 15
                · subst f15
                  by_cases l0 : l = 0
                  · subst l0; simp
                  · simp [l0]
                · simp [f15]
            · have h1 : j < k + 1 ↔ j < k := by omega
              simp only [h1, ej, false_and, and_false, if_false, if_true]
              by_cases f17 : f = 17
              · rw [if_pos f17, if_pos f17]
              · rw [if_neg f17, if_neg f17]
          · rw [cn_t (by rw [Bool.and_eq_true]; exact ⟨hof, decide_eq_true h5⟩)]
            show a + 1 = _
            rw [ha, nI_1]
  · refine Prod.ext (funext fun f => funext fun j => funext fun l => ?_) rfl
    unfold tbE
    simp only [sF_at2, Nat.not_lt_zero, false_and, if_false]
    by_cases f17 : f = 17
    · subst f17; simp
    · by_cases f15 : f = 15
      · subst f15; simp
      · simp [f17, f15]
theorem q_takeBack {n : Nat} {C : CSt} {c m K : Nat} {g : Nat → Nat → Int32} (hn : 24 < n) (hK : C.1 0 0 0 = nI K) (hK4 : K ≤ 4) (hcK : c < K) (h4 : C.1 4 c 0 = 1) (hm : m ≤ 6) (h5 : C.1 5 (2 * c + 1) 0 = nI m) (hd : ∀ e', e' < 24 → C.1 13 e' 0 ≠ 0 → ∀ e'', e'' < 24 → C.1 13 e' 0 = C.1 13 e'' 0 → e' = e'') (hv : ∀ e l, e < 24 → C.1 13 e 0 ≠ 0 → C.1 14 e 0 = nI c → l < m → bk C (2 * c + 1) e l (g e l)) : m_X7_takeBack n C (nI c) = some (.inl (nI (cn (fun e => (!decide (C.1 13 e 0 = 0) && decide (C.1 14 e 0 = nI c)) && decide (C.1 15 e 0 = C.1 3 c 0)) 24), sI (sI (cpS (tbE C g c m 24) (2 * c) (2 * c + 1) m) 3 c 0 (C.1 3 c 0 - 1)) 4 c 0 0)) := by
  have hc : c < 4 := by omega
  unfold m_X7_takeBack
  rw [q_needClass n hK hK4 hcK]
  show (bif inB (nI c) 4 then _ else none) = _
  rw [inB_nI hc (by omega), nI_clamp (by omega), h4, if_pos one_ne, q_tbL hn hc hm h5 hd hv, Option.bind_some]
  show (m_X4_copyFrom n (tbE C g c m 24) (2 * c) (2 * c + 1)).bind _ = _
  rw [q_copyFrom (by omega) (by omega) hm (by exact h5)]
  rfl
