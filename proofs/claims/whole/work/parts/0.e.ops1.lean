/-! ===== counting records ===== -/
theorem p_records {n : Nat} {M : MSt} {x : Int32} (hn : 24 < n) (hx : 0 ≤ x) : m_X8_records n M x = some (nI (cn (fun r => decide (M.1 14 r = x)) 24)) := by
  have h : Ok (lpO (b_X8_records_4 n M x) n (0, 0)) (fun b => b = nI (cn (fun r => decide (M.1 14 r = x)) 24)) := by
    refine ok_for2 (N := 24) hn (I := fun k a => a = nI (cn (fun r => decide (M.1 14 r = x)) k)) (fun k a hk ha => ?_) rfl
    unfold b_X8_records_4
    rw [Ok_ite]
    refine ⟨fun h => ?_, fun h => ?_⟩
    · rw [Ok_some]
      have e : k = 24 := ge_eq (by decide) hk h
      rw [← e]
      exact ha
    · have hk2 : k < 24 := nge_lt (by decide) hk h
      rw [Ok_ite]
      refine ⟨fun _ => ?_, fun h => absurd hx h⟩
      rw [Ok_bif, nI_clamp (by omega), Ok_ite]
      refine ⟨inB_nI hk2 (by omega), fun h2 => ?_, fun h2 => ?_⟩
      · rw [Ok_nm, Ok_nm, Ok_some]
        exact ⟨hk2, nI_1 k, by rw [cn_f (by simpa using h2)]; show a + 0 = _; rw [ha, nI_a0]⟩
      · rw [Ok_nm, Ok_nm, Ok_some]
        exact ⟨hk2, nI_1 k, by rw [cn_t (by simpa using h2)]; show a + 1 = _; rw [ha, nI_1]⟩
  unfold m_X8_records
  rw [ok_get h]
  rfl
theorem p_recordsA {n : Nat} {M : MSt} (hn : 24 < n) : m_X8_records n M (-1) = some (nI (cn (fun r => !decide (M.1 14 r < 0)) 24)) := by
  have h : Ok (lpO (b_X8_records_4 n M (-1)) n (0, 0)) (fun b => b = nI (cn (fun r => !decide (M.1 14 r < 0)) 24)) := by
    refine ok_for2 (N := 24) hn (I := fun k a => a = nI (cn (fun r => !decide (M.1 14 r < 0)) k)) (fun k a hk ha => ?_) rfl
    unfold b_X8_records_4
    rw [Ok_ite]
    refine ⟨fun h => ?_, fun h => ?_⟩
    · rw [Ok_some]
      have e : k = 24 := ge_eq (by decide) hk h
      rw [← e]
      exact ha
    · have hk2 : k < 24 := nge_lt (by decide) hk h
      rw [Ok_ite]
      refine ⟨fun h => absurd h (by decide), fun _ => ?_⟩
      rw [Ok_bif, nI_clamp (by omega), Ok_ite]
      refine ⟨inB_nI hk2 (by omega), fun h2 => ?_, fun h2 => ?_⟩
      · rw [Ok_nm, Ok_nm, Ok_some]
        exact ⟨hk2, nI_1 k, by rw [cn_f (by simpa using h2)]; show a + 0 = _; rw [ha, nI_a0]⟩
      · rw [Ok_nm, Ok_nm, Ok_some]
        exact ⟨hk2, nI_1 k, by rw [cn_t (by simpa using h2)]; show a + 1 = _; rw [ha, nI_1]⟩
  unfold m_X8_records
  rw [ok_get h]
  rfl
theorem p_behind {n : Nat} {M : MSt} {c : Nat} (hn : 24 < n) (hc : c < 4) : m_X8_behind n M (nI c) = some (nI (cn (fun r => decide (M.1 14 r = nI c) && !decide (M.1 15 r = M.1 2 c)) 24)) := by
  have h : Ok (lpO (b_X8_behind_4 n M (nI c)) n (0, 0)) (fun b => b = nI (cn (fun r => decide (M.1 14 r = nI c) && !decide (M.1 15 r = M.1 2 c)) 24)) := by
    refine ok_for2 (N := 24) hn (I := fun k a => a = nI (cn (fun r => decide (M.1 14 r = nI c) && !decide (M.1 15 r = M.1 2 c)) k)) (fun k a hk ha => ?_) rfl
    unfold b_X8_behind_4
    rw [Ok_ite]
    refine ⟨fun h => ?_, fun h => ?_⟩
    · rw [Ok_some]
      have e : k = 24 := ge_eq (by decide) hk h
      rw [← e]
      exact ha
    · have hk2 : k < 24 := nge_lt (by decide) hk h
      rw [Ok_bif, nI_clamp (by omega), Ok_ite]
      refine ⟨inB_nI hk2 (by omega), fun h2 => ?_, fun h2 => ?_⟩
      · rw [Ok_nm, Ok_nm, Ok_some]
        exact ⟨hk2, nI_1 k, by rw [cn_f (by simp [h2])]; show a + 0 = _; rw [ha, nI_a0]⟩
      · have h2 := Decidable.not_not.mp h2
        rw [Ok_bif, Ok_bif, nI_clamp (by omega : c < 2 ^ 31), Ok_ite]
        refine ⟨inB_nI hk2 (by omega), inB_nI hc (by omega), fun h3 => ?_, fun h3 => ?_⟩
        · rw [Ok_nm, Ok_nm, Ok_some]
          exact ⟨hk2, nI_1 k, by rw [cn_f (by simp [h3])]; show a + 0 = _; rw [ha, nI_a0]⟩
        · rw [Ok_nm, Ok_nm, Ok_some]
          exact ⟨hk2, nI_1 k, by rw [cn_t (by simp [h2, h3])]; show a + 1 = _; rw [ha, nI_1]⟩
  unfold m_X8_behind
  rw [ok_get h]
  rfl
theorem q_isOf (n : Nat) (S : CSt) (e : Nat) (x : Int32) : m_X0_isOf n S e x = some (if !decide (S.1 13 e 0 = 0) && decide (S.1 14 e 0 = x) then 1 else 0) := by
  unfold m_X0_isOf
  by_cases h1 : S.1 13 e 0 = 0
  · rw [if_pos h1]; simp [h1]
  · rw [if_neg h1]
    by_cases h2 : S.1 14 e 0 = x
    · rw [if_neg (fun h => h h2)]; simp [h1, h2]
    · rw [if_pos h2]; simp [h2]
theorem q_countOf {n : Nat} {S : CSt} {x : Int32} (hn : 24 < n) : m_X6_countOf n S x = some (nI (cn (fun e => !decide (S.1 13 e 0 = 0) && decide (S.1 14 e 0 = x)) 24)) := by
  have h : Ok (lpO (b_X6_countOf_4 n S x) n (0, 0)) (fun b => b = nI (cn (fun e => !decide (S.1 13 e 0 = 0) && decide (S.1 14 e 0 = x)) 24)) := by
    refine ok_for2 (N := 24) hn (I := fun k a => a = nI (cn (fun e => !decide (S.1 13 e 0 = 0) && decide (S.1 14 e 0 = x)) k)) (fun k a hk ha => ?_) rfl
    unfold b_X6_countOf_4
    rw [Ok_ite]
    refine ⟨fun h => ?_, fun h => ?_⟩
    · rw [Ok_some]
      have e : k = 24 := ge_eq (by decide) hk h
      rw [← e]
      exact ha
    · have hk2 : k < 24 := nge_lt (by decide) hk h
      rw [Ok_bif, nI_clamp (by omega), q_isOf, Ok_bind, Ok_some, Ok_ite]
      refine ⟨inB_nI hk2 (by omega), fun h2 => ?_, fun h2 => ?_⟩
      · rw [Ok_nm, Ok_some]
        refine ⟨hk2, nI_1 k, ?_⟩
        rw [cn_f (fun h3 => by rw [if_pos h3] at h2; exact absurd h2 one_ne)]
        exact ha
      · rw [Ok_nm, Ok_nm, Ok_some]
        refine ⟨hk2, nI_1 k, ?_⟩
        rw [cn_t (Decidable.byContradiction (fun h3 => h2 (if_neg h3)))]
        show a + 1 = _
        rw [ha, nI_1]
  unfold m_X6_countOf
  rw [ok_get h]
  rfl
theorem q_countKept {n : Nat} {S : CSt} {x y : Int32} (hn : 24 < n) : m_X6_countKeptAs n S x y = some (nI (cn (fun e => (!decide (S.1 13 e 0 = 0) && decide (S.1 14 e 0 = x)) && decide (S.1 15 e 0 = y)) 24)) := by
  have h : Ok (lpO (b_X6_countKeptAs_5 n S x y) n (0, 0)) (fun b => b = nI (cn (fun e => (!decide (S.1 13 e 0 = 0) && decide (S.1 14 e 0 = x)) && decide (S.1 15 e 0 = y)) 24)) := by
    refine ok_for2 (N := 24) hn (I := fun k a => a = nI (cn (fun e => (!decide (S.1 13 e 0 = 0) && decide (S.1 14 e 0 = x)) && decide (S.1 15 e 0 = y)) k)) (fun k a hk ha => ?_) rfl
    unfold b_X6_countKeptAs_5
    rw [Ok_ite]
    refine ⟨fun h => ?_, fun h => ?_⟩
    · rw [Ok_some]
      have e : k = 24 := ge_eq (by decide) hk h
      rw [← e]
      exact ha
    · have hk2 : k < 24 := nge_lt (by decide) hk h
      rw [Ok_bif, nI_clamp (by omega), q_isOf, Ok_bind, Ok_some, Ok_ite]
      refine ⟨inB_nI hk2 (by omega), fun h2 => ?_, fun h2 => ?_⟩
      · rw [Ok_nm, Ok_some]
        refine ⟨hk2, nI_1 k, ?_⟩
        rw [cn_f (fun h3 => by rw [Bool.and_eq_true] at h3; rw [if_pos h3.1] at h2; exact absurd h2 one_ne)]
        exact ha
      · have h4 := Decidable.byContradiction (fun h3 => h2 (if_neg h3))
        rw [Ok_bif, Ok_ite]
        refine ⟨inB_nI hk2 (by omega), fun h5 => ?_, fun h5 => ?_⟩
        · rw [Ok_nm, Ok_some]
          refine ⟨hk2, nI_1 k, ?_⟩
          rw [cn_f (fun h3 => by rw [Bool.and_eq_true] at h3; exact h5 (of_decide_eq_true h3.2))]
          exact ha
        · rw [Ok_nm, Ok_nm, Ok_some]
          refine ⟨hk2, nI_1 k, ?_⟩
          rw [cn_t (by rw [Bool.and_eq_true]; exact ⟨h4, decide_eq_true (Decidable.not_not.mp h5)⟩)]
          show a + 1 = _
          rw [ha, nI_1]
  unfold m_X6_countKeptAs
  rw [ok_get h]
  rfl
/-! ===== what a root holds ===== -/
theorem root_cases {j K L : Nat} {σ τ : Nat → Nat} {s : Nat → Nat → Nat → Int32} {m : Nat → Nat → Int32} (hM : MI K m) (hC : CR j K L σ τ s m) {i : Nat} (hi : i < 8) : (m 19 i = -1 ∧ s 19 0 i = 0) ∨ ∃ p c, p < 24 ∧ c < K ∧ m 19 i = nI p ∧ m 14 p = nI c ∧ s 19 0 i = s 13 (σ p) 0 ∧ σ p < 24 ∧ s 13 (σ p) 0 ≠ 0 ∧ s 14 (σ p) 0 = nI c ∧ s 15 (σ p) 0 = m 15 p := by
  obtain ⟨hcls, hsh, hrec, hval, hroot, hrank, hold, hwrd, hstp⟩ := hM
  obtain ⟨kcls, ksh, kold, krec, kid, kcnt, kval, kroot, koldv, kwrd, kstp, kflt⟩ := hC
  have e := kroot i hi
  rcases hroot i hi with h | ⟨p, hp, h, hl⟩
  · rw [h, tr_m1] at e
    exact Or.inl ⟨h, e⟩
  · rw [h, tr_nI σ _ hp] at e
    rcases hrec p hp with h2 | ⟨c, hc, h2, h3, h4⟩
    · exact absurd h2 hl
    · obtain ⟨g1, g2, g3, g4, g5⟩ := krec.1 p hp hl
      exact Or.inr ⟨p, c, hp, hc, h, h2, e, g1, g3, g4.trans h2, g5⟩
theorem q_held0 {n : Nat} {S : CSt} {i : Nat} (hi : i < 8) (h : S.1 19 0 i = 0) : m_X7_heldBy n S (nI i) = some (.inr (2, S)) := by
  unfold m_X7_heldBy
  rw [inB_nI hi (by omega), nI_clamp (by omega), h, q_find0]
  rfl
theorem q_held {n : Nat} {S : CSt} {i e : Nat} (hn : 24 < n) (hi : i < 8) (he : e < 24) (h : S.1 19 0 i = S.1 13 e 0) (h0 : S.1 13 e 0 ≠ 0) (hd : ∀ e', e' < 24 → S.1 13 e' 0 ≠ 0 → ∀ e'', e'' < 24 → S.1 13 e' 0 = S.1 13 e'' 0 → e' = e'') : m_X7_heldBy n S (nI i) = some (.inl e) := by
  unfold m_X7_heldBy
  rw [inB_nI hi (by omega), nI_clamp (by omega), h, q_findS hn he h0 hd]
  show (bif decide (e < 24) then some (Sum.inl e) else none) = _
  rw [decide_eq_true he]
  rfl
/-! ===== fault, newClass, drop, same ===== -/
theorem do_fault (n : Nat) : Do_fault n Rel := fun j C M hj hR => by
  obtain ⟨K, L, σ, τ, hM, hC⟩ := id hR
  obtain ⟨kcls, ksh, kold, krec, kid, kcnt, kval, kroot, koldv, kwrd, kstp, kflt⟩ := hC
  exact ⟨_, _, rfl, rfl, kflt, Rel_code 0 (Rel_up hR)⟩
theorem Sh_mono {K K' m : Nat} {na kd lo hi : Nat → Int32} (h : Sh K m na kd lo hi) (hK : K ≤ K') : Sh K' m na kd lo hi := by
  refine ⟨h.1, h.2.1, fun i hi => ⟨(h.2.2 i hi).1, ?_⟩⟩
  rcases (h.2.2 i hi).2 with h1 | ⟨h1, d, h2, h3⟩
  · exact Or.inl h1
  · exact Or.inr ⟨h1, d, by omega, h3⟩
theorem StOk_mono {K K' : Nat} {kd a b c d : Int32} (h : StOk K kd a b c d) (hK : K ≤ K') : StOk K' kd a b c d := by
  obtain ⟨h0, h⟩ := h
  refine ⟨h0, ?_⟩
  rcases h with h | h | h | h | ⟨h, x, hx, e⟩ | ⟨h, ⟨x, hx, e⟩, h2⟩
  · exact Or.inl h
  · exact Or.inr (Or.inl h)
  · exact Or.inr (Or.inr (Or.inl h))
  · exact Or.inr (Or.inr (Or.inr (Or.inl h)))
  · exact Or.inr (Or.inr (Or.inr (Or.inr (Or.inl ⟨h, x, by omega, e⟩))))
  · exact Or.inr (Or.inr (Or.inr (Or.inr (Or.inr ⟨h, ⟨x, by omega, e⟩, h2⟩))))
theorem do_newClass (n : Nat) : Do_newClass n Rel := fun j C M hj hR => by
  obtain ⟨K, L, σ, τ, hM, hC⟩ := id hR
  obtain ⟨hcls, hsh, hrec, hval, hroot, hrank, hold, hwrd, hstp⟩ := hM
  obtain ⟨kcls, ksh, kold, krec, kid, kcnt, kval, kroot, koldv, kwrd, kstp, kflt⟩ := hC
  obtain ⟨h4, h1, h2⟩ := hcls
  obtain ⟨g1, g2⟩ := kcls
  by_cases hK : K < 4
  · have hc : m_X7_newClass n C = some (.inl (nI K, sI C 0 0 0 (nI (K + 1)))) := by
      unfold m_X7_newClass
      rw [g1, if_pos (show nI K < 4 from nI_lt hK (by decide)), nI_1]
      show some (Sum.inl (nI (K + 1) - 1, _)) = _
      rw [nI_pred]
    have hm : m_X8_newClass n M = some (nI K, mI (mI M 0 0 0) 1 0 (nI (K + 1))) := by
      unfold m_X8_newClass
      rw [h1, if_pos (fun h => by have := (nI_eq (a := K) (b := 4) (by omega) (by decide)).mp h; omega)]
      unfold m_X8_newClass_J14
      rw [code0]
      show some (M.1 1 0 + 1 - 1, mI (mI M 0 0 0) 1 0 (M.1 1 0 + 1)) = _
      rw [h1, nI_1, nI_pred]
    refine stI_ok hc hm rfl rfl ⟨K + 1, L, σ, τ, ⟨⟨by omega, rfl, h2⟩, ?_, ?_, hval, hroot, hrank, ?_, hwrd, ?_⟩, ⟨⟨rfl, g2⟩, ksh, kold, krec, CRid_up kid (by omega), kcnt, kval, kroot, koldv, kwrd, kstp, kflt⟩⟩
    · intro c hc
      obtain ⟨m, hm, hs⟩ := hsh c hc
      exact ⟨m, hm, Sh_mono hs (by omega)⟩
    · intro r hr
      rcases hrec r hr with h | ⟨c, hc, h⟩
      · exact Or.inl h
      · exact Or.inr ⟨c, by omega, h⟩
    · intro c hc
      obtain ⟨mo, h5, h6, h7⟩ := hold c hc
      exact ⟨mo, h5, h6, fun h => ⟨Sh_mono (h7 h).1 (by omega), (h7 h).2⟩⟩
    · obtain ⟨q, h5, h6, h7⟩ := hstp
      exact ⟨q, h5, h6, fun i hi => ⟨StOk_mono (h7 i hi).1 (by omega), (h7 i hi).2⟩⟩
  · have e : K = 4 := by omega
    subst e
    refine stI_ex (w := (0, mI M 0 0 1)) (k := 3) (C2 := C) ?_ ?_ (by decide) rfl (Rel_code 1 (Rel_up hR))
    · unfold m_X7_newClass
      rw [g1, if_neg (show ¬ nI 4 < 4 by decide)]
    · unfold m_X8_newClass
      rw [h1, if_neg (fun h => h rfl)]
      rfl
/-- an empty root's id is 0, and no other -/
theorem do_drop (n : Nat) : Do_drop n Rel := fun j C M hj hR x1 => by
  obtain ⟨K, L, σ, τ, hM, hC⟩ := id hR
  rcases nI_lt3 (x := x1) (N := 8) (by decide) with ⟨i, hi, e⟩ | ⟨-, h⟩
  · subst e
    have hrc := root_cases hM hC hi
    have fin : Rel (j + 1) (sI C 19 0 i 0) (mI (mI M 0 0 0) 19 i (-1)) := by
      obtain ⟨hcls, hsh, hrec, hval, hroot, hrank, hold, hwrd, hstp⟩ := hM
      obtain ⟨kcls, ksh, kold, krec, kid, kcnt, kval, kroot, koldv, kwrd, kstp, kflt⟩ := hC
      refine ⟨K, L, σ, τ, ⟨hcls, hsh, hrec, hval, ?_, hrank, hold, hwrd, hstp⟩, ⟨kcls, ksh, kold, krec, CRid_up kid (by omega), kcnt, kval, ?_, koldv, kwrd, kstp, kflt⟩⟩
      · intro i2 hi2
        show (mI (mI M 0 0 0) 19 i (-1)).1 19 i2 = -1 ∨ ∃ p, p < 24 ∧ (mI (mI M 0 0 0) 19 i (-1)).1 19 i2 = nI p ∧ M.1 14 p ≠ -1
        rw [mI_at]
        by_cases h : i2 = i
        · exact Or.inl (if_pos ⟨rfl, h⟩)
        · rw [if_neg (fun h2 => h h2.2)]
          exact hroot i2 hi2
      · intro i2 hi2
        rw [mI_at, sI_at]
        by_cases h : i2 = i
        · rw [if_pos ⟨rfl, rfl, h⟩, if_pos ⟨rfl, h⟩]
          exact (tr_m1 σ _).symm
        · rw [if_neg (fun h2 => h h2.2.2), if_neg (fun h2 => h h2.2)]
          exact kroot i2 hi2
    have hc : ∀ y : Int32, isZ y = true → m_X7_drop_J18 n C (nI i) y = some (.inl (y, sI C 19 0 i 0)) := fun y hy => by
      unfold m_X7_drop_J18
      rw [inB_nI hi (by omega), nI_clamp (by omega)]
      show (bif isZ y then _ else _) = _
      rw [hy]; rfl
    have hm : ∀ y : Int32, isZ y = true → m_X8_drop_J39 n (mI M 0 0 0) (nI i) y = some (y, mI (mI M 0 0 0) 19 i (-1)) := fun y hy => by
      unfold m_X8_drop_J39
      rw [inB_nI hi (by omega), nI_clamp (by omega)]
      show (bif isZ y then _ else _) = _
      rw [hy]; rfl
    have h1 : m_X8_drop n M (nI i) = if M.1 19 i < 0 then m_X8_drop_J39 n (mI M 0 0 0) (nI i) 0 else m_X8_drop_J39 n (mI M 0 0 0) (nI i) 1 := by
      unfold m_X8_drop
      rw [p_isRoot n M hi, Option.bind_some, if_neg one_ne]
      unfold m_X8_drop_J13
      rw [inB_nI hi (by omega), nI_clamp (by omega)]
      rfl
    have h2 : m_X7_drop n C (nI i) = if C.1 19 0 i = 0 then m_X7_drop_J18 n C (nI i) 0 else m_X7_drop_J18 n C (nI i) 1 := by
      unfold m_X7_drop
      rw [q_needRoot n C hi]
      show (bif inB (nI i) 8 then _ else _) = _
      rw [inB_nI hi (by omega), nI_clamp (by omega)]
      rfl
    rcases hrc with ⟨g1, g2⟩ | ⟨p, c, hp, hcK, g1, g2, g3, g4, g5, g6, g7⟩
    · rw [g1, if_pos m1_lt, hm 0 rfl] at h1
      rw [g2, if_pos rfl, hc 0 rfl] at h2
      exact stI_ok h2 h1 rfl rfl fin
    · rw [g1, if_neg (nI_pos (by omega)), hm 1 rfl] at h1
      rw [g3, if_neg g5, hc 1 rfl] at h2
      exact stI_ok h2 h1 rfl rfl fin
  · refine stI_ex (w := (0, mI M 0 0 1)) (k := 1) (C2 := C) ?_ ?_ (by decide) rfl (Rel_code 1 (Rel_up hR))
    · unfold m_X7_drop
      rw [q_needRoot0 n C h]
      rfl
    · unfold m_X8_drop
      rw [p_isRoot0 n M h]
      rfl
