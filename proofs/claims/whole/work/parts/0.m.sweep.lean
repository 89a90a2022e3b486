/-! ===== whole rows written ===== -/
def mR (S : MSt) (f : Nat) (row : Nat → Int32) : MSt := (fun g => cond (Nat.beq g f) row (S.1 g), S.2)
def sF (S : CSt) (f : Nat) (row : Nat → Nat → Int32) : CSt := (fun g => cond (Nat.beq g f) row (S.1 g), S.2)
theorem mR_at (M : MSt) (f : Nat) (row : Nat → Int32) (g : Nat) : (mR M f row).1 g = if g = f then row else M.1 g := by
  unfold mR
  by_cases h : g = f
  · subst h; simp [beq_t]
  · simp [beq_f h, h]
theorem sF_at (S : CSt) (f : Nat) (row : Nat → Nat → Int32) (g : Nat) : (sF S f row).1 g = if g = f then row else S.1 g := by
  unfold sF
  by_cases h : g = f
  · subst h; simp [beq_t]
  · simp [beq_f h, h]
theorem mR_self (M : MSt) (f : Nat) {row : Nat → Int32} (h : row = M.1 f) : M = mR M f row := by
  refine Prod.ext (funext fun g => ?_) rfl
  rw [mR_at]
  by_cases e : g = f
  · rw [if_pos e, h, e]
  · rw [if_neg e]
theorem sF_self (S : CSt) (f : Nat) {row : Nat → Nat → Int32} (h : row = S.1 f) : S = sF S f row := by
  refine Prod.ext (funext fun g => ?_) rfl
  rw [sF_at]
  by_cases e : g = f
  · rw [if_pos e, h, e]
  · rw [if_neg e]
theorem mI_mR (M : MSt) (f : Nat) (row row' : Nat → Int32) (k : Nat) (v : Int32) (h : ∀ l, row' l = if l = k then v else row l) : mI (mR M f row) f k v = mR M f row' := by
  refine Prod.ext (funext fun g => funext fun l => ?_) rfl
  rw [mI_at, mR_at, mR_at]
  by_cases e : g = f
  · rw [if_pos e, if_pos e, h l]
    by_cases e2 : l = k
    · rw [if_pos ⟨e, e2⟩, if_pos e2]
    · rw [if_neg (fun h2 => e2 h2.2), if_neg e2]
  · rw [if_neg (fun h2 => e h2.1), if_neg e, if_neg e]
theorem sI_sF (S : CSt) (f : Nat) (row row' : Nat → Nat → Int32) (i k : Nat) (v : Int32) (h : ∀ j l, row' j l = if j = i ∧ l = k then v else row j l) : sI (sF S f row) f i k v = sF S f row' := by
  refine Prod.ext (funext fun g => funext fun j => funext fun l => ?_) rfl
  rw [sI_at, sF_at, sF_at]
  by_cases e : g = f
  · rw [if_pos e, if_pos e, h j l]
    by_cases e2 : j = i ∧ l = k
    · rw [if_pos ⟨e, e2⟩, if_pos e2]
    · rw [if_neg (fun h2 => e2 h2.2), if_neg e2]
  · rw [if_neg (fun h2 => e h2.1), if_neg e, if_neg e]
theorem mR_mR (M : MSt) (f : Nat) (row row' : Nat → Int32) : mR (mR M f row) f row' = mR M f row' := by
  refine Prod.ext (funext fun g => ?_) rfl
  rw [mR_at, mR_at, mR_at]
  by_cases e : g = f
  · rw [if_pos e, if_pos e]
  · rw [if_neg e, if_neg e, if_neg e]
/-! ===== sweep ===== -/
theorem p_sweepL {n : Nat} {M : MSt} {c : Nat} {z : Int32} (hn : 24 < n) (hc : c < 4) : lpO (b_X8_sweep_34 n (nI c) z) n (M, 0) = some (mR M 15 (fun r => if r < 24 ∧ M.1 14 r = nI c then M.1 2 c else M.1 15 r)) := by
  refine ok_get (ok_for2 (N := 24) hn (I := fun k S => S = mR M 15 (fun r => if r < k ∧ M.1 14 r = nI c then M.1 2 c else M.1 15 r)) (fun k S hk hS => ?_) (mR_self M 15 (funext fun r => if_neg (fun h => absurd h.1 (Nat.not_lt_zero _)))))
  unfold b_X8_sweep_34
  rw [Ok_ite]
  refine ⟨fun h => ?_, fun h => ?_⟩
  · have e : k = 24 := ge_eq (by decide) hk h
    rw [Ok_some, ← e]
    exact hS
  · have hk2 : k < 24 := nge_lt (by decide) hk h
    have e14 : S.1 14 = M.1 14 := by rw [hS]; rfl
    have e2 : S.1 2 = M.1 2 := by rw [hS]; rfl
    have e15 : S.1 15 k = M.1 15 k := by
      rw [hS]
      exact if_neg (fun h => absurd h.1 (Nat.lt_irrefl _))
    show Ok (bif inB (nI k) 24 then (if ¬ S.1 14 (nI k).toNatClampNeg = nI c then _ else _) else none) _
    rw [Ok_bif, nI_clamp (by omega), e14, Ok_ite]
    refine ⟨inB_nI hk2 (by omega), fun h2 => ?_, fun h2 => ?_⟩
    · rw [Ok_bif]
      refine ⟨inB_nI hk2 (by omega), ?_⟩
      unfold m_X8_sweep_J70
      rw [Ok_bif, Ok_nm, Ok_nm, Ok_some, nI_clamp (by omega), e15]
      refine ⟨inB_nI hk2 (by omega), hk2, nI_1 k, ?_⟩
      show mI S 15 k (M.1 15 k) = _
      rw [hS]
      refine mI_mR _ _ _ _ _ _ (fun l => ?_)
      by_cases e : l = k
      · rw [if_pos e, if_neg (fun h => h2 (by rw [← e]; exact h.2)), e]
      · rw [if_neg e]
        have : (l < k + 1 ∧ M.1 14 l = nI c) ↔ (l < k ∧ M.1 14 l = nI c) := ⟨fun h => ⟨by omega, h.2⟩, fun h => ⟨by omega, h.2⟩⟩
        simp only [this]
    · have h2 := Decidable.not_not.mp h2
      rw [Ok_bif]
      refine ⟨inB_nI hc (by omega), ?_⟩
      unfold m_X8_sweep_J70
      rw [Ok_bif, Ok_nm, Ok_nm, Ok_some, nI_clamp (by omega), nI_clamp (by omega), e2]
      refine ⟨inB_nI hk2 (by omega), hk2, nI_1 k, ?_⟩
      show mI S 15 k (M.1 2 c) = _
      rw [hS]
      refine mI_mR _ _ _ _ _ _ (fun l => ?_)
      by_cases e : l = k
      · rw [if_pos e, if_pos ⟨by omega, by rw [e]; exact h2⟩]
      · rw [if_neg e]
        have : (l < k + 1 ∧ M.1 14 l = nI c) ↔ (l < k ∧ M.1 14 l = nI c) := ⟨fun h => ⟨by omega, h.2⟩, fun h => ⟨by omega, h.2⟩⟩
        simp only [this]
theorem kept_lt {j K L : Nat} {σ τ : Nat → Nat} {s : Nat → Nat → Nat → Int32} {m : Nat → Nat → Int32} (hM : MI K m) (hC : CR j K L σ τ s m) {e c : Nat} (he : e < 24) (h13 : s 13 e 0 ≠ 0) (hc : c < 4) (h14 : s 14 e 0 = nI c) : ∃ v w, v ≤ w ∧ w ≤ 9 ∧ s 15 e 0 = nI v ∧ m 2 c = nI w ∧ s 3 c 0 = nI w := by
  obtain ⟨kcls, ksh, kold, krec, kid, kcnt, kval, kroot, koldv, kwrd, kstp, kflt⟩ := hC
  obtain ⟨g1, g2, g3⟩ := krec.2 e he h13
  obtain ⟨f1, f2, f3, f4, f5⟩ := krec.1 (τ e) g1 g3
  rw [g2] at f4 f5
  obtain ⟨-, h1, h2⟩ := cl_of hM.2.2.1 hM.1.1 g1 hc (f4.symm.trans h14)
  obtain ⟨⟨w, hw, e2, -⟩, -⟩ := hM.1.2.2 c hc
  rw [e2] at h2
  obtain ⟨v, hv, e3⟩ := nI_of2 (nI_toInt (n := w) (by omega)) (Int32.not_lt.mpr h1) h2
  exact ⟨v, w, hv, hw, f5.trans e3, e2, ((kcls.2 c hc).1).trans e2⟩
theorem q_sweepL {n : Nat} {j K L : Nat} {σ τ : Nat → Nat} {C : CSt} {M : MSt} (hn : 24 < n) (hM : MI K M.1) (hC : CR j K L σ τ C.1 M.1) {c : Nat} (hc : c < 4) : lpO (b_X7_sweep_9 n (nI c)) n (C, 0, 0) = some (sF C 15 (fun e l => if e < 24 ∧ l = 0 ∧ (!decide (C.1 13 e 0 = 0) && decide (C.1 14 e 0 = nI c)) = true then C.1 3 c 0 else C.1 15 e l), nI (cn (fun e => (!decide (C.1 13 e 0 = 0) && decide (C.1 14 e 0 = nI c)) && !decide (C.1 15 e 0 = M.1 2 c)) 24)) := by
  refine ok_get (ok_for3 (N := 24) hn (I := fun k S a => S = sF C 15 (fun e l => if e < k ∧ l = 0 ∧ (!decide (C.1 13 e 0 = 0) && decide (C.1 14 e 0 = nI c)) = true then C.1 3 c 0 else C.1 15 e l) ∧ a = nI (cn (fun e => (!decide (C.1 13 e 0 = 0) && decide (C.1 14 e 0 = nI c)) && !decide (C.1 15 e 0 = M.1 2 c)) k)) (fun k S a hk hS => ?_) ⟨sF_self C 15 (funext fun e => funext fun l => if_neg (fun h => absurd h.1 (Nat.not_lt_zero _))), rfl⟩)
  obtain ⟨hS, ha⟩ := hS
  unfold b_X7_sweep_9
  rw [Ok_ite]
  refine ⟨fun h => ?_, fun h => ?_⟩
  · have e : k = 24 := ge_eq (by decide) hk h
    rw [Ok_some, ← e]
    exact Prod.ext hS ha
  · have hk2 : k < 24 := nge_lt (by decide) hk h
    have e13 : S.1 13 = C.1 13 := by rw [hS]; rfl
    have e14 : S.1 14 = C.1 14 := by rw [hS]; rfl
    have e3 : S.1 3 = C.1 3 := by rw [hS]; rfl
    have e15 : S.1 15 k 0 = C.1 15 k 0 := by
      rw [hS]
      exact if_neg (fun h => absurd h.1 (Nat.lt_irrefl _))
    show Ok (bif inB (nI k) 24 then ((m_X0_isOf n S (nI k).toNatClampNeg (nI c)).bind _) else none) _
    rw [Ok_bif, nI_clamp (by omega), q_isOf, Ok_bind, Ok_some, Ok_ite, e13, e14]
    have same : ∀ l i, l ≠ k → ((l < k + 1 ∧ i = 0 ∧ (!decide (C.1 13 l 0 = 0) && decide (C.1 14 l 0 = nI c)) = true) ↔ (l < k ∧ i = 0 ∧ (!decide (C.1 13 l 0 = 0) && decide (C.1 14 l 0 = nI c)) = true)) := fun l i hl => ⟨fun h => ⟨by omega, h.2⟩, fun h => ⟨by omega, h.2⟩⟩
    refine ⟨inB_nI hk2 (by omega), fun h2 => ?_, fun h2 => ?_⟩
    · have hno : ¬ (!decide (C.1 13 k 0 = 0) && decide (C.1 14 k 0 = nI c)) = true := fun h3 => by
        rw [if_pos h3] at h2
        exact absurd h2 one_ne
      rw [Ok_nm, Ok_some]
      refine ⟨hk2, nI_1 k, ?_, ?_⟩
      · show S = _
        rw [hS]
        congr 1
        funext e l
        by_cases e2 : e = k
        · rw [if_neg (fun h => hno (by rw [← e2]; exact h.2.2)), if_neg (fun h => hno (by rw [← e2]; exact h.2.2))]
        · simp only [same e l e2]
      · rw [cn_f (fun h3 => hno (by rw [Bool.and_eq_true] at h3; exact h3.1))]
        exact ha
    · have hof := Decidable.byContradiction (fun h3 => h2 (if_neg h3))
      have h4 := hof
      simp only [Bool.and_eq_true, Bool.not_eq_true', decide_eq_false_iff_not, decide_eq_true_eq] at h4
      obtain ⟨v, w, hvw, hw9, hv, hm2, hs3⟩ := kept_lt hM hC hk2 h4.1 hc h4.2
      rw [q_bring (S := S) hc (by rw [e14]; exact h4.2), Ok_bind, Ok_some, e15, e3]
      have hst : sI S 15 k 0 (C.1 3 c 0) = sF C 15 (fun e l => if e < k + 1 ∧ l = 0 ∧ (!decide (C.1 13 e 0 = 0) && decide (C.1 14 e 0 = nI c)) = true then C.1 3 c 0 else C.1 15 e l) := by
        rw [hS]
        refine sI_sF _ _ _ _ _ _ _ (fun e l => ?_)
        by_cases e2 : e = k
        · by_cases e5 : l = 0
          · rw [if_pos ⟨by omega, e5, by rw [e2]; exact hof⟩, if_pos ⟨e2, e5⟩]
          · rw [if_neg (fun h => e5 h.2.1), if_neg (fun h => e5 h.2), if_neg (fun h => e5 h.2.1)]
        · simp only [same e l e2]
          rw [if_neg (show ¬ (e = k ∧ l = 0) from fun h => e2 h.1)]
      rw [Ok_ite]
      refine ⟨fun h5 => ?_, fun h5 => ?_⟩
      · rw [Ok_nm, Ok_some]
        refine ⟨hk2, nI_1 k, hst, ?_⟩
        have h6 : nI w - nI v ≤ 0 := by rw [← hs3, ← hv]; exact h5
        rw [pk_sub hvw] at h6
        have h7 : w - v = 0 := by
          have := (nI_leI (a := w - v) (b := 0) (by omega) (by decide)).mp h6
          omega
        rw [cn_f (fun h8 => by
          rw [Bool.and_eq_true] at h8
          have h9 := h8.2
          rw [hv, hm2, show v = w by omega] at h9
          simp at h9)]
        exact ha
      · rw [Ok_nm, Ok_nm, Ok_some]
        refine ⟨hk2, nI_1 k, hst, ?_⟩
        rw [cn_t (by
          rw [Bool.and_eq_true]
          refine ⟨hof, ?_⟩
          rw [hv, hm2]
          simp only [Bool.not_eq_true', decide_eq_false_iff_not]
          intro h8
          refine h5 ?_
          show C.1 3 c 0 - C.1 15 k 0 ≤ 0
          rw [hs3, hv, h8]
          have : nI w - nI w = nI 0 := by rw [pk_sub (Nat.le_refl w), Nat.sub_self]
          rw [this]
          decide)]
        show a + 1 = _
        rw [ha, nI_1]
theorem do_sweep (n : Nat) (hn : 24 < n) : Do_sweep n Rel := fun j C M hj hR x1 => by
  obtain ⟨K, L, σ, τ, hM, hC⟩ := id hR
  have hK4 : K ≤ 4 := hM.1.1
  rcases nI_lt3 (x := x1) (N := K) (by omega) with ⟨c, hcK, e⟩ | ⟨-, h⟩
  · subst e
    have hc : c < 4 := by omega
    refine stI_ok (w := (nI (cn (fun r => decide (M.1 14 r = nI c) && !decide (M.1 15 r = M.1 2 c)) 24), mR (mI M 0 0 0) 15 (fun r => if r < 24 ∧ M.1 14 r = nI c then M.1 2 c else M.1 15 r))) (v := nI (cn (fun e => (!decide (C.1 13 e 0 = 0) && decide (C.1 14 e 0 = nI c)) && !decide (C.1 15 e 0 = M.1 2 c)) 24)) (C2 := sF C 15 (fun e l => if e < 24 ∧ l = 0 ∧ (!decide (C.1 13 e 0 = 0) && decide (C.1 14 e 0 = nI c)) = true then C.1 3 c 0 else C.1 15 e l)) ?_ ?_ rfl ?_ ?_
    · unfold m_X7_sweep
      rw [q_needClass n hC.1.1 hK4 hcK]
      show (lpO (b_X7_sweep_9 n (nI c)) n (C, 0, 0)).bind _ = _
      rw [q_sweepL hn hM hC hc]
      rfl
    · unfold m_X8_sweep
      rw [p_isClass n hM.1.2.1 hK4 hcK, Option.bind_some, if_neg one_ne]
      unfold m_X8_sweep_J14
      rw [code0, p_behind (M := mI M 0 0 0) hn hc, Option.bind_some, p_sweepL (M := mI M 0 0 0) hn hc]
      rfl
    · show nI _ = nI _
      rw [cnt_of hC hc (fun v => !decide (v = M.1 2 c))]
    · obtain ⟨hcls, hsh, hrec, hval, hroot, hrank, hold, hwrd, hstp⟩ := id hM
      obtain ⟨kcls, ksh, kold, krec, kid, kcnt, kval, kroot, koldv, kwrd, kstp, kflt⟩ := id hC
      refine ⟨K, L, σ, τ, ⟨hcls, hsh, fun r hr => ?_, hval, hroot, hrank, hold, hwrd, hstp⟩, ⟨kcls, ksh, kold, ⟨fun r hr hl => ?_, krec.2⟩, CRid_up kid (by omega), kcnt, kval, kroot, koldv, kwrd, kstp, kflt⟩⟩
      · rcases hrec r hr with h | ⟨d, hd, h1, h2, h3⟩
        · exact Or.inl h
        · refine Or.inr ⟨d, hd, h1, ?_⟩
          show 0 ≤ (if r < 24 ∧ M.1 14 r = nI c then M.1 2 c else M.1 15 r) ∧ (if r < 24 ∧ M.1 14 r = nI c then M.1 2 c else M.1 15 r) ≤ M.1 2 d
          by_cases e : r < 24 ∧ M.1 14 r = nI c
          · rw [if_pos e]
            have e2 : c = d := (nI_eq (by omega) (by omega)).mp (e.2.symm.trans h1)
            subst e2
            exact ⟨Int32.le_trans h2 h3, Int32.le_refl _⟩
          · rw [if_neg e]
            exact ⟨h2, h3⟩
      · obtain ⟨g1, g2, g3, g4, g5⟩ := krec.1 r hr hl
        refine ⟨g1, g2, g3, g4, ?_⟩
        show (if σ r < 24 ∧ 0 = 0 ∧ (!decide (C.1 13 (σ r) 0 = 0) && decide (C.1 14 (σ r) 0 = nI c)) = true then C.1 3 c 0 else C.1 15 (σ r) 0) = if r < 24 ∧ M.1 14 r = nI c then M.1 2 c else M.1 15 r
        rw [g4, g5, (kcls.2 c hc).1]
        by_cases e : M.1 14 r = nI c
        · rw [if_pos ⟨g1, rfl, by simp [g3, e]⟩, if_pos ⟨hr, e⟩]
        · rw [if_neg (fun h => by have := h.2.2; simp [e] at this), if_neg (fun h => e h.2)]
  · refine stI_ex (w := (0, mI M 0 0 1)) (k := 1) (C2 := C) ?_ ?_ (by decide) rfl (Rel_code 1 (Rel_up hR))
    · unfold m_X7_sweep
      rw [q_needClass0 n hC.1.1 h]
      rfl
    · unfold m_X8_sweep
      rw [p_isClass0 n hM.1.2.1 h]
      rfl
