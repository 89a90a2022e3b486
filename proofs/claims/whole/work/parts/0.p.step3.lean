/-- five numbers of a step are written -/
def m5w (B : MSt) (q : Nat) (k a b c d v : Int32) : MSt := mI (mI (mI (mI (mI (mI B 23 (5 * q) k) 23 (5 * q + 1) a) 23 (5 * q + 2) b) 23 (5 * q + 3) c) 23 (5 * q + 4) d) 22 0 v
theorem m5w_lt {B : MSt} {q i t : Nat} {k a b c d v : Int32} (h : i < q) (ht : t < 5) : (m5w B q k a b c d v).1 23 (5 * i + t) = B.1 23 (5 * i + t) := by
  unfold m5w
  rw [mI_at, if_neg (by omega), mI_at, if_neg (by omega), mI_at, if_neg (by omega), mI_at, if_neg (by omega), mI_at, if_neg (by omega), mI_at, if_neg (by omega)]
theorem m5w_lt0 {B : MSt} {q i : Nat} {k a b c d v : Int32} (h : i < q) : (m5w B q k a b c d v).1 23 (5 * i) = B.1 23 (5 * i) := m5w_lt (t := 0) h (by omega)
theorem m5w_eq {B : MSt} {q : Nat} {k a b c d v : Int32} : (m5w B q k a b c d v).1 23 (5 * q) = k ∧ (m5w B q k a b c d v).1 23 (5 * q + 1) = a ∧ (m5w B q k a b c d v).1 23 (5 * q + 2) = b ∧ (m5w B q k a b c d v).1 23 (5 * q + 3) = c ∧ (m5w B q k a b c d v).1 23 (5 * q + 4) = d := by
  unfold m5w
  refine ⟨?_, ?_, ?_, ?_, ?_⟩
  · rw [mI_at, if_neg (by omega), mI_at, if_neg (by omega), mI_at, if_neg (by omega), mI_at, if_neg (by omega), mI_at, if_neg (by omega), mI_at, if_pos ⟨rfl, rfl⟩]
  · rw [mI_at, if_neg (by omega), mI_at, if_neg (by omega), mI_at, if_neg (by omega), mI_at, if_neg (by omega), mI_at, if_pos ⟨rfl, rfl⟩]
  · rw [mI_at, if_neg (by omega), mI_at, if_neg (by omega), mI_at, if_neg (by omega), mI_at, if_pos ⟨rfl, rfl⟩]
  · rw [mI_at, if_neg (by omega), mI_at, if_neg (by omega), mI_at, if_pos ⟨rfl, rfl⟩]
  · rw [mI_at, if_neg (by omega), mI_at, if_pos ⟨rfl, rfl⟩]
def s5w (B : CSt) (q : Nat) (k a b c d : Int32) : CSt := sI (sI (sI (sI (sI B 22 q 0 k) 23 q 0 a) 24 q 0 b) 25 q 0 c) 26 q 0 d
theorem s5w_at {B : CSt} {q i : Nat} {k a b c d : Int32} : (s5w B q k a b c d).1 22 i 0 = (if i = q then k else B.1 22 i 0) ∧ (s5w B q k a b c d).1 23 i 0 = (if i = q then a else B.1 23 i 0) ∧ (s5w B q k a b c d).1 24 i 0 = (if i = q then b else B.1 24 i 0) ∧ (s5w B q k a b c d).1 25 i 0 = (if i = q then c else B.1 25 i 0) ∧ (s5w B q k a b c d).1 26 i 0 = (if i = q then d else B.1 26 i 0) := by
  unfold s5w
  refine ⟨?_, ?_, ?_, ?_, ?_⟩ <;> simp only [sI_at] <;> simp
theorem do_step (n : Nat) (hn : 24 < n) : Do_step n Rel := fun j C M hj hR x1 x2 x3 x4 x5 => by
  obtain ⟨K, L, σ, τ, hM, hC⟩ := id hR
  obtain ⟨hcls, hsh, hrec, hval, hroot, hrank, hold, hwrd, hstp⟩ := hM
  obtain ⟨kcls, ksh, kold, krec, kid, kcnt, kval, kroot, koldv, kwrd, kstp, kflt⟩ := hC
  have hK4 : K ≤ 4 := hcls.1
  obtain ⟨w, hw, h20, hW⟩ := id hwrd
  obtain ⟨q, hq6, h22, hst⟩ := id hstp
  have g20 : C.1 20 6 0 = nI w := kwrd.1.trans h20
  have g1 : C.1 1 0 0 = nI q := kstp.1.trans h22
  have hrg : rgt (C.1 21 6) w = rgt (M.1 21) w := rgt_cong (fun i hi => kwrd.2 w i hw h20 hi)
  have hp := p_isStep (n := n) (by omega) hw h20 hW hcls.2.1 hK4 x1 x2 x3 x4 x5
  have hqs := q_isStep (n := n) (S := C) (by omega) hw g20 kcls.1 hK4 x1 x2 x3 x4 x5
  rw [hrg] at hqs
  rcases hp with ⟨hp, hsc⟩ | ⟨hp, hsc⟩
  · obtain ⟨hqs, -⟩ := hqs.resolve_right (fun h => h.2 hsc)
    obtain ⟨hok, hR2⟩ := SC_StOk hsc
    by_cases hq : q < 6
    · have e1 : m_X8_step n M x1 x2 x3 x4 x5 = m_X8_step_J33 n M x1 x2 x3 x4 x5 0 := by
        unfold m_X8_step
        rw [hp, Option.bind_some, if_pos one_ne, h22, if_pos (show ¬ nI q = 6 from fun h => by have := (nI_eq (a := q) (b := 6) (by omega) (by decide)).mp h; omega)]
      unfold m_X8_step_J33 at e1
      rw [code0] at e1
      have e1' : m_X8_step n M x1 x2 x3 x4 x5 = (bif inB (M.1 22 0) 6 then (if ¬ x1 = 2 then m_X8_step_J118 n (mI (mI M 0 0 0) 24 (M.1 22 0).toNatClampNeg 0) x1 x2 x3 x4 x5 else ((lpO (b_X8_step_63 n x1 x2 x3 x4 x5) n (mI (mI M 0 0 0) 24 (M.1 22 0).toNatClampNeg 0, 0)).bind (fun w93 => bif inB (w93.1 22 0) 6 then (nm (mI w93 24 ((w93.1 22 0).toNatClampNeg) (w93.1 20 0)) (fun S95 => nm (mI S95 20 0 0) (fun S96 => m_X8_step_J118 n S96 x1 x2 x3 x4 x5))) else none))) else none) := e1
      rw [h22, inB_nI hq (by omega), nI_clamp (by omega)] at e1'
      have e2 : m_X7_step n C x1 x2 x3 x4 x5 = if ¬ x1 = 2 then m_X7_step_J91 n (s5w C q x1 x2 x3 x4 x5) else ((m_X1_copyFrom n (s5w C q x1 x2 x3 x4 x5) q 6).bind (fun z38 => nm (sI z38 20 6 0 0) (fun S39 => m_X7_step_J91 n S39))) := by
        unfold m_X7_step
        rw [hqs, Option.bind_some, if_pos one_ne, g1, if_pos (show nI q < 6 from nI_lt hq (by decide)), inB_nI hq (by omega), nI_clamp (by omega)]
        rfl
      by_cases k2 : x1 = 2
      · rw [if_neg (fun h => h k2)] at e2
        have e1'' : m_X8_step n M x1 x2 x3 x4 x5 = ((lpO (b_X8_step_63 n x1 x2 x3 x4 x5) n (mI (mI M 0 0 0) 24 q 0, 0)).bind (fun w93 => bif inB (w93.1 22 0) 6 then (nm (mI w93 24 ((w93.1 22 0).toNatClampNeg) (w93.1 20 0)) (fun S95 => nm (mI S95 20 0 0) (fun S96 => m_X8_step_J118 n S96 x1 x2 x3 x4 x5))) else none)) := by
          rw [e1']
          exact if_neg (fun h => h k2)
        rw [p_stepL (M := mI (mI M 0 0 0) 24 q 0) (by omega) hq hw h20 h22, Option.bind_some] at e1''
        have e3 : m_X8_step n M x1 x2 x3 x4 x5 = (bif inB (M.1 22 0) 6 then m_X8_step_J118 n (mI (mI (mR (mI (mI M 0 0 0) 24 q 0) 25 (fun l => if 12 * q ≤ l ∧ l < 12 * q + w then M.1 21 (l - 12 * q) else M.1 25 l)) 24 (M.1 22 0).toNatClampNeg (M.1 20 0)) 20 0 0) x1 x2 x3 x4 x5 else none) := e1''
        rw [h22, inB_nI hq (by omega), nI_clamp (by omega), h20, cond_true, p_stepJ hq (by exact h22)] at e3
        have e4 : m_X7_step n C x1 x2 x3 x4 x5 = some (.inl (C.1 1 0 0 + 1, sI (sI (sI (sR (s5w C q x1 x2 x3 x4 x5) 21 q (va_cpy (C.1 21 6) (C.1 21 q) 0 0 12)) 20 q 0 (C.1 20 6 0)) 20 6 0 0) 1 0 0 (C.1 1 0 0 + 1))) := e2
        rw [g1, g20, nI_1] at e4
        refine stI_ok e4 e3 rfl rfl ⟨K, L, σ, τ, ⟨hcls, hsh, hrec, hval, hroot, hrank, hold, ⟨0, by omega, rfl, fun k hk => absurd hk (Nat.not_lt_zero _)⟩, ⟨q + 1, by omega, rfl, fun i hi => ?_⟩⟩, ⟨kcls, ksh, kold, krec, CRid_up kid (by omega), kcnt, kval, kroot, koldv, ⟨rfl, fun w' k hw' h0 hk => ?_⟩, ⟨rfl, fun q' i hq' h5 hi => ?_⟩, kflt⟩⟩
        · show StOk K ((m5w _ q x1 x2 x3 x4 x5 _).1 23 (5 * i)) ((m5w _ q x1 x2 x3 x4 x5 _).1 23 (5 * i + 1)) ((m5w _ q x1 x2 x3 x4 x5 _).1 23 (5 * i + 2)) ((m5w _ q x1 x2 x3 x4 x5 _).1 23 (5 * i + 3)) ((m5w _ q x1 x2 x3 x4 x5 _).1 23 (5 * i + 4)) ∧ ((m5w _ q x1 x2 x3 x4 x5 _).1 23 (5 * i) = 2 → ∃ l, l ≤ 12 ∧ (mI (mR (mI (mI M 0 0 0) 24 q 0) 25 (fun l => if 12 * q ≤ l ∧ l < 12 * q + w then M.1 21 (l - 12 * q) else M.1 25 l)) 24 q (nI w)).1 24 i = nI l ∧ (∀ k, k < l → isW (if 12 * q ≤ 12 * i + k ∧ 12 * i + k < 12 * q + w then M.1 21 (12 * i + k - 12 * q) else M.1 25 (12 * i + k))) ∧ rgt (fun k => if 12 * q ≤ 12 * i + k ∧ 12 * i + k < 12 * q + w then M.1 21 (12 * i + k - 12 * q) else M.1 25 (12 * i + k)) l = some 1)
          by_cases ei : i = q
          · subst ei
            obtain ⟨v0, v1, v2, v3, v4⟩ := m5w_eq (B := mI (mI (mR (mI (mI M 0 0 0) 24 i 0) 25 (fun l => if 12 * i ≤ l ∧ l < 12 * i + w then M.1 21 (l - 12 * i) else M.1 25 l)) 24 i (nI w)) 20 0 0) (q := i) (k := x1) (a := x2) (b := x3) (c := x4) (d := x5) (v := nI (i + 1))
            rw [v0, v1, v2, v3, v4]
            refine ⟨hok, fun _ => ⟨w, hw, mI_eq _ _ _ _, fun k hk => ?_, ?_⟩⟩
            · rw [if_pos ⟨by omega, by omega⟩, show 12 * i + k - 12 * i = k by omega]
              exact hW k hk
            · rw [← hR2 k2]
              refine rgt_cong (fun k hk => ?_)
              rw [if_pos ⟨by omega, by omega⟩, show 12 * i + k - 12 * i = k by omega]
          · have hi' : i < q := by omega
            rw [m5w_lt0 hi', m5w_lt (t := 1) hi' (by omega), m5w_lt (t := 2) hi' (by omega), m5w_lt (t := 3) hi' (by omega), m5w_lt (t := 4) hi' (by omega)]
            obtain ⟨f1, f2⟩ := hst i hi'
            refine ⟨f1, fun h => ?_⟩
            obtain ⟨l, l1, l2, l3, l4⟩ := f2 h
            refine ⟨l, l1, ?_, fun k hk => ?_, ?_⟩
            · rw [mI_at, if_neg (by omega)]
              show (mI (mI M 0 0 0) 24 q 0).1 24 i = _
              rw [mI_at, if_neg (by omega)]
              exact l2
            · rw [if_neg (by omega)]
              exact l3 k hk
            · rw [← l4]
              refine rgt_cong (fun k hk => ?_)
              rw [if_neg (by omega)]
        · have : w' = 0 := ((nI_eq (a := 0) (b := w') (by decide) (by omega)).mp h0).symm
          omega
        · have hq2 : q + 1 = q' := (nI_eq (by omega) (by omega)).mp h5
          obtain ⟨z1, z2, z3, z4, z5⟩ := s5w_at (B := C) (q := q) (i := i) (k := x1) (a := x2) (b := x3) (c := x4) (d := x5)
          show (s5w C q x1 x2 x3 x4 x5).1 22 i 0 = (m5w _ q x1 x2 x3 x4 x5 _).1 23 (5 * i) ∧ (s5w C q x1 x2 x3 x4 x5).1 23 i 0 = (m5w _ q x1 x2 x3 x4 x5 _).1 23 (5 * i + 1) ∧ (s5w C q x1 x2 x3 x4 x5).1 24 i 0 = (m5w _ q x1 x2 x3 x4 x5 _).1 23 (5 * i + 2) ∧ (s5w C q x1 x2 x3 x4 x5).1 25 i 0 = (m5w _ q x1 x2 x3 x4 x5 _).1 23 (5 * i + 3) ∧ (s5w C q x1 x2 x3 x4 x5).1 26 i 0 = (m5w _ q x1 x2 x3 x4 x5 _).1 23 (5 * i + 4) ∧ ((m5w _ q x1 x2 x3 x4 x5 _).1 23 (5 * i) = 2 → (sI (sI (sR (s5w C q x1 x2 x3 x4 x5) 21 q (va_cpy (C.1 21 6) (C.1 21 q) 0 0 12)) 20 q 0 (nI w)) 20 6 0 0).1 20 i 0 = (mI (mR (mI (mI M 0 0 0) 24 q 0) 25 (fun l => if 12 * q ≤ l ∧ l < 12 * q + w then M.1 21 (l - 12 * q) else M.1 25 l)) 24 q (nI w)).1 24 i ∧ ∀ l k, l ≤ 12 → (mI (mR (mI (mI M 0 0 0) 24 q 0) 25 (fun l => if 12 * q ≤ l ∧ l < 12 * q + w then M.1 21 (l - 12 * q) else M.1 25 l)) 24 q (nI w)).1 24 i = nI l → k < l → (sR (s5w C q x1 x2 x3 x4 x5) 21 q (va_cpy (C.1 21 6) (C.1 21 q) 0 0 12)).1 21 i k = if 12 * q ≤ 12 * i + k ∧ 12 * i + k < 12 * q + w then M.1 21 (12 * i + k - 12 * q) else M.1 25 (12 * i + k))
          rw [z1, z2, z3, z4, z5]
          by_cases ei : i = q
          · subst ei
            obtain ⟨v0, v1, v2, v3, v4⟩ := m5w_eq (B := mI (mI (mR (mI (mI M 0 0 0) 24 i 0) 25 (fun l => if 12 * i ≤ l ∧ l < 12 * i + w then M.1 21 (l - 12 * i) else M.1 25 l)) 24 i (nI w)) 20 0 0) (q := i) (k := x1) (a := x2) (b := x3) (c := x4) (d := x5) (v := nI (i + 1))
            rw [v0, v1, v2, v3, v4, if_pos rfl, if_pos rfl, if_pos rfl, if_pos rfl, if_pos rfl]
            refine ⟨rfl, rfl, rfl, rfl, rfl, fun _ => ⟨?_, fun l k hl h6 hk => ?_⟩⟩
            · rw [mI_eq, sI_at, if_neg (by omega), sI_eq]
            · rw [mI_eq] at h6
              have el : w = l := (nI_eq (by omega) (by omega)).mp h6
              subst el
              rw [sR_row, if_pos ⟨by omega, by omega⟩, show 12 * i + k - 12 * i = k by omega]
              unfold va_cpy
              rw [if_pos ⟨by omega, by omega⟩, show 0 + (k - 0) = k by omega]
              exact kwrd.2 w k hw h20 hk
          · have hi' : i < q := by omega
            rw [if_neg ei, if_neg ei, if_neg ei, if_neg ei, if_neg ei, m5w_lt0 hi', m5w_lt (t := 1) hi' (by omega), m5w_lt (t := 2) hi' (by omega), m5w_lt (t := 3) hi' (by omega), m5w_lt (t := 4) hi' (by omega)]
            obtain ⟨f1, f2, f3, f4, f5, f6⟩ := kstp.2 q i hq6 h22 hi'
            refine ⟨f1, f2, f3, f4, f5, fun h => ?_⟩
            have r24 : (mI (mR (mI (mI M 0 0 0) 24 q 0) 25 (fun l => if 12 * q ≤ l ∧ l < 12 * q + w then M.1 21 (l - 12 * q) else M.1 25 l)) 24 q (nI w)).1 24 i = M.1 24 i := by
              rw [mI_at, if_neg (by omega)]
              show (mI (mI M 0 0 0) 24 q 0).1 24 i = _
              rw [mI_at, if_neg (by omega)]
              rfl
            rw [r24]
            obtain ⟨f7, f8⟩ := f6 h
            refine ⟨?_, fun l k hl h6 hk => ?_⟩
            · rw [sI_at, if_neg (by omega), sI_at, if_neg (by omega)]
              exact f7
            · rw [sR_ne _ _ _ _ ei, if_neg (by omega)]
              exact f8 l k hl h6 hk
      · rw [if_pos k2] at e2
        have e1'' : m_X8_step n M x1 x2 x3 x4 x5 = m_X8_step_J118 n (mI (mI M 0 0 0) 24 q 0) x1 x2 x3 x4 x5 := by
          rw [e1']
          exact if_pos k2
        rw [p_stepJ hq (by exact h22)] at e1''
        have e4 : m_X7_step n C x1 x2 x3 x4 x5 = some (.inl (C.1 1 0 0 + 1, sI (s5w C q x1 x2 x3 x4 x5) 1 0 0 (C.1 1 0 0 + 1))) := e2
        rw [g1, nI_1] at e4
        refine stI_ok e4 e1'' rfl rfl ⟨K, L, σ, τ, ⟨hcls, hsh, hrec, hval, hroot, hrank, hold, hwrd, ⟨q + 1, by omega, rfl, fun i hi => ?_⟩⟩, ⟨kcls, ksh, kold, krec, CRid_up kid (by omega), kcnt, kval, kroot, koldv, kwrd, ⟨rfl, fun q' i hq' h5 hi => ?_⟩, kflt⟩⟩
        · show StOk K ((m5w _ q x1 x2 x3 x4 x5 _).1 23 (5 * i)) ((m5w _ q x1 x2 x3 x4 x5 _).1 23 (5 * i + 1)) ((m5w _ q x1 x2 x3 x4 x5 _).1 23 (5 * i + 2)) ((m5w _ q x1 x2 x3 x4 x5 _).1 23 (5 * i + 3)) ((m5w _ q x1 x2 x3 x4 x5 _).1 23 (5 * i + 4)) ∧ ((m5w _ q x1 x2 x3 x4 x5 _).1 23 (5 * i) = 2 → ∃ l, l ≤ 12 ∧ (mI (mI M 0 0 0) 24 q 0).1 24 i = nI l ∧ (∀ k, k < l → isW (M.1 25 (12 * i + k))) ∧ rgt (fun k => M.1 25 (12 * i + k)) l = some 1)
          by_cases ei : i = q
          · subst ei
            obtain ⟨v0, v1, v2, v3, v4⟩ := m5w_eq (B := mI (mI M 0 0 0) 24 i 0) (q := i) (k := x1) (a := x2) (b := x3) (c := x4) (d := x5) (v := nI (i + 1))
            rw [v0, v1, v2, v3, v4]
            exact ⟨hok, fun h => absurd h k2⟩
          · have hi' : i < q := by omega
            rw [m5w_lt0 hi', m5w_lt (t := 1) hi' (by omega), m5w_lt (t := 2) hi' (by omega), m5w_lt (t := 3) hi' (by omega), m5w_lt (t := 4) hi' (by omega)]
            obtain ⟨f1, f2⟩ := hst i hi'
            refine ⟨f1, fun h => ?_⟩
            obtain ⟨l, l1, l2, l3⟩ := f2 h
            refine ⟨l, l1, ?_, l3⟩
            rw [mI_at, if_neg (by omega)]
            exact l2
        · have hq2 : q + 1 = q' := (nI_eq (by omega) (by omega)).mp h5
          obtain ⟨z1, z2, z3, z4, z5⟩ := s5w_at (B := C) (q := q) (i := i) (k := x1) (a := x2) (b := x3) (c := x4) (d := x5)
          show (s5w C q x1 x2 x3 x4 x5).1 22 i 0 = (m5w _ q x1 x2 x3 x4 x5 _).1 23 (5 * i) ∧ (s5w C q x1 x2 x3 x4 x5).1 23 i 0 = (m5w _ q x1 x2 x3 x4 x5 _).1 23 (5 * i + 1) ∧ (s5w C q x1 x2 x3 x4 x5).1 24 i 0 = (m5w _ q x1 x2 x3 x4 x5 _).1 23 (5 * i + 2) ∧ (s5w C q x1 x2 x3 x4 x5).1 25 i 0 = (m5w _ q x1 x2 x3 x4 x5 _).1 23 (5 * i + 3) ∧ (s5w C q x1 x2 x3 x4 x5).1 26 i 0 = (m5w _ q x1 x2 x3 x4 x5 _).1 23 (5 * i + 4) ∧ ((m5w _ q x1 x2 x3 x4 x5 _).1 23 (5 * i) = 2 → C.1 20 i 0 = (mI (mI M 0 0 0) 24 q 0).1 24 i ∧ ∀ l k, l ≤ 12 → (mI (mI M 0 0 0) 24 q 0).1 24 i = nI l → k < l → C.1 21 i k = M.1 25 (12 * i + k))
          rw [z1, z2, z3, z4, z5]
          by_cases ei : i = q
          · subst ei
            obtain ⟨v0, v1, v2, v3, v4⟩ := m5w_eq (B := mI (mI M 0 0 0) 24 i 0) (q := i) (k := x1) (a := x2) (b := x3) (c := x4) (d := x5) (v := nI (i + 1))
            rw [v0, v1, v2, v3, v4, if_pos rfl, if_pos rfl, if_pos rfl, if_pos rfl, if_pos rfl]
            exact ⟨rfl, rfl, rfl, rfl, rfl, fun h => absurd h k2⟩
          · have hi' : i < q := by omega
            rw [if_neg ei, if_neg ei, if_neg ei, if_neg ei, if_neg ei, m5w_lt0 hi', m5w_lt (t := 1) hi' (by omega), m5w_lt (t := 2) hi' (by omega), m5w_lt (t := 3) hi' (by omega), m5w_lt (t := 4) hi' (by omega)]
            obtain ⟨f1, f2, f3, f4, f5, f6⟩ := kstp.2 q i hq6 h22 hi'
            refine ⟨f1, f2, f3, f4, f5, fun h => ?_⟩
            have r24 : (mI (mI M 0 0 0) 24 q 0).1 24 i = M.1 24 i := by
              rw [mI_at, if_neg (by omega)]
              rfl
            rw [r24]
            exact f6 h
    · have e : q = 6 := by omega
      subst e
      refine stI_ex (w := (0, mI M 0 0 2)) (k := 3) (C2 := C) ?_ ?_ (by decide) rfl (Rel_code 2 (Rel_up hR))
      · unfold m_X7_step
        rw [hqs, Option.bind_some, if_pos one_ne, g1, if_neg (show ¬ nI 6 < 6 by decide)]
      · unfold m_X8_step
        rw [hp, Option.bind_some, if_pos one_ne, h22, if_neg (show ¬ ¬ nI 6 = 6 by decide)]
        rfl
  · obtain ⟨hqs, -⟩ := hqs.resolve_left (fun h => hsc h.2)
    refine stI_ex (w := (0, mI M 0 0 1)) (k := 1) (C2 := C) ?_ ?_ (by decide) rfl (Rel_code 1 (Rel_up hR))
    · unfold m_X7_step
      rw [hqs]
      rfl
    · unfold m_X8_step
      rw [hp]
      rfl
