/-! ===== word ===== -/
theorem q_isWord (n : Nat) (S : CSt) {x : Int32} (h : isW x) : m_X7_isWord n S x = some 1 := by
  unfold m_X7_isWord m_X7_isWord_J10
  unfold isW at h
  simp only [Int32.lt_iff_toInt_lt, Int32.le_iff_toInt_le, Int32.reduceToInt] at h ⊢
  split
  · rw [if_neg (by omega), if_neg (by omega)]
  · split
    · rfl
    · rw [if_neg (by omega), if_neg (by omega)]
theorem q_isWord0 (n : Nat) (S : CSt) {x : Int32} (h : ¬ isW x) : m_X7_isWord n S x = some 0 := by
  unfold m_X7_isWord m_X7_isWord_J10
  unfold isW at h
  simp only [Int32.lt_iff_toInt_lt, Int32.le_iff_toInt_le, Int32.reduceToInt] at h ⊢
  split
  · rw [if_pos (by omega)]
  · rw [if_neg (by omega)]
    split
    · rfl
    · rw [if_pos (by omega)]
theorem p_wordJ (n : Nat) (M : MSt) {x : Int32} (h : isW x) : m_X8_word n M x = m_X8_word_J28 n M x := by
  unfold m_X8_word m_X8_word_J11
  unfold isW at h
  simp only [Int32.lt_iff_toInt_lt, Int32.le_iff_toInt_le, Int32.reduceToInt] at h ⊢
  split
  · rw [if_neg (by omega), if_pos (by omega)]
  · split
    · rfl
    · rw [if_neg (by omega), if_pos (by omega)]
theorem p_wordJ0 (n : Nat) (M : MSt) {x : Int32} (h : ¬ isW x) : m_X8_word n M x = some (0, mI M 0 0 1) := by
  unfold m_X8_word m_X8_word_J11
  unfold isW at h
  simp only [Int32.lt_iff_toInt_lt, Int32.le_iff_toInt_le, Int32.reduceToInt] at h ⊢
  split
  · rw [if_pos (by omega)]
    rfl
  · rw [if_neg (by omega)]
    split
    · rfl
    · rw [if_neg (by omega)]
      rfl
theorem do_word (n : Nat) : Do_word n Rel := fun j C M hj hR x1 => by
  obtain ⟨K, L, σ, τ, hM, hC⟩ := id hR
  obtain ⟨hcls, hsh, hrec, hval, hroot, hrank, hold, hwrd, hstp⟩ := hM
  obtain ⟨kcls, ksh, kold, krec, kid, kcnt, kval, kroot, koldv, kwrd, kstp, kflt⟩ := hC
  by_cases hx : isW x1
  · obtain ⟨w, hw, h1, h2⟩ := hwrd
    have g1 : C.1 20 6 0 = nI w := kwrd.1.trans h1
    by_cases hw2 : w < 12
    · refine stI_ok (w := (nI (w + 1), mI (mI (mI M 0 0 0) 21 w x1) 20 0 (nI (w + 1)))) (v := nI (w + 1)) (C2 := sI (sI C 21 6 w x1) 20 6 0 (nI (w + 1))) ?_ ?_ rfl rfl ?_
      · unfold m_X7_word
        rw [q_isWord n C hx, Option.bind_some, if_pos one_ne, g1, if_pos (show nI w < 12 from nI_lt hw2 (by decide))]
        unfold m_X1_append
        rw [g1, if_neg (show ¬ 12 ≤ nI w from nI_ge hw2 (by decide)), inB_nI hw2 (by omega), nI_clamp (by omega)]
        show some (Sum.inl (C.1 20 6 0 + 1, sI (sI C 21 6 w x1) 20 6 0 (C.1 20 6 0 + 1))) = _
        rw [g1, nI_1]
      · rw [p_wordJ n M hx]
        unfold m_X8_word_J28
        rw [h1, if_pos (show ¬ nI w = 12 from fun h => by have := (nI_eq (a := w) (b := 12) (by omega) (by decide)).mp h; omega)]
        unfold m_X8_word_J42
        rw [code0]
        show (bif inB (M.1 20 0) 12 then some (M.1 20 0 + 1, mI (mI (mI M 0 0 0) 21 (M.1 20 0).toNatClampNeg x1) 20 0 (M.1 20 0 + 1)) else none) = _
        rw [h1, inB_nI hw2 (by omega), nI_clamp (by omega), nI_1]
        rfl
      · refine ⟨K, L, σ, τ, ⟨hcls, hsh, hrec, hval, hroot, hrank, hold, ?_, hstp⟩, ⟨kcls, ksh, kold, krec, CRid_up kid (by omega), kcnt, kval, kroot, koldv, ?_, ?_, kflt⟩⟩
        · refine ⟨w + 1, by omega, rfl, fun k hk => ?_⟩
          show isW ((mI (mI M 0 0 0) 21 w x1).1 21 k)
          rw [mI_at]
          by_cases e : k = w
          · rw [if_pos ⟨rfl, e⟩]; exact hx
          · rw [if_neg (fun h => e h.2)]
            exact h2 k (by omega)
        · refine ⟨rfl, fun w' k hw' h5 hk => ?_⟩
          have e1 : w + 1 = w' := (nI_eq (by omega) (by omega)).mp h5
          show (sI C 21 6 w x1).1 21 6 k = (mI (mI M 0 0 0) 21 w x1).1 21 k
          rw [mI_at, sI_at]
          by_cases e : k = w
          · rw [if_pos ⟨rfl, rfl, e⟩, if_pos ⟨rfl, e⟩]
          · rw [if_neg (fun h => e h.2.2), if_neg (fun h => e h.2)]
            exact kwrd.2 w k hw h1 (by omega)
        · refine ⟨kstp.1, fun q i hq h5 hi => ?_⟩
          obtain ⟨f1, f2, f3, f4, f5, f6⟩ := kstp.2 q i hq h5 hi
          refine ⟨f1, f2, f3, f4, f5, fun h6 => ?_⟩
          have hi6 : i ≠ 6 := by omega
          rw [sI_at, if_neg (fun h => hi6 h.2.1)]
          refine ⟨(f6 h6).1, fun l k hl h7 hk => ?_⟩
          show (sI C 21 6 w x1).1 21 i k = _
          rw [sI_at, if_neg (fun h => hi6 h.2.1)]
          exact (f6 h6).2 l k hl h7 hk
    · have e : w = 12 := by omega
      subst e
      refine stI_ex (w := (0, mI M 0 0 2)) (k := 3) (C2 := C) ?_ ?_ (by decide) rfl (Rel_code 2 (Rel_up hR))
      · unfold m_X7_word
        rw [q_isWord n C hx, Option.bind_some, if_pos one_ne, g1, if_neg (show ¬ nI 12 < 12 by decide)]
      · rw [p_wordJ n M hx]
        unfold m_X8_word_J28
        rw [h1, if_neg (fun h => h rfl)]
        rfl
  · refine stI_ex (w := (0, mI M 0 0 1)) (k := 1) (C2 := C) ?_ (p_wordJ0 n M hx) (by decide) rfl (Rel_code 1 (Rel_up hR))
    unfold m_X7_word
    rw [q_isWord0 n C hx]
    rfl
/-! ===== about, field ===== -/
theorem cn_split (p q : Nat → Bool) : ∀ m, cn p m = cn (fun k => p k && q k) m + cn (fun k => p k && !q k) m
  | 0 => rfl
  | m + 1 => by
    show cn p m + _ = (cn _ m + _) + (cn _ m + _)
    rw [cn_split p q m]
    cases h1 : p m <;> cases h2 : q m <;> simp [h1, h2] <;> omega
theorem cnt_of {j K L : Nat} {σ τ : Nat → Nat} {s : Nat → Nat → Nat → Int32} {m : Nat → Nat → Int32} (hC : CR j K L σ τ s m) {c : Nat} (hc : c < 4) (P : Int32 → Bool) : cn (fun r => decide (m 14 r = nI c) && P (m 15 r)) 24 = cn (fun e => (!decide (s 13 e 0 = 0) && decide (s 14 e 0 = nI c)) && P (s 15 e 0)) 24 := by
  obtain ⟨kcls, ksh, kold, krec, kid, kcnt, kval, kroot, koldv, kwrd, kstp, kflt⟩ := hC
  refine cn_bij σ τ (fun r hr hp => ?_) (fun e he hp => ?_)
  · simp only [Bool.and_eq_true, decide_eq_true_eq] at hp
    obtain ⟨g1, g2, g3, g4, g5⟩ := krec.1 r hr (by rw [hp.1]; exact nI_ne_m1 (by omega))
    refine ⟨g1, ?_, g2⟩
    simp only [Bool.and_eq_true, decide_eq_true_eq, Bool.not_eq_true', decide_eq_false_iff_not]
    exact ⟨⟨g3, by rw [g4]; exact hp.1⟩, by rw [g5]; exact hp.2⟩
  · simp only [Bool.and_eq_true, decide_eq_true_eq, Bool.not_eq_true', decide_eq_false_iff_not] at hp
    obtain ⟨g1, g2, g3⟩ := krec.2 e he hp.1.1
    refine ⟨g1, ?_, g2⟩
    obtain ⟨f1, f2, f3, f4, f5⟩ := krec.1 (τ e) g1 g3
    rw [g2] at f4 f5
    simp only [Bool.and_eq_true, decide_eq_true_eq]
    rw [← f4, ← f5]
    exact ⟨hp.1.2, hp.2⟩
theorem cnt_of1 {j K L : Nat} {σ τ : Nat → Nat} {s : Nat → Nat → Nat → Int32} {m : Nat → Nat → Int32} (hC : CR j K L σ τ s m) {c : Nat} (hc : c < 4) : cn (fun r => decide (m 14 r = nI c)) 24 = cn (fun e => !decide (s 13 e 0 = 0) && decide (s 14 e 0 = nI c)) 24 := by
  have h := cnt_of hC hc (fun _ => true)
  simpa using h
theorem do_about (n : Nat) (hn : 24 < n) : Do_about n Rel := fun j C M hj hR x1 x2 => by
  obtain ⟨K, L, σ, τ, hM, hC⟩ := id hR
  obtain ⟨hcls, hsh, hrec, hval, hroot, hrank, hold, hwrd, hstp⟩ := hM
  obtain ⟨kcls, ksh, kold, krec, kid, kcnt, kval, kroot, koldv, kwrd, kstp, kflt⟩ := id hC
  have hK4 : K ≤ 4 := hcls.1
  rcases nI_lt3 (x := x1) (N := K) (by omega) with ⟨c, hc, e⟩ | ⟨-, h⟩
  · subst e
    have hc4 : c < 4 := by omega
    rcases nI_lt3 (x := x2) (N := 4) (by decide) with ⟨w, hw, e⟩ | ⟨hne, h⟩
    · subst e
      have hm : m_X8_about n M (nI c) (nI w) = m_X8_about_J23 n M (nI c) (nI w) 0 := by
        unfold m_X8_about
        rw [p_isClass n hcls.2.1 hK4 hc, Option.bind_some, if_neg one_ne, if_neg (nI_pos (by omega)), if_neg (show ¬ 3 < nI w from nI_nlt (a := 3) (by omega) (by decide))]
      unfold m_X8_about_J23 at hm
      rw [code0] at hm
      have hcc : m_X7_needClass n C (nI c) = some (.inl ()) := q_needClass n kcls.1 hK4 hc
      obtain ⟨m, hm4, hS⟩ := hsh c hc4
      have hlt : w = 0 ∨ w = 1 ∨ w = 2 ∨ w = 3 := by omega
      rcases hlt with e | e | e | e <;> subst e
      · refine stP_ok (w := (M.1 2 c, mI M 0 0 0)) (v := C.1 3 c 0) ?_ ?_ rfl (kcls.2 c hc4).1.symm (Rel_code 0 (Rel_up hR))
        · unfold m_X7_about
          rw [hcc, inB_nI hc4 (by omega), nI_clamp (by omega)]
          rfl
        · rw [hm, inB_nI hc4 (by omega), nI_clamp (by omega)]
          rfl
      · refine stP_ok (w := (nI (cn (fun r => decide (M.1 14 r = nI c)) 24), mI M 0 0 0)) (v := nI (cn (fun e => !decide (C.1 13 e 0 = 0) && decide (C.1 14 e 0 = nI c)) 24)) ?_ ?_ rfl (by rw [cnt_of1 hC hc4]) (Rel_code 0 (Rel_up hR))
        · unfold m_X7_about
          rw [hcc, q_countOf hn]
          rfl
        · rw [hm, p_records (M := mI M 0 0 0) hn (nI_pos' (by omega))]
          rfl
      · refine stP_ok (w := (nI (cn (fun r => decide (M.1 14 r = nI c) && !decide (M.1 15 r = M.1 2 c)) 24), mI M 0 0 0)) (v := nI (cn (fun e => !decide (C.1 13 e 0 = 0) && decide (C.1 14 e 0 = nI c)) 24) - nI (cn (fun e => (!decide (C.1 13 e 0 = 0) && decide (C.1 14 e 0 = nI c)) && decide (C.1 15 e 0 = C.1 3 c 0)) 24)) ?_ ?_ rfl ?_ (Rel_code 0 (Rel_up hR))
        · unfold m_X7_about
          rw [hcc, q_countOf hn, inB_nI hc4 (by omega), nI_clamp (by omega), q_countKept hn]
          rfl
        · rw [hm, p_behind (M := mI M 0 0 0) hn hc4]
          rfl
        · show nI _ = _
          have h1 := cn_split (fun e => !decide (C.1 13 e 0 = 0) && decide (C.1 14 e 0 = nI c)) (fun e => decide (C.1 15 e 0 = C.1 3 c 0)) 24
          have h2 := cnt_of hC hc4 (fun v => !decide (v = M.1 2 c))
          rw [(kcls.2 c hc4).1] at h1 ⊢
          rw [pk_sub (by omega), h2]
          congr 1
          omega
      · refine stP_ok (w := (M.1 4 c, mI M 0 0 0)) (v := C.1 5 (2 * c) 0) ?_ ?_ rfl (by rw [(ksh c m hc4 hS.1 hm4).1]; exact hm4) (Rel_code 0 (Rel_up hR))
        · unfold m_X7_about
          rw [hcc, inB_nI hc4 (by omega), nI_clamp (by omega)]
          rfl
        · rw [hm, inB_nI hc4 (by omega), nI_clamp (by omega)]
          rfl
    · refine stP_ex (w := (0, mI M 0 0 1)) (k := 1) (C2 := C) ?_ ?_ (by decide) rfl (Rel_code 1 (Rel_up hR))
      · unfold m_X7_about
        rw [q_needClass n kcls.1 hK4 hc]
        show (if x2 = 0 then _ else _) = _
        rw [if_neg (show ¬ x2 = 0 from fun e => hne ⟨0, by omega, e⟩), if_neg (show ¬ x2 = 1 from fun e => hne ⟨1, by omega, e⟩), if_neg (show ¬ x2 = 2 from fun e => hne ⟨2, by omega, e⟩), if_neg (show ¬ x2 = 3 from fun e => hne ⟨3, by omega, e⟩)]
      · unfold m_X8_about
        rw [p_isClass n hcls.2.1 hK4 hc, Option.bind_some, if_neg one_ne]
        rcases h with h | h
        · rw [if_pos h]; rfl
        · by_cases h0 : x2 < 0
          · rw [if_pos h0]; rfl
          · rw [if_neg h0, if_pos ?_]
            · rfl
            · rw [Int32.le_iff_toInt_le, nI_toInt (by decide)] at h
              rw [Int32.lt_iff_toInt_lt]
              have e3 : (3 : Int32).toInt = 3 := by decide
              omega
  · refine stP_ex (w := (0, mI M 0 0 1)) (k := 1) (C2 := C) ?_ ?_ (by decide) rfl (Rel_code 1 (Rel_up hR))
    · unfold m_X7_about
      rw [q_needClass0 n kcls.1 h]
      rfl
    · unfold m_X8_about
      rw [p_isClass0 n hcls.2.1 h]
      rfl
theorem do_field (n : Nat) : Do_field n Rel := fun j C M hj hR x1 x2 x3 => by
  obtain ⟨K, L, σ, τ, hM, hC⟩ := id hR
  obtain ⟨hcls, hsh, hrec, hval, hroot, hrank, hold, hwrd, hstp⟩ := hM
  obtain ⟨kcls, ksh, kold, krec, kid, kcnt, kval, kroot, koldv, kwrd, kstp, kflt⟩ := id hC
  have hK4 : K ≤ 4 := hcls.1
  rcases nI_lt3 (x := x1) (N := K) (by omega) with ⟨c, hc, e⟩ | ⟨-, h⟩
  · subst e
    have hc4 : c < 4 := by omega
    have hcc : m_X7_needClass n C (nI c) = some (.inl ()) := q_needClass n kcls.1 hK4 hc
    obtain ⟨m, hm4, hS⟩ := hsh c hc4
    have hS6 := hS.1
    have hks := ksh c m hc4 hS.1 hm4
    rcases nI_lt3 (x := x3) (N := 4) (by decide) with ⟨w, hw, e⟩ | ⟨hne, h⟩
    · subst e
      have e1 : m_X8_field n M (nI c) x2 (nI w) = if x2 < 0 then m_X8_field_J36 n M (nI c) x2 (nI w) else if x2 < nI m then m_X8_field_J41 n M (nI c) x2 (nI w) 0 else m_X8_field_J36 n M (nI c) x2 (nI w) := by
        unfold m_X8_field
        rw [p_isClass n hcls.2.1 hK4 hc, Option.bind_some, if_neg one_ne, if_neg (nI_pos (by omega)), if_pos (show nI w ≤ 3 from nI_le (b := 3) (by omega) (by decide)), inB_nI hc4 (by omega), nI_clamp (by omega), hm4]
        rfl
      rcases nI_lt3 (x := x2) (N := m) (by omega) with ⟨i, hi, e⟩ | ⟨-, h⟩
      · subst e
        rw [if_neg (nI_pos (by omega)), if_pos (nI_lt hi (by omega))] at e1
        unfold m_X8_field_J41 at e1
        rw [code0, ix6] at e1
        have hlt : w = 0 ∨ w = 1 ∨ w = 2 ∨ w = 3 := by omega
        obtain ⟨q1, q2, q3, q4⟩ := hks.2 i hi
        rcases hlt with e | e | e | e <;> subst e
        · refine stP_ok (w := (M.1 5 (6 * c + i), mI M 0 0 0)) (v := C.1 6 (2 * c) i) ?_ ?_ rfl q1.symm (Rel_code 0 (Rel_up hR))
          · unfold m_X7_field
            rw [hcc, inB_nI hc4 (by omega), nI_clamp (by omega), hks.1, if_neg (show ¬ nI i < 0 from nI_pos (by omega)), if_pos (nI_lt hi (by omega)), inB_nI (show i < 6 by omega) (by omega), nI_clamp (by omega)]
            rfl
          · rw [e1]
            simp only [nm]
            rw [inB_nI (show 6 * c + i < 24 by omega) (by omega)]
            show some (M.1 5 (nI (6 * c + i)).toNatClampNeg, _) = _
            rw [nI_clamp (by omega)]
        · refine stP_ok (w := (M.1 6 (6 * c + i), mI M 0 0 0)) (v := C.1 7 (2 * c) i) ?_ ?_ rfl q2.symm (Rel_code 0 (Rel_up hR))
          · unfold m_X7_field
            rw [hcc, inB_nI hc4 (by omega), nI_clamp (by omega), hks.1, if_neg (show ¬ nI i < 0 from nI_pos (by omega)), if_pos (nI_lt hi (by omega)), inB_nI (show i < 6 by omega) (by omega), nI_clamp (by omega)]
            rfl
          · rw [e1]
            simp only [nm]
            rw [inB_nI (show 6 * c + i < 24 by omega) (by omega)]
            show some (M.1 6 (nI (6 * c + i)).toNatClampNeg, _) = _
            rw [nI_clamp (by omega)]
        · refine stP_ok (w := (M.1 7 (6 * c + i), mI M 0 0 0)) (v := C.1 8 (2 * c) i) ?_ ?_ rfl q3.symm (Rel_code 0 (Rel_up hR))
          · unfold m_X7_field
            rw [hcc, inB_nI hc4 (by omega), nI_clamp (by omega), hks.1, if_neg (show ¬ nI i < 0 from nI_pos (by omega)), if_pos (nI_lt hi (by omega)), inB_nI (show i < 6 by omega) (by omega), nI_clamp (by omega)]
            rfl
          · rw [e1]
            simp only [nm]
            rw [inB_nI (show 6 * c + i < 24 by omega) (by omega)]
            show some (M.1 7 (nI (6 * c + i)).toNatClampNeg, _) = _
            rw [nI_clamp (by omega)]
        · refine stP_ok (w := (M.1 8 (6 * c + i), mI M 0 0 0)) (v := C.1 9 (2 * c) i) ?_ ?_ rfl q4.symm (Rel_code 0 (Rel_up hR))
          · unfold m_X7_field
            rw [hcc, inB_nI hc4 (by omega), nI_clamp (by omega), hks.1, if_neg (show ¬ nI i < 0 from nI_pos (by omega)), if_pos (nI_lt hi (by omega)), inB_nI (show i < 6 by omega) (by omega), nI_clamp (by omega)]
            rfl
          · rw [e1]
            simp only [nm]
            rw [inB_nI (show 6 * c + i < 24 by omega) (by omega)]
            show some (M.1 8 (nI (6 * c + i)).toNatClampNeg, _) = _
            rw [nI_clamp (by omega)]
      · have e2 : m_X8_field n M (nI c) x2 (nI w) = some (0, mI M 0 0 2) := by
          rw [e1]
          by_cases h0 : x2 < 0
          · rw [if_pos h0]; rfl
          · rcases h with h | h
            · exact absurd h h0
            · rw [if_neg h0, if_neg (Int32.not_lt.mpr h)]; rfl
        refine stP_ex (w := (0, mI M 0 0 2)) (k := 4) (C2 := C) ?_ e2 (by decide) rfl (Rel_code 2 (Rel_up hR))
        unfold m_X7_field
        rw [hcc]
        show (if nI w < 0 then _ else _) = _
        rw [if_neg (nI_pos (by omega)), if_pos (show nI w ≤ 3 from nI_le (b := 3) (by omega) (by decide)), inB_nI hc4 (by omega), nI_clamp (by omega), hks.1]
        by_cases h0 : x2 < 0
        · rw [if_pos h0]; rfl
        · rcases h with h | h
          · exact absurd h h0
          · rw [if_neg h0, if_neg (Int32.not_lt.mpr h)]; rfl
    · have hx3 : x3 < 0 ∨ ¬ x3 < 0 ∧ ¬ x3 ≤ 3 := by
        rcases h with h | h
        · exact Or.inl h
        · by_cases h0 : x3 < 0
          · exact Or.inl h0
          · refine Or.inr ⟨h0, fun h2 => ?_⟩
            rw [Int32.le_iff_toInt_le, nI_toInt (by decide)] at h
            rw [Int32.le_iff_toInt_le] at h2
            have e3 : (3 : Int32).toInt = 3 := by decide
            omega
      refine stP_ex (w := (0, mI M 0 0 1)) (k := 1) (C2 := C) ?_ ?_ (by decide) rfl (Rel_code 1 (Rel_up hR))
      · unfold m_X7_field
        rw [hcc]
        show (if x3 < 0 then _ else _) = _
        rcases hx3 with h | ⟨h1, h2⟩
        · rw [if_pos h]
        · rw [if_neg h1, if_neg h2]
      · unfold m_X8_field
        rw [p_isClass n hcls.2.1 hK4 hc, Option.bind_some, if_neg one_ne]
        rcases hx3 with h | ⟨h1, h2⟩
        · rw [if_pos h]; rfl
        · rw [if_neg h1, if_neg h2]; rfl
  · refine stP_ex (w := (0, mI M 0 0 1)) (k := 1) (C2 := C) ?_ ?_ (by decide) rfl (Rel_code 1 (Rel_up hR))
    · unfold m_X7_field
      rw [q_needClass0 n kcls.1 h]
      rfl
    · unfold m_X8_field
      rw [p_isClass0 n hcls.2.1 h]
      rfl
