/-! ===== get ===== -/
theorem do_get (n : Nat) (hn : 24 < n) : Do_get n Rel := fun j C M hj hR x1 x2 => by
  obtain ⟨K, L, σ, τ, hM, hC⟩ := id hR
  have hK4 : K ≤ 4 := hM.1.1
  rcases nI_lt3 (x := x1) (N := 8) (by decide) with ⟨i, hi, e⟩ | ⟨-, h⟩
  · subst e
    rcases nI_lt3 (x := x2) (N := 10) (by decide) with ⟨a, ha, e⟩ | ⟨-, h⟩
    · subst e
      rcases root_cases hM hC hi with ⟨a1, a2⟩ | ⟨p, c, hp, hcK, a1, a2, a3, a4, a5, a6, a7⟩
      · refine stI_ex (w := (0, mI M 0 0 2)) (k := 2) (C2 := C) ?_ ?_ (by decide) rfl (Rel_code 2 (Rel_up hR))
        · unfold m_X7_get
          rw [q_needRoot n C hi, q_needName n C ha, q_held0 hi a2]
          rfl
        · unfold m_X8_get
          rw [p_place0 hi ha a1]
          rfl
      · have hc4 : c < 4 := by omega
        have hcls : m_X7_get n C (nI i) (nI a) = (m_X7_numberPlace n C (σ p) (nI a)).bind (fun z41 => sumE (fun w42 => (m_X7_bringForward n C (σ p)).bind (fun z44 => bif inB w42 6 then (some (.inl (z44.2.1 17 (σ p) w42.toNatClampNeg, z44.2))) else none)) (fun q => some (.inr q)) z41) := by
          unfold m_X7_get
          rw [q_needRoot n C hi, q_needName n C ha, q_held hn hi a4 a3 a5 hC.2.2.2.2.1.2.2.2]
          show (bif decide (σ p < 24) then _ else none) = _
          rw [decide_eq_true a4]
          rfl
        obtain ⟨m, hm6, hm, g1, g2, g3⟩ := fld_cases hM hC (n := n) (by omega) hc4 (nI a)
        rw [q_numPlace (m := m) hc4 a6 g2] at hcls
        rcases g3 with g3 | ⟨k, hk, g3, g4, g5, g6⟩
        · rw [g3, q_isNumber0] at hcls
          refine stI_ex (w := (0, mI M 0 0 2)) (k := 2) (C2 := C) hcls ?_ (by decide) rfl (Rel_code 2 (Rel_up hR))
          unfold m_X8_get
          rw [p_placeN (by omega) hi ha hp hc4 a1 a2 hm6 hm g3]
          rfl
        · rw [g3, q_isNumber hm6 g1 hk, g4] at hcls
          have hpl := p_place (n := n) (y := 1) (by omega) hi ha hp hc4 a1 a2 hm6 hm g3 hk
          by_cases hq : r6 (M.1 6) c k = 0
          · rw [if_pos hq] at hcls
            rw [if_pos hq, if_pos rfl] at hpl
            obtain ⟨f1, f2⟩ := Rel_touch (M := mI M 0 0 0) hM hC hp hcK a2
            refine stI_ok (w := (M.1 16 (6 * p + k), mI (mI M 0 0 0) 15 p (M.1 2 c))) (v := C.1 17 (σ p) k) (C2 := sI C 15 (σ p) 0 (C.1 3 c 0)) ?_ ?_ rfl ?_ ⟨K, L, σ, τ, f1, CR_up f2⟩
            · rw [hcls]
              show (m_X7_bringForward n C (σ p)).bind _ = _
              rw [q_bring hc4 a6, Option.bind_some, inB_nI (by omega : k < 6) (by omega), nI_clamp (by omega)]
              rfl
            · unfold m_X8_get
              rw [hpl, Option.bind_some, if_pos (nI_pos' (by omega)), inB_nI hi (by omega), nI_clamp (by omega)]
              show (m_X8_touchRecord n (mI M 0 0 0) (M.1 19 i)).bind (fun z20 => bif inB (6 * z20.1 19 i + nI k) 144 then some (z20.1 16 (6 * z20.1 19 i + nI k).toNatClampNeg, z20) else none) = _
              rw [a1, p_touch (M := mI M 0 0 0) hp hc4 a2, Option.bind_some]
              show (bif inB (6 * M.1 19 i + nI k) 144 then some (M.1 16 (6 * M.1 19 i + nI k).toNatClampNeg, _) else none) = _
              rw [a1, ix6, inB_nI (by omega) (by omega), nI_clamp (by omega)]
              rfl
            · have hv := hC.2.2.2.2.2.2.1 p c k 0 ⟨hp, hc4, a2, ⟨m, hm6, hm, hk⟩, hq⟩
              rw [if_pos rfl] at hv
              exact hv.symm
          · rw [if_neg hq] at hcls
            rw [if_neg hq, if_neg one_ne] at hpl
            refine stI_ex (w := (0, mI M 0 0 2)) (k := 2) (C2 := C) hcls ?_ (by decide) rfl (Rel_code 2 (Rel_up hR))
            unfold m_X8_get
            rw [hpl]
            rfl
    · refine stI_ex (w := (0, mI M 0 0 1)) (k := 1) (C2 := C) ?_ ?_ (by decide) rfl (Rel_code 1 (Rel_up hR))
      · unfold m_X7_get
        rw [q_needRoot n C hi, q_needName0 n C h]
        rfl
      · unfold m_X8_get
        rw [p_placeY hi h]
        rfl
  · refine stI_ex (w := (0, mI M 0 0 1)) (k := 1) (C2 := C) ?_ ?_ (by decide) rfl (Rel_code 1 (Rel_up hR))
    · unfold m_X7_get
      rw [q_needRoot0 n C h]
      rfl
    · unfold m_X8_get
      rw [p_placeX h]
      rfl
/-! ===== a class's change can be taken back no longer ===== -/
theorem Rel_close {j K L : Nat} {σ τ : Nat → Nat} {C : CSt} {M : MSt} (hM : MI K M.1) (hC : CR j K L σ τ C.1 M.1) {c : Nat} : MI K (mI M 3 c 0).1 ∧ CR j K L σ τ (sI C 4 c 0 0).1 (mI M 3 c 0).1 := by
  obtain ⟨hcls, hsh, hrec, hval, hroot, hrank, hold, hwrd, hstp⟩ := hM
  obtain ⟨kcls, ksh, kold, krec, kid, kcnt, kval, kroot, koldv, kwrd, kstp, kflt⟩ := hC
  have key : ∀ d, (mI M 3 c 0).1 3 d = 1 → M.1 3 d = 1 := fun d h => by
    rw [mI_at] at h
    by_cases e : d = c
    · rw [if_pos ⟨rfl, e⟩] at h
      exact absurd h (by decide)
    · rwa [if_neg (fun h2 => e h2.2)] at h
  refine ⟨⟨⟨hcls.1, hcls.2.1, fun d hd => ?_⟩, hsh, hrec, hval, hroot, hrank, fun d hd => ?_, hwrd, hstp⟩, ⟨⟨kcls.1, fun d hd => ⟨(kcls.2 d hd).1, ?_⟩⟩, ksh, fun d m hd hm6 h9 h3 => kold d m hd hm6 h9 (key d h3), krec, kid, kcnt, kval, kroot, fun d mo r k hd h3 => koldv d mo r k hd (key d h3), kwrd, kstp, kflt⟩⟩
  · obtain ⟨⟨v, hv, e, h1⟩, h2⟩ := hcls.2.2 d hd
    refine ⟨⟨v, hv, e, fun h => h1 (key d h)⟩, ?_⟩
    rw [mI_at]
    by_cases e : d = c
    · rw [if_pos ⟨rfl, e⟩]; exact Or.inl rfl
    · rw [if_neg (fun h2 => e h2.2)]; exact h2
  · obtain ⟨mo, h1, h2, h3⟩ := hold d hd
    exact ⟨mo, h1, h2, fun h => h3 (key d h)⟩
  · rw [mI_at, sI_at]
    by_cases e : d = c
    · rw [if_pos ⟨rfl, e, rfl⟩, if_pos ⟨rfl, e⟩]
    · rw [if_neg (fun h2 => e h2.2.1), if_neg (fun h2 => e h2.2)]
      exact (kcls.2 d hd).2
/-! ===== a value is written ===== -/
theorem r6_up {M : MSt} {p k : Nat} {v : Int32} {f : Nat} (hk : k < 6) {r k' : Nat} (hk' : k' < 6) : r6 ((mI M f (6 * p + k) v).1 f) r k' = if r = p ∧ k' = k then v else r6 (M.1 f) r k' := by
  unfold r6
  rw [mI_at]
  by_cases h : r = p ∧ k' = k
  · rw [if_pos h, if_pos ⟨rfl, by rw [h.1, h.2]⟩]
  · rw [if_neg h, if_neg (fun h2 => h ⟨by have := h2.2; omega, by have := h2.2; omega⟩)]
theorem Fld_lt {m4 m6 m14 : Nat → Int32} {r c k : Nat} {q : Int32} (h : Fld m4 m6 m14 r c k q) : k < 6 := by
  obtain ⟨-, -, -, ⟨m, h1, -, h2⟩, -⟩ := h
  omega
theorem Fld_same {m4 m6 m14 : Nat → Int32} {r c c' k : Nat} {q q' : Int32} (h : Fld m4 m6 m14 r c k q) (h' : Fld m4 m6 m14 r c' k q') : c = c' ∧ q = q' := by
  obtain ⟨-, h1, h2, -, h3⟩ := h
  obtain ⟨-, h1', h2', -, h3'⟩ := h'
  have e := (nI_eq (by omega) (by omega)).mp (h2.symm.trans h2')
  subst e
  exact ⟨rfl, h3.symm.trans h3'⟩
theorem set_cell {j K L : Nat} {σ τ : Nat → Nat} {C : CSt} {M : MSt} (hM : MI K M.1) (hC : CR j K L σ τ C.1 M.1) {p c k : Nat} {q v v' : Int32} (hF : Fld (M.1 4) (M.1 6) (M.1 14) p c k q) (h3 : M.1 3 c = 0) (hq : (q = 0 ∧ r6 (M.1 7) c k ≤ v ∧ v ≤ r6 (M.1 8) c k ∧ v' = v) ∨ (q = 1 ∧ v' = tr σ (C.1 13) v ∧ (v = -1 ∨ ∃ t, t < 24 ∧ v = nI t ∧ M.1 14 t ≠ -1 ∧ ∀ r' k', ¬ Own (M.1 4) (M.1 6) (M.1 14) (M.1 16) r' k' t))) : MI K (mI M 16 (6 * p + k) v).1 ∧ CR j K L σ τ (sI C 17 (σ p) k v').1 (mI M 16 (6 * p + k) v).1 := by
  obtain ⟨hcls, hsh, hrec, hval, hroot, hrank, hold, hwrd, hstp⟩ := hM
  obtain ⟨kcls, ksh, kold, krec, kid, kcnt, kval, kroot, koldv, kwrd, kstp, kflt⟩ := hC
  have hk6 : k < 6 := Fld_lt hF
  have hq2 : q ≠ 2 := by
    rcases hq with h | h
    · rw [h.1]; decide
    · rw [h.1]; decide
  have up := fun {r k' : Nat} (h : k' < 6) => r6_up (M := M) (p := p) (v := v) (f := 16) hk6 (r := r) (k' := k') h
  have own : ∀ r k' t, Own (M.1 4) (M.1 6) (M.1 14) ((mI M 16 (6 * p + k) v).1 16) r k' t → Own (M.1 4) (M.1 6) (M.1 14) (M.1 16) r k' t := by
    rintro r k' t ⟨d, h1, h2⟩
    refine ⟨d, h1, ?_⟩
    rw [up (Fld_lt h1)] at h2
    by_cases e : r = p ∧ k' = k
    · obtain ⟨e1, e2⟩ := e
      subst e1 e2
      exact absurd (Fld_same hF h1).2 hq2
    · rwa [if_neg e] at h2
  refine ⟨⟨hcls, hsh, hrec, ⟨fun r d k' h => ?_, fun r d k' h => ?_, fun r d k' h => ?_, fun r k1 r' k2 t h h' => hval.2.2.2 r k1 r' k2 t (own _ _ _ h) (own _ _ _ h')⟩, hroot, hrank, fun d hd => ?_, hwrd, hstp⟩, ⟨kcls, ksh, kold, krec, kid, kcnt, fun r d k' q' h => ?_, kroot, koldv, kwrd, kstp, kflt⟩⟩
  · show r6 (M.1 7) d k' ≤ r6 ((mI M 16 (6 * p + k) v).1 16) r k' ∧ r6 ((mI M 16 (6 * p + k) v).1 16) r k' ≤ r6 (M.1 8) d k'
    rw [up (Fld_lt h)]
    by_cases e : r = p ∧ k' = k
    · rw [if_pos e]
      obtain ⟨e1, e2⟩ := e
      subst e1 e2
      obtain ⟨e1, e2⟩ := Fld_same hF h
      subst e1
      rcases hq with hq | hq
      · exact ⟨hq.2.1, hq.2.2.1⟩
      · exact absurd (hq.1.symm.trans e2) (by decide)
    · rw [if_neg e]
      exact hval.1 r d k' h
  · show r6 ((mI M 16 (6 * p + k) v).1 16) r k' = -1 ∨ ∃ t, t < 24 ∧ r6 ((mI M 16 (6 * p + k) v).1 16) r k' = nI t ∧ M.1 14 t ≠ -1 ∧ ∀ r' k', ¬ Own (M.1 4) (M.1 6) (M.1 14) ((mI M 16 (6 * p + k) v).1 16) r' k' t
    rw [up (Fld_lt h)]
    have base : ∀ w : Int32, (w = -1 ∨ ∃ t, t < 24 ∧ w = nI t ∧ M.1 14 t ≠ -1 ∧ ∀ r' k', ¬ Own (M.1 4) (M.1 6) (M.1 14) (M.1 16) r' k' t) → (w = -1 ∨ ∃ t, t < 24 ∧ w = nI t ∧ M.1 14 t ≠ -1 ∧ ∀ r' k', ¬ Own (M.1 4) (M.1 6) (M.1 14) ((mI M 16 (6 * p + k) v).1 16) r' k' t) := fun w hw => by
      rcases hw with hw | ⟨t, w1, w2, w3, w4⟩
      · exact Or.inl hw
      · exact Or.inr ⟨t, w1, w2, w3, fun r' k' ho => w4 r' k' (own _ _ _ ho)⟩
    by_cases e : r = p ∧ k' = k
    · rw [if_pos e]
      obtain ⟨e1, e2⟩ := e
      subst e1 e2
      obtain ⟨e1, e2⟩ := Fld_same hF h
      rcases hq with hq | hq
      · exact absurd (hq.1.symm.trans e2) (by decide)
      · exact base v hq.2.2
    · rw [if_neg e]
      exact base _ (hval.2.1 r d k' h)
  · show ∃ t, t < 24 ∧ r6 ((mI M 16 (6 * p + k) v).1 16) r k' = nI t ∧ M.1 14 t = r6 (M.1 7) d k'
    rw [up (Fld_lt h)]
    by_cases e : r = p ∧ k' = k
    · obtain ⟨e1, e2⟩ := e
      subst e1 e2
      exact absurd (Fld_same hF h).2 hq2
    · rw [if_neg e]
      exact hval.2.2.1 r d k' h
  · obtain ⟨mo, h1, h2, h4⟩ := hold d hd
    refine ⟨mo, h1, h2, fun h => ?_⟩
    obtain ⟨h5, h6, h7, φ, h8, h9⟩ := h4 h
    have hdc : d ≠ c := fun e => by
      rw [e] at h
      have h' : M.1 3 c = 1 := h
      rw [h3] at h'
      exact absurd h' (by decide)
    refine ⟨h5, h6, fun r k' hr h14 hk' ho => ?_, φ, fun k' hk' ho => ?_, h9⟩
    · rcases h7 r k' hr h14 hk' ho with w1 | ⟨t, w1, w2, w3, w4⟩
      · exact Or.inl w1
      · exact Or.inr ⟨t, w1, w2, w3, fun r' k' ho => w4 r' k' (own _ _ _ ho)⟩
    · obtain ⟨⟨m, b1, b2, b3⟩, b4, b5, b6⟩ := h8 k' hk' ho
      refine ⟨⟨m, b1, b2, b3⟩, b4, b5, fun r hr h14 => ?_⟩
      show r6 (M.1 17) r k' = r6 ((mI M 16 (6 * p + k) v).1 16) r (φ k')
      rw [up (by omega), if_neg (fun e => ?_)]
      · exact b6 r hr h14
      · obtain ⟨-, g1, g2, -⟩ := hF
        rw [e.1] at h14
        have h14' : M.1 14 p = nI d := h14
        exact hdc ((nI_eq (by omega) (by omega)).mp (h14'.symm.trans g2))
  · show (sI C 17 (σ p) k v').1 17 (σ r) k' = if q' = 0 then r6 ((mI M 16 (6 * p + k) v).1 16) r k' else tr σ (C.1 13) (r6 ((mI M 16 (6 * p + k) v).1 16) r k')
    rw [up (Fld_lt h), sI_at]
    have lv : ∀ {r d k' q'}, Fld (M.1 4) (M.1 6) (M.1 14) r d k' q' → r < 24 ∧ M.1 14 r ≠ -1 := fun {r d k' q'} h => ⟨h.1, by rw [h.2.2.1]; exact nI_ne_m1 (by have := h.2.1; omega)⟩
    by_cases e : r = p ∧ k' = k
    · rw [if_pos ⟨rfl, by rw [e.1], e.2⟩, if_pos e]
      obtain ⟨e1, e2⟩ := e
      subst e1 e2
      obtain ⟨e1, e2⟩ := Fld_same hF h
      rcases hq with hq | hq
      · rw [if_pos (e2.symm.trans hq.1)]; exact hq.2.2.2
      · rw [if_neg (by rw [← e2, hq.1]; decide)]; exact hq.2.1
    · rw [if_neg (fun h2 => e ⟨?_, h2.2.2⟩), if_neg e]
      · exact kval r d k' q' h
      · have e1 := (krec.1 r (lv h).1 (lv h).2).2.1
        have e2 := (krec.1 p (lv hF).1 (lv hF).2).2.1
        rw [← e1, h2.2.1, e2]
