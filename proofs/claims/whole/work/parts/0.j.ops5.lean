theorem sI_comm (S : CSt) {f g : Nat} (i k j l : Nat) (a b : Int32) (h : f ≠ g) : sI (sI S f i k a) g j l b = sI (sI S g j l b) f i k a := by
  refine Prod.ext (funext fun x => funext fun y => funext fun z => ?_) rfl
  rw [sI_at, sI_at, sI_at, sI_at]
  by_cases h1 : x = f ∧ y = i ∧ z = k
  · have h2 : ¬ (x = g ∧ y = j ∧ z = l) := fun h2 => h (h1.1.symm.trans h2.1)
    rw [if_neg h2, if_pos h1, if_pos h1]
  · rw [if_neg h1, if_neg h1]
/-- a value is written into a touched record whose class is closed -/
theorem Rel_write {j : Nat} {C : CSt} {M : MSt} {K L : Nat} {σ τ : Nat → Nat} (hM : MI K M.1) (hC : CR j K L σ τ C.1 M.1) {p c k : Nat} {q v v' : Int32} (hcK : c < K) (hF : Fld (M.1 4) (M.1 6) (M.1 14) p c k q) (hq : (q = 0 ∧ r6 (M.1 7) c k ≤ v ∧ v ≤ r6 (M.1 8) c k ∧ v' = v) ∨ (q = 1 ∧ v' = tr σ (C.1 13) v ∧ (v = -1 ∨ ∃ t, t < 24 ∧ v = nI t ∧ M.1 14 t ≠ -1 ∧ ∀ r' k', ¬ Own (M.1 4) (M.1 6) (M.1 14) (M.1 16) r' k' t))) : Rel (j + 1) (sI (sI (sI C 17 (σ p) k v') 4 c 0 0) 15 (σ p) 0 (C.1 3 c 0)) (mI (mI (mI (mI M 0 0 0) 15 p (M.1 2 c)) 16 (6 * p + k) v) 3 c 0) := by
  obtain ⟨f1, f2⟩ := Rel_touch (M := mI M 0 0 0) hM hC hF.1 hcK hF.2.2.1
  obtain ⟨f3, f4⟩ := Rel_close (c := c) f1 f2
  obtain ⟨f5, f6⟩ := set_cell f3 f4 (p := p) (c := c) (k := k) (q := q) (v := v) (v' := v') hF (mI_eq _ _ _ _) hq
  refine ⟨K, L, σ, τ, ?_, CR_up ?_⟩
  · rw [mI_comm _ _ _ _ _ (by decide : (16 : Nat) ≠ 3)]
    exact f5
  · rw [mI_comm _ _ _ _ _ (by decide : (16 : Nat) ≠ 3), sI_comm _ _ _ _ _ _ _ (by decide : (4 : Nat) ≠ 15), sI_comm C _ _ _ _ _ _ (by decide : (17 : Nat) ≠ 15), sI_comm _ _ _ _ _ _ _ (by decide : (17 : Nat) ≠ 4)]
    exact f6
theorem do_set (n : Nat) (hn : 24 < n) : Do_set n Rel := fun j C M hj hR x1 x2 x3 => by
  obtain ⟨K, L, σ, τ, hM, hC⟩ := id hR
  have hK4 : K ≤ 4 := hM.1.1
  rcases nI_lt3 (x := x1) (N := 8) (by decide) with ⟨i, hi, e⟩ | ⟨-, h⟩
  · subst e
    rcases nI_lt3 (x := x2) (N := 10) (by decide) with ⟨a, ha, e⟩ | ⟨-, h⟩
    · subst e
      rcases root_cases hM hC hi with ⟨a1, a2⟩ | ⟨p, c, hp, hcK, a1, a2, a3, a4, a5, a6, a7⟩
      · refine stV_ex (w := mI M 0 0 2) (k := 2) (C2 := C) ?_ ?_ (by decide) rfl (Rel_code 2 (Rel_up hR))
        · unfold m_X7_set
          rw [q_needRoot n C hi, q_needName n C ha, q_held0 hi a2]
          rfl
        · unfold m_X8_set
          rw [p_place0 hi ha a1]
          rfl
      · have hc4 : c < 4 := by omega
        have hcls : m_X7_set n C (nI i) (nI a) x3 = (m_X7_numberPlace n C (σ p) (nI a)).bind (fun z51 => sumE (fun w52 => (bif inB w52 6 then (if x3 < (C.1 8 (2 * c) w52.toNatClampNeg) then (some (.inr (3, C))) else (bif inB w52 6 then (if x3 ≤ (C.1 9 (2 * c) w52.toNatClampNeg) then (bif inB w52 6 then ((m_X7_bringForward n (sI (sI C 17 (σ p) w52.toNatClampNeg x3) 4 c 0 0) (σ p)).bind (fun z64 => some (.inl z64.2))) else none) else (some (.inr (3, C)))) else none)) else none)) (fun q => some (.inr q)) z51) := by
          unfold m_X7_set
          rw [q_needRoot n C hi, q_needName n C ha, q_held hn hi a4 a3 a5 hC.2.2.2.2.1.2.2.2]
          show (bif decide (σ p < 24) then _ else none) = _
          rw [decide_eq_true a4, a6, inB_nI hc4 (by omega), nI_clamp (by omega : c < 2 ^ 31)]
          rfl
        obtain ⟨m, hm6, hm, g1, g2, g3⟩ := fld_cases hM hC (n := n) (by omega) hc4 (nI a)
        rw [q_numPlace (m := m) hc4 a6 g2] at hcls
        rcases g3 with g3 | ⟨k, hk, g3, g4, g5, g6⟩
        · rw [g3, q_isNumber0] at hcls
          refine stV_ex (w := mI M 0 0 2) (k := 2) (C2 := C) hcls ?_ (by decide) rfl (Rel_code 2 (Rel_up hR))
          unfold m_X8_set
          rw [p_placeN (by omega) hi ha hp hc4 a1 a2 hm6 hm g3]
          rfl
        · rw [g3, q_isNumber hm6 g1 hk, g4] at hcls
          have hpl := p_place (n := n) (y := 1) (by omega) hi ha hp hc4 a1 a2 hm6 hm g3 hk
          by_cases hq : r6 (M.1 6) c k = 0
          · rw [if_pos hq] at hcls
            rw [if_pos hq, if_pos rfl] at hpl
            have e1 : m_X7_set n C (nI i) (nI a) x3 = if x3 < r6 (M.1 7) c k then some (.inr (3, C)) else if x3 ≤ r6 (M.1 8) c k then some (.inl (sI (sI (sI C 17 (σ p) k x3) 4 c 0 0) 15 (σ p) 0 (C.1 3 c 0))) else some (.inr (3, C)) := by
              rw [hcls]
              show (bif inB (nI k) 6 then _ else none) = _
              rw [inB_nI (by omega : k < 6) (by omega), nI_clamp (by omega), g5, g6, q_bring (S := sI (sI C 17 (σ p) k x3) 4 c 0 0) hc4 a6]
              rfl
            have e2 : m_X8_set n M (nI i) (nI a) x3 = if x3 < r6 (M.1 7) c k then some (mI M 0 0 3) else if x3 ≤ r6 (M.1 8) c k then some (mI (mI (mI (mI M 0 0 0) 15 p (M.1 2 c)) 16 (6 * p + k) x3) 3 c 0) else some (mI M 0 0 3) := by
              unfold m_X8_set
              rw [hpl, Option.bind_some, if_pos (nI_pos' (by omega)), inB_nI hi (by omega), nI_clamp (by omega)]
              show (bif inB (M.1 19 i) 24 then nm (6 * M.1 14 (M.1 19 i).toNatClampNeg + nI k) (fun x65 => bif inB x65 24 then (if x3 < (M.1 7 x65.toNatClampNeg) then (m_X8_set_J61 n (mI M 0 0 0) x3 (nI k) (M.1 19 i)) else (bif inB x65 24 then (if x3 ≤ (M.1 8 x65.toNatClampNeg) then (m_X8_set_J66 n (mI M 0 0 0) x3 (nI k) (M.1 19 i) 0) else (m_X8_set_J61 n (mI M 0 0 0) x3 (nI k) (M.1 19 i))) else none)) else none) else none) = _
              rw [a1, inB_nI hp (by omega), nI_clamp (by omega), a2, ix6]
              simp only [nm]
              rw [inB_nI (by omega) (by omega), nI_clamp (by omega)]
              have j0 : m_X8_set_J66 n (mI M 0 0 0) x3 (nI k) (nI p) 0 = some (mI (mI (mI (mI M 0 0 0) 15 p (M.1 2 c)) 16 (6 * p + k) x3) 3 c 0) := by
                unfold m_X8_set_J66
                rw [code0e, mI_twice, p_touch (M := mI M 0 0 0) hp hc4 a2, Option.bind_some, ix6, inB_nI (by omega) (by omega), nI_clamp (by omega), inB_nI hp (by omega), nI_clamp (by omega)]
                show (bif inB (M.1 14 p) 4 then some (mI (mI (mI (mI M 0 0 0) 15 p (M.1 2 c)) 16 (6 * p + k) x3) 3 (M.1 14 p).toNatClampNeg 0) else none) = _
                rw [a2, inB_nI hc4 (by omega), nI_clamp (by omega)]
                rfl
              have j1 : m_X8_set_J61 n (mI M 0 0 0) x3 (nI k) (nI p) = some (mI M 0 0 3) := by
                unfold m_X8_set_J61 m_X8_set_J66
                rw [codeXe (by decide), mI_twice]
              rw [j0, j1]
              rfl
            by_cases b1 : x3 < r6 (M.1 7) c k
            · rw [if_pos b1] at e1 e2
              exact stV_ex e1 e2 (by decide) rfl (Rel_code 3 (Rel_up hR))
            · rw [if_neg b1] at e1 e2
              by_cases b2 : x3 ≤ r6 (M.1 8) c k
              · rw [if_pos b2] at e1 e2
                exact stV_ok e1 e2 rfl (Rel_write hM hC hcK (q := 0) ⟨hp, hc4, a2, ⟨m, hm6, hm, hk⟩, hq⟩ (Or.inl ⟨rfl, Int32.not_lt.mp b1, b2, rfl⟩))
              · rw [if_neg b2] at e1 e2
                exact stV_ex e1 e2 (by decide) rfl (Rel_code 3 (Rel_up hR))
          · rw [if_neg hq] at hcls
            rw [if_neg hq, if_neg one_ne] at hpl
            refine stV_ex (w := mI M 0 0 2) (k := 2) (C2 := C) hcls ?_ (by decide) rfl (Rel_code 2 (Rel_up hR))
            unfold m_X8_set
            rw [hpl]
            rfl
    · refine stV_ex (w := mI M 0 0 1) (k := 1) (C2 := C) ?_ ?_ (by decide) rfl (Rel_code 1 (Rel_up hR))
      · unfold m_X7_set
        rw [q_needRoot n C hi, q_needName0 n C h]
        rfl
      · unfold m_X8_set
        rw [p_placeY hi h]
        rfl
  · refine stV_ex (w := mI M 0 0 1) (k := 1) (C2 := C) ?_ ?_ (by decide) rfl (Rel_code 1 (Rel_up hR))
    · unfold m_X7_set
      rw [q_needRoot0 n C h]
      rfl
    · unfold m_X8_set
      rw [p_placeX h]
      rfl
/-! ===== a root is written ===== -/
theorem Rel_root {j K L : Nat} {σ τ : Nat → Nat} {C : CSt} {M : MSt} (hM : MI K M.1) (hC : CR j K L σ τ C.1 M.1) {i : Nat} {v : Int32} (hv : v = -1 ∨ ∃ p, p < 24 ∧ v = nI p ∧ M.1 14 p ≠ -1) : MI K (mI M 19 i v).1 ∧ CR j K L σ τ (sI C 19 0 i (tr σ (C.1 13) v)).1 (mI M 19 i v).1 := by
  obtain ⟨hcls, hsh, hrec, hval, hroot, hrank, hold, hwrd, hstp⟩ := hM
  obtain ⟨kcls, ksh, kold, krec, kid, kcnt, kval, kroot, koldv, kwrd, kstp, kflt⟩ := hC
  refine ⟨⟨hcls, hsh, hrec, hval, fun i2 hi2 => ?_, hrank, hold, hwrd, hstp⟩, ⟨kcls, ksh, kold, krec, kid, kcnt, kval, fun i2 hi2 => ?_, koldv, kwrd, kstp, kflt⟩⟩
  · show (mI M 19 i v).1 19 i2 = -1 ∨ ∃ p, p < 24 ∧ (mI M 19 i v).1 19 i2 = nI p ∧ M.1 14 p ≠ -1
    rw [mI_at]
    by_cases h : i2 = i
    · rw [if_pos ⟨rfl, h⟩]; exact hv
    · rw [if_neg (fun h2 => h h2.2)]
      exact hroot i2 hi2
  · rw [mI_at, sI_at]
    by_cases h : i2 = i
    · rw [if_pos ⟨rfl, rfl, h⟩, if_pos ⟨rfl, h⟩]; rfl
    · rw [if_neg (fun h2 => h h2.2.2), if_neg (fun h2 => h h2.2)]
      exact kroot i2 hi2
theorem Fld_kind {K : Nat} {m : Nat → Nat → Int32} (hM : MI K m) {c q k : Nat} (hc : c < 4) (hq : m 4 c = nI q) (hq6 : q ≤ 6) (hk : k < q) : r6 (m 6) c k = 0 ∨ r6 (m 6) c k = 1 ∨ r6 (m 6) c k = 2 := by
  obtain ⟨q', h1, h2⟩ := hM.2.1 c hc
  have h6 := h2.1
  have e : q = q' := (nI_eq (by omega) (by omega)).mp (hq.symm.trans h1)
  subst e
  rcases (h2.2.2 k hk).2 with h | h
  · exact Or.inl h.1
  · exact Or.inr h.1
/-- a reference: nothing, or a live record -/
theorem ref_live {K : Nat} {m : Nat → Nat → Int32} (hM : MI K m) {r c k : Nat} {q : Int32} (hF : Fld (m 4) (m 6) (m 14) r c k q) (hq : q ≠ 0) : r6 (m 16) r k = -1 ∨ ∃ p, p < 24 ∧ r6 (m 16) r k = nI p ∧ m 14 p ≠ -1 := by
  obtain ⟨hr, hc, h14, ⟨qq, h6, h4, hk⟩, hkd⟩ := id hF
  rcases Fld_kind hM hc h4 h6 hk with h | h | h
  · exact absurd (hkd.symm.trans h) hq
  · rcases hM.2.2.2.1.2.1 r c k ⟨hr, hc, h14, ⟨qq, h6, h4, hk⟩, h⟩ with h1 | ⟨p, h1, h2, h3, -⟩
    · exact Or.inl h1
    · exact Or.inr ⟨p, h1, h2, h3⟩
  · obtain ⟨p, h1, h2, h3⟩ := hM.2.2.2.1.2.2.1 r c k ⟨hr, hc, h14, ⟨qq, h6, h4, hk⟩, h⟩
    refine Or.inr ⟨p, h1, h2, ?_⟩
    obtain ⟨q', g1, g2⟩ := hM.2.1 c hc
    have g6 := g2.1
    have e : qq = q' := (nI_eq (by omega) (by omega)).mp (h4.symm.trans g1)
    subst e
    rcases (g2.2.2 k hk).2 with g | ⟨-, d, gd, g, -⟩
    · exact absurd (h.symm.trans g.1) (by decide)
    · rw [h3, g]
      have := hM.1.1
      exact nI_ne_m1 (by omega)
theorem do_follow (n : Nat) (hn : 24 < n) : Do_follow n Rel := fun j C M hj hR x1 x2 x3 => by
  obtain ⟨K, L, σ, τ, hM, hC⟩ := id hR
  have hK4 : K ≤ 4 := hM.1.1
  rcases nI_lt3 (x := x3) (N := 8) (by decide) with ⟨i3, hi3, e⟩ | ⟨-, h3⟩
  · subst e
    have hm0 : ∀ x1 x2, m_X8_follow n M x1 x2 (nI i3) = (m_X8_place n M x1 x2 0).bind (fun z29 => if z29.1 < 0 then (some z29.2) else (bif inB x1 8 then ((m_X8_touchRecord n z29.2 (z29.2.1 19 x1.toNatClampNeg)).bind (fun z33 => bif inB x1 8 then (bif inB ((6 * (z33.1 19 x1.toNatClampNeg)) + z29.1) 144 then (bif inB (nI i3) 8 then (nm (mI z33 19 (nI i3).toNatClampNeg (z33.1 16 ((6 * (z33.1 19 x1.toNatClampNeg)) + z29.1).toNatClampNeg)) (fun S37 => some S37)) else none) else none) else none)) else none)) := fun x1 x2 => by
      unfold m_X8_follow
      rw [p_isRoot n M hi3, Option.bind_some, if_pos one_ne]
    rcases nI_lt3 (x := x1) (N := 8) (by decide) with ⟨i, hi, e⟩ | ⟨-, h⟩
    · subst e
      rcases nI_lt3 (x := x2) (N := 10) (by decide) with ⟨a, ha, e⟩ | ⟨-, h⟩
      · subst e
        rcases root_cases hM hC hi with ⟨a1, a2⟩ | ⟨p, c, hp, hcK, a1, a2, a3, a4, a5, a6, a7⟩
        · refine stV_ex (w := mI M 0 0 2) (k := 2) (C2 := C) ?_ ?_ (by decide) rfl (Rel_code 2 (Rel_up hR))
          · unfold m_X7_follow
            rw [q_needRoot n C hi, q_needName n C ha, q_needRoot n C hi3, q_held0 hi a2]
            rfl
          · rw [hm0, p_place0 hi ha a1]
            rfl
        · have hc4 : c < 4 := by omega
          have hcls : m_X7_follow n C (nI i) (nI a) (nI i3) = (m_X7_referencePlace n C (σ p) (nI a)).bind (fun z54 => sumE (fun w55 => (m_X7_bringForward n C (σ p)).bind (fun z57 => bif inB w55 6 then (bif inB (nI i3) 8 then (nm (sI z57.2 19 0 (nI i3).toNatClampNeg (z57.2.1 17 (σ p) w55.toNatClampNeg)) (fun S60 => some (.inl S60))) else none) else none)) (fun q => some (.inr q)) z54) := by
            unfold m_X7_follow
            rw [q_needRoot n C hi, q_needName n C ha, q_needRoot n C hi3, q_held hn hi a4 a3 a5 hC.2.2.2.2.1.2.2.2]
            show (bif decide (σ p < 24) then _ else none) = _
            rw [decide_eq_true a4]
            rfl
          obtain ⟨m, hm6, hm, g1, g2, g3⟩ := fld_cases hM hC (n := n) (by omega) hc4 (nI a)
          rw [q_refPlace (m := m) hc4 a6 g2] at hcls
          rcases g3 with g3 | ⟨k, hk, g3, g4, g5, g6⟩
          · rw [g3, q_isRef0] at hcls
            refine stV_ex (w := mI M 0 0 2) (k := 2) (C2 := C) hcls ?_ (by decide) rfl (Rel_code 2 (Rel_up hR))
            rw [hm0, p_placeN (by omega) hi ha hp hc4 a1 a2 hm6 hm g3]
            rfl
          · rw [g3, q_isRef hm6 g1 hk, g4] at hcls
            have hpl := p_place (n := n) (y := 0) (by omega) hi ha hp hc4 a1 a2 hm6 hm g3 hk
            by_cases hq : r6 (M.1 6) c k = 0
            · rw [if_pos hq] at hcls
              rw [if_pos hq, if_neg (by decide)] at hpl
              refine stV_ex (w := mI M 0 0 2) (k := 2) (C2 := C) hcls ?_ (by decide) rfl (Rel_code 2 (Rel_up hR))
              rw [hm0, hpl]
              rfl
            · rw [if_neg hq] at hcls
              rw [if_neg hq, if_pos rfl] at hpl
              have hF : Fld (M.1 4) (M.1 6) (M.1 14) p c k (r6 (M.1 6) c k) := ⟨hp, hc4, a2, ⟨m, hm6, hm, hk⟩, rfl⟩
              obtain ⟨f1, f2⟩ := Rel_touch (M := mI M 0 0 0) hM hC hp hcK a2
              obtain ⟨f3, f4⟩ := Rel_root f1 f2 (i := i3) (v := r6 (M.1 16) p k) (ref_live hM hF hq)
              have hv := hC.2.2.2.2.2.2.1 p c k _ hF
              rw [if_neg hq] at hv
              refine stV_ok (w := mI (mI (mI M 0 0 0) 15 p (M.1 2 c)) 19 i3 (r6 (M.1 16) p k)) (C2 := sI (sI C 15 (σ p) 0 (C.1 3 c 0)) 19 0 i3 (tr σ (C.1 13) (r6 (M.1 16) p k))) ?_ ?_ rfl ⟨K, L, σ, τ, f3, CR_up f4⟩
              · rw [hcls]
                show (m_X7_bringForward n C (σ p)).bind _ = _
                rw [q_bring hc4 a6, Option.bind_some, inB_nI (by omega : k < 6) (by omega), nI_clamp (by omega), inB_nI hi3 (by omega), nI_clamp (by omega), ← hv]
                rfl
              · rw [hm0, hpl, Option.bind_some, if_neg (nI_pos (by omega)), inB_nI hi (by omega), nI_clamp (by omega)]
                show (m_X8_touchRecord n (mI M 0 0 0) (M.1 19 i)).bind (fun z33 => bif inB (6 * z33.1 19 i + nI k) 144 then (bif inB (nI i3) 8 then some (mI z33 19 (nI i3).toNatClampNeg (z33.1 16 (6 * z33.1 19 i + nI k).toNatClampNeg)) else none) else none) = _
                rw [a1, p_touch (M := mI M 0 0 0) hp hc4 a2, Option.bind_some]
                show (bif inB (6 * M.1 19 i + nI k) 144 then (bif inB (nI i3) 8 then some (mI (mI (mI M 0 0 0) 15 p (M.1 2 c)) 19 (nI i3).toNatClampNeg (M.1 16 (6 * M.1 19 i + nI k).toNatClampNeg)) else none) else none) = _
                rw [a1, ix6, inB_nI (by omega) (by omega), nI_clamp (by omega), inB_nI hi3 (by omega), nI_clamp (by omega)]
                rfl
      · refine stV_ex (w := mI M 0 0 1) (k := 1) (C2 := C) ?_ ?_ (by decide) rfl (Rel_code 1 (Rel_up hR))
        · unfold m_X7_follow
          rw [q_needRoot n C hi, q_needName0 n C h]
          rfl
        · rw [hm0, p_placeY hi h]
          rfl
    · refine stV_ex (w := mI M 0 0 1) (k := 1) (C2 := C) ?_ ?_ (by decide) rfl (Rel_code 1 (Rel_up hR))
      · unfold m_X7_follow
        rw [q_needRoot0 n C h]
        rfl
      · rw [hm0, p_placeX h]
        rfl
  · refine stV_ex (w := mI M 0 0 1) (k := 1) (C2 := C) ?_ ?_ (by decide) rfl (Rel_code 1 (Rel_up hR))
    · unfold m_X7_follow
      rcases nI_lt3 (x := x1) (N := 8) (by decide) with ⟨i, hi, e⟩ | ⟨-, h⟩
      · subst e
        rcases nI_lt3 (x := x2) (N := 10) (by decide) with ⟨a, ha, e⟩ | ⟨-, h⟩
        · subst e
          rw [q_needRoot n C hi, q_needName n C ha, q_needRoot0 n C h3]
          rfl
        · rw [q_needRoot n C hi, q_needName0 n C h]
          rfl
      · rw [q_needRoot0 n C h]
        rfl
    · unfold m_X8_follow
      rw [p_isRoot0 n M h3]
      rfl
