theorem stM_push {T T' : MSt} {h : Nat} {l u : Nat → Int} {x y : Int64} {a b : Int} (hs : stM T h l u) (hh : h < 12) (ha : x.toInt = a) (hb : y.toInt = b) (na : nf a) (nb : nf b) (hab : a ≤ b) (h40 : T'.1 40 0 = nI (h + 1)) (h1 : ∀ i, i < h → T'.2 41 i = T.2 41 i ∧ T'.2 42 i = T.2 42 i) (h2 : T'.2 41 h = x) (h3 : T'.2 42 h = y) : stM T' (h + 1) (upZ l h a) (upZ u h b) := by
  refine ⟨h40, by omega, fun i hi => ?_⟩
  unfold upZ
  by_cases e : i = h
  · rw [if_pos e, if_pos e, e, h2, h3]
    exact ⟨ha, hb, na, nb, hab⟩
  · rw [if_neg e, if_neg e, (h1 i (by omega)).1, (h1 i (by omega)).2]
    exact hs.2.2 i (by omega)
/-- the numbers of a shape, by their names -/
def fR (T : MSt) (c m0 : Nat) (w : Int32) : Prop := ∃ k, k < m0 ∧ r6 (T.1 5) c k = w ∧ r6 (T.1 6) c k = 0
def fLo (T : MSt) (c m0 : Nat) (w : Int32) : Int := (r6 (T.1 7) c (plc (r6 (T.1 5) c) m0 w).toNatClampNeg).toInt
def fHi (T : MSt) (c m0 : Nat) (w : Int32) : Int := (r6 (T.1 8) c (plc (r6 (T.1 5) c) m0 w).toNatClampNeg).toInt
theorem isW_cases {w : Int32} (h : isW w) : (w < 10 ∧ tk w = 0) ∨ (¬ w < 10 ∧ ¬ w < 100 ∧ tk w = 0 ∧ w.toInt ≤ 300) ∨ (¬ w < 10 ∧ w < 100 ∧ w = 16 ∧ tk w = 1) ∨ (¬ w < 10 ∧ w < 100 ∧ ¬ w = 16 ∧ tk w = 2 ∧ (w = 10 ∨ w = 11 ∨ w = 12 ∨ w = 13 ∨ w = 14 ∨ w = 15)) := by
  unfold isW at h
  rcases tk_cases w with ⟨e, t⟩ | ⟨e, e1, t⟩ | ⟨e, e1, e2, t⟩ | ⟨e, e2, t⟩
  · subst e
    exact Or.inr (Or.inr (Or.inl ⟨by decide, by decide, rfl, t⟩))
  · exact Or.inl ⟨e1, t⟩
  · refine Or.inr (Or.inr (Or.inr ⟨e1, ?_, e, t, ?_⟩))
    · simp only [Int32.lt_iff_toInt_lt, Int32.reduceToInt] at e2 ⊢
      omega
    · simp only [Int32.lt_iff_toInt_lt, Int32.reduceToInt, ← Int32.toInt_inj] at e e1 e2 ⊢
      omega
  · refine Or.inr (Or.inl ⟨?_, ?_, t, ?_⟩)
    · simp only [Int32.lt_iff_toInt_lt, Int32.le_iff_toInt_le, Int32.reduceToInt, ← Int32.toInt_inj] at h e e2 ⊢
      omega
    · simp only [Int32.lt_iff_toInt_lt, Int32.le_iff_toInt_le, Int32.reduceToInt, ← Int32.toInt_inj] at h e e2 ⊢
      omega
    · simp only [Int32.lt_iff_toInt_lt, Int32.le_iff_toInt_le, Int32.reduceToInt, ← Int32.toInt_inj] at h e e2
      omega
theorem lit_64 {w : Int32} (h1 : ¬ w < 100) (h2 : w.toInt ≤ 300) : ((w - 200).toInt64).toInt = w.toInt - 200 := by
  rw [Int32.toInt_toInt64, Int32.toInt_sub]
  have : (200 : Int32).toInt = 200 := by decide
  have : ¬ w.toInt < (100 : Int32).toInt := fun h => h1 (Int32.lt_iff_toInt_lt.mpr h)
  have e : (100 : Int32).toInt = 100 := by decide
  rw [show (200 : Int32).toInt = 200 by decide]
  exact Int.bmod_eq_of_le (by omega) (by omega)
theorem p_lay {n : Nat} {T : MSt} {K c m0 h : Nat} {l u : Nat → Int} {w : Int32} (hn : 6 < n) (hc : c < 4) (h27 : T.1 27 0 = nI c) (hm0 : T.1 4 c = nI m0) (hSh : Sh K m0 (r6 (T.1 5) c) (r6 (T.1 6) c) (r6 (T.1 7) c) (r6 (T.1 8) c)) (hs : stM T h l u) (hW : isW w) (ht : tk w ≤ h) (hp : h < 12) : Ok (m_X8_lay n T w) (fun o => FrJ T o.2 ∧ ((o.1 = 0 ∧ ¬ ∃ h' l' u', ivS (fR T c m0) (fLo T c m0) (fHi T c m0) w h l u h' l' u') ∨ (o.1 = 1 ∧ ∃ h' l' u', ivS (fR T c m0) (fLo T c m0) (fHi T c m0) w h l u h' l' u' ∧ stM o.2 h' l' u'))) := by
  obtain ⟨h40, h12, hst⟩ := id hs
  have frP : ∀ (x y : Int64) (v : Int32), FrJ T (mI (mJ (mJ T 41 h x) 42 h y) 40 0 v) := fun x y v g hg => by
    funext i
    rw [mI_at, if_neg (fun h => hg h.1)]
    rfl
  have push : ∀ {x y : Int64} {a b : Int}, x.toInt = a → y.toInt = b → nf a → nf b → a ≤ b → stM (mI (mJ (mJ T 41 h x) 42 h y) 40 0 (nI (h + 1))) (h + 1) (upZ l h a) (upZ u h b) := fun {x y a b} ha hb na nb hab => by
    refine stM_push hs hp ha hb na nb hab (mI_eq _ _ _ _) (fun i hi => ⟨?_, ?_⟩) ?_ ?_
    · show (mJ (mJ T 41 h x) 42 h y).2 41 i = _
      rw [mJ_at, if_neg (by omega), mJ_at, if_neg (by omega)]
    · show (mJ (mJ T 41 h x) 42 h y).2 42 i = _
      rw [mJ_at, if_neg (by omega), mJ_at, if_neg (by omega)]
    · show (mJ (mJ T 41 h x) 42 h y).2 41 h = _
      rw [mJ_at, if_neg (by omega), mJ_at, if_pos ⟨rfl, rfl⟩]
    · show (mJ (mJ T 41 h x) 42 h y).2 42 h = _
      rw [mJ_at, if_pos ⟨rfl, rfl⟩]
  have lay1 : ∀ {x y : Int64} {a b : Int}, x.toInt = a → y.toInt = b → nf a → nf b → a ≤ b → m_X8_lay_J216 n (mI (mJ (mJ T 41 h x) 42 h y) 40 0 (nI (h + 1))) = some (1, mI (mJ (mJ T 41 h x) 42 h y) 40 0 (nI (h + 1))) := fun {x y a b} ha hb na nb hab => by
    have hp' := push ha hb na nb hab
    obtain ⟨q1, q2, q3, q4, q5⟩ := hp'.2.2 h (by omega)
    refine (p_layJ (h := h + 1) (by omega) (by omega) hp'.1 q1 q2).1 ?_
    unfold nf at q3 q4
    exact ⟨q3.1, q4.2⟩
  unfold m_X8_lay
  rcases isW_cases hW with ⟨c1, c2⟩ | ⟨c1, c2, c3, c4⟩ | ⟨c1, c2, c3, c4⟩ | ⟨c1, c2, c3, c4, c5⟩
  · -- a field
    rw [if_neg (Int32.not_le.mpr c1), h27, p_find hn hc hSh.1 hm0, Ok_bind, Ok_some]
    have hm06 := hSh.1
    have noE : (∀ k, k < m0 → r6 (T.1 5) c k = w → r6 (T.1 6) c k ≠ 0) → ¬ ∃ h' l' u', ivS (fR T c m0) (fLo T c m0) (fHi T c m0) w h l u h' l' u' := fun hno ⟨h', l', u', hi⟩ => by
      rcases hi with ⟨_, ⟨k, k1, k2, k3⟩, _⟩ | ⟨b1, _⟩ | ⟨b1, _⟩ | ⟨b1, _⟩
      · exact hno k k1 k2 k3
      · exact b1 c1
      · exact b1 c1
      · exact b1 c1
    rcases plc_nn (f := r6 (T.1 5) c) (x := w) hSh.1 with ⟨g1, g2⟩ | ⟨k0, hk0, g1, g2, g3, g4⟩
    · rw [g1, if_pos m1_lt, Ok_some]
      exact ⟨fun _ _ => rfl, Or.inl ⟨rfl, noE (fun k hk e => absurd e (g2 k hk))⟩⟩
    · rw [g1, if_neg (nI_pos (by omega)), ix6, Ok_bif, nI_clamp (by omega), Ok_ite]
      refine ⟨inB_nI (by omega) (by omega), fun h5 => ?_, fun h5 => ?_⟩
      · have h5 : r6 (T.1 6) c k0 = 0 := h5
        obtain ⟨r1, r2, r3⟩ : r6 (T.1 7) c k0 ≤ r6 (T.1 8) c k0 ∧ (-1000000) ≤ r6 (T.1 7) c k0 ∧ r6 (T.1 8) c k0 ≤ 1000000 := by
          rcases (hSh.2.2 k0 hk0).2 with q | q
          · exact q.2
          · rcases q.1 with q | q
            · exact absurd (h5.symm.trans q) (by decide)
            · exact absurd (h5.symm.trans q) (by decide)
        simp only [Int32.le_iff_toInt_le, Int32.reduceToInt] at r1 r2 r3
        have elo : fLo T c m0 w = (r6 (T.1 7) c k0).toInt := by unfold fLo; rw [g1, nI_clamp (by omega)]
        have ehi : fHi T c m0 w = (r6 (T.1 8) c k0).toInt := by unfold fHi; rw [g1, nI_clamp (by omega)]
        have na : nf (fLo T c m0 w) := by rw [elo]; unfold nf; omega
        have nb : nf (fHi T c m0 w) := by rw [ehi]; unfold nf; omega
        have hab : fLo T c m0 w ≤ fHi T c m0 w := by rw [elo, ehi]; exact r1
        have xa : ((r6 (T.1 7) c k0).toInt64).toInt = fLo T c m0 w := by rw [Int32.toInt_toInt64, elo]
        have xb : ((r6 (T.1 8) c k0).toInt64).toInt = fHi T c m0 w := by rw [Int32.toInt_toInt64, ehi]
        refine ⟨(1, mI (mJ (mJ T 41 h ((r6 (T.1 7) c k0).toInt64)) 42 h ((r6 (T.1 8) c k0).toInt64)) 40 0 (nI (h + 1))), ?_, frP _ _ _, Or.inr ⟨rfl, h + 1, _, _, Or.inl ⟨c1, ⟨k0, hk0, g2, h5⟩, rfl, rfl, rfl⟩, push xa xb na nb hab⟩⟩
        rw [inB_nI (by omega : 6 * c + k0 < 24) (by omega), h40, inB_nI (by omega : h < 12) (by omega), nI_clamp (by omega)]
        show (bif inB (6 * T.1 27 0 + nI k0) 24 then (bif inB (T.1 40 0) 12 then (m_X8_lay_J216 n (mI (mJ (mJ T 41 h ((r6 (T.1 7) c k0).toInt64)) 42 (T.1 40 0).toNatClampNeg ((T.1 8 (6 * T.1 27 0 + nI k0).toNatClampNeg).toInt64)) 40 0 (T.1 40 0 + 1))) else none) else none) = _
        rw [h27, ix6, h40, inB_nI (by omega : 6 * c + k0 < 24) (by omega), inB_nI (by omega : h < 12) (by omega), nI_clamp (by omega), nI_clamp (by omega), nI_1]
        exact lay1 xa xb na nb hab
      · rw [Ok_some]
        refine ⟨fun _ _ => rfl, Or.inl ⟨rfl, noE (fun k hk e h6 => ?_)⟩⟩
        rw [hSh.2.1 k hk k0 hk0 (e.trans g2.symm)] at h6
        exact h5 h6
  · -- a literal
    have xa := lit_64 c2 c4
    have hlow : ¬ w.toInt < 100 := fun h => c2 (Int32.lt_iff_toInt_lt.mpr (by rw [show (100 : Int32).toInt = 100 by decide]; exact h))
    have na : nf (w.toInt - 200) := by unfold nf; omega
    rw [if_pos (Int32.not_lt.mp c1), if_neg c2, h40]
    refine ⟨(1, mI (mJ (mJ T 41 h ((w - 200).toInt64)) 42 h ((w - 200).toInt64)) 40 0 (nI (h + 1))), ?_, frP _ _ _, Or.inr ⟨rfl, h + 1, _, _, Or.inr (Or.inl ⟨c1, c2, rfl, rfl, rfl⟩), push xa xa na na (Int.le_refl _)⟩⟩
    rw [inB_nI (by omega : h < 12) (by omega), nI_clamp (by omega)]
    show (bif inB (T.1 40 0) 12 then m_X8_lay_J216 n (mI (mJ (mJ T 41 h ((w - 200).toInt64)) 42 (T.1 40 0).toNatClampNeg ((w - 200).toInt64)) 40 0 (T.1 40 0 + 1)) else none) = _
    rw [h40, inB_nI (by omega : h < 12) (by omega), nI_clamp (by omega), nI_1]
    exact lay1 xa xa na na (Int.le_refl _)
  · -- negated
    have hh : 1 ≤ h := by omega
    obtain ⟨q1, q2, q3, q4, q5⟩ := hst (h - 1) (by omega)
    have e1 : nI h - 1 = nI (h - 1) := pk_sub (b := 1) hh
    rw [if_pos (Int32.not_lt.mp c1), if_pos c2, if_neg (fun h => h c3), h40, e1]
    unfold nf at q3 q4
    have v1 : (-(T.2 42 (h - 1))).toInt = -u (h - 1) := by rw [j_neg (by omega) (by omega), q2]
    have v2 : (-(T.2 41 (h - 1))).toInt = -l (h - 1) := by rw [j_neg (by omega) (by omega), q1]
    have r41 : (mJ (mJ T 41 (h - 1) (-(T.2 42 (h - 1)))) 42 (h - 1) (-(T.2 41 (h - 1)))).2 41 (h - 1) = -(T.2 42 (h - 1)) := by rw [mJ_at, if_neg (by omega), mJ_at, if_pos ⟨rfl, rfl⟩]
    have r42 : (mJ (mJ T 41 (h - 1) (-(T.2 42 (h - 1)))) 42 (h - 1) (-(T.2 41 (h - 1)))).2 42 (h - 1) = -(T.2 41 (h - 1)) := by rw [mJ_at, if_pos ⟨rfl, rfl⟩]
    refine ⟨(1, mJ (mJ T 41 (h - 1) (-(T.2 42 (h - 1)))) 42 (h - 1) (-(T.2 41 (h - 1)))), ?_, fun _ _ => rfl, Or.inr ⟨rfl, h, upZ l (h - 1) (-u (h - 1)), upZ u (h - 1) (-l (h - 1)), Or.inr (Or.inr (Or.inl ⟨c1, c2, c3, hh, rfl, rfl, rfl, ?_, ?_⟩)), h40, h12, fun i hi => ?_⟩⟩
    · rw [inB_nI (by omega : h - 1 < 12) (by omega), nI_clamp (by omega)]
      show (bif inB (T.1 40 0 - 1) 12 then m_X8_lay_J216 n (mJ (mJ T 41 (h - 1) (-(T.2 42 (h - 1)))) 42 (T.1 40 0 - 1).toNatClampNeg (-(T.2 41 (h - 1)))) else none) = _
      rw [h40, e1, inB_nI (by omega : h - 1 < 12) (by omega), nI_clamp (by omega)]
      exact (p_layJ (n := n) (T := mJ (mJ T 41 (h - 1) (-(T.2 42 (h - 1)))) 42 (h - 1) (-(T.2 41 (h - 1)))) (h := h) (x := -u (h - 1)) (y := -l (h - 1)) hh h12 h40 (by rw [r41]; exact v1) (by rw [r42]; exact v2)).1 (by omega)
    · unfold upZ nf; rw [if_pos rfl]; omega
    · unfold upZ nf; rw [if_pos rfl]; omega
    · unfold upZ
      by_cases e : i = h - 1
      · rw [if_pos e, if_pos e, e, r41, r42]
        refine ⟨v1, v2, ?_, ?_, by omega⟩
        · unfold nf; omega
        · unfold nf; omega
      · rw [if_neg e, if_neg e]
        have k1 : (mJ (mJ T 41 (h - 1) (-(T.2 42 (h - 1)))) 42 (h - 1) (-(T.2 41 (h - 1)))).2 41 i = T.2 41 i := by rw [mJ_at, if_neg (by omega), mJ_at, if_neg (by omega)]
        have k2 : (mJ (mJ T 41 (h - 1) (-(T.2 42 (h - 1)))) 42 (h - 1) (-(T.2 41 (h - 1)))).2 42 i = T.2 42 i := by rw [mJ_at, if_neg (by omega), mJ_at, if_neg (by omega)]
        rw [k1, k2]
        exact hst i hi
  · -- combined
    have hh : 2 ≤ h := by omega
    rw [if_pos (Int32.not_lt.mp c1), if_pos c2, if_pos c3]
    rcases p_pair (n := n) (w := w) hs hh with ⟨T', t1, t2, t3⟩ | ⟨T', p, q, t1, t2, t3, t4, t5, t6, t7, t8, t9⟩
    · rw [t1, Ok_bind, Ok_some, if_neg (fun h => h rfl), Ok_some]
      refine ⟨t2, Or.inl ⟨rfl, fun ⟨h', l', u', hi⟩ => ?_⟩⟩
      rcases hi with ⟨b1, _⟩ | ⟨_, b2, _⟩ | ⟨_, _, b3, _⟩ | ⟨_, _, _, _, _, b6, _⟩
      · exact c1 b1
      · exact b2 c2
      · exact c3 b3
      · exact t3 b6
    · rw [t1, Ok_bind, Ok_some, if_pos one_ne]
      have e2 : h - 1 - 1 = h - 2 := by omega
      have hJ := p_layJ (n := n) (T := T') (h := h - 1) (x := (ivO (l (h - 2)) (u (h - 2)) (l (h - 1)) (u (h - 1)) w).1) (y := (ivO (l (h - 2)) (u (h - 2)) (l (h - 1)) (u (h - 1)) w).2) (by omega) (by omega) t4 (by rw [e2, t6]; exact t8) (by rw [e2, t7]; exact t9)
      by_cases hr : -1000000000000 ≤ (ivO (l (h - 2)) (u (h - 2)) (l (h - 1)) (u (h - 1)) w).1 ∧ (ivO (l (h - 2)) (u (h - 2)) (l (h - 1)) (u (h - 1)) w).2 ≤ 1000000000000
      · rw [hJ.1 hr, Ok_some]
        have hle : (ivO (l (h - 2)) (u (h - 2)) (l (h - 1)) (u (h - 1)) w).1 ≤ (ivO (l (h - 2)) (u (h - 2)) (l (h - 1)) (u (h - 1)) w).2 := mn_mx _ _ _ _
        refine ⟨t2, Or.inr ⟨rfl, h - 1, upZ l (h - 2) (ivO (l (h - 2)) (u (h - 2)) (l (h - 1)) (u (h - 1)) w).1, upZ u (h - 2) (ivO (l (h - 2)) (u (h - 2)) (l (h - 1)) (u (h - 1)) w).2, Or.inr (Or.inr (Or.inr ⟨c1, c2, c3, hh, rfl, t3, rfl, rfl, ?_, ?_⟩)), t4, by omega, fun i hi => ?_⟩⟩
        · unfold upZ; rw [if_pos rfl]; exact hr.1
        · unfold upZ; rw [if_pos rfl]; exact hr.2
        · unfold upZ
          by_cases e : i = h - 2
          · rw [if_pos e, if_pos e, e, t6, t7]
            exact ⟨t8, t9, ⟨hr.1, by omega⟩, ⟨by omega, hr.2⟩, hle⟩
          · rw [if_neg e, if_neg e, (t5 i (by omega)).1, (t5 i (by omega)).2]
            exact hst i (by omega)
      · rw [hJ.2 hr, Ok_some]
        refine ⟨t2, Or.inl ⟨rfl, fun ⟨h', l', u', hi⟩ => ?_⟩⟩
        rcases hi with ⟨b1, _⟩ | ⟨_, b2, _⟩ | ⟨_, _, b3, _⟩ | ⟨_, _, _, _, _, _, b7, b8, b9, b10⟩
        · exact c1 b1
        · exact b2 c2
        · exact c3 b3
        · rw [b7] at b9
          rw [b8] at b10
          unfold upZ at b9 b10
          rw [if_pos rfl] at b9 b10
          exact hr ⟨b9, b10⟩
