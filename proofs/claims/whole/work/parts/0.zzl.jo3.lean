/-! ===== change: a part is joined back: the reference's step ===== -/
def apI (T T' : MSt) (c d m2 k : Nat) (pt : Nat → Nat) : Prop :=
  (∀ g, g < 28 ∨ 34 < g → T'.1 g = T.1 g) ∧ T'.1 28 0 = nI (m2 + k) ∧ m2 + k ≤ 6 ∧ (∀ k', k' < k → ∀ f, f < m2 → T.1 29 f ≠ r6 (T.1 5) d k') ∧
  (∀ g i, 29 ≤ g → g ≤ 33 → i < m2 → T'.1 g i = T.1 g i) ∧
  (∀ k', k' < k → T'.1 29 (m2 + k') = r6 (T.1 5) d k' ∧ T'.1 30 (m2 + k') = 0 ∧ T'.1 31 (m2 + k') = r6 (T.1 7) d k' ∧ T'.1 32 (m2 + k') = r6 (T.1 8) d k' ∧ T'.1 33 (m2 + k') = -1) ∧
  (∀ r i, r < 24 → i < m2 → r6 (T'.1 34) r i = r6 (T.1 34) r i) ∧
  (∀ r k', r < 24 → T.1 14 r = nI c → k' < k → r6 (T'.1 34) r (m2 + k') = r6 (T.1 16) (pt r) k')
theorem p_joinApp {n : Nat} {T : MSt} {K c d p m2 : Nat} {pt : Nat → Nat} (hn : 24 < n) (hd : d < 4) (h4 : T.1 4 d = nI p) (hShd : Sh K p (r6 (T.1 5) d) (r6 (T.1 6) d) (r6 (T.1 7) d) (r6 (T.1 8) d)) (hm6 : m2 ≤ 6) (hm : T.1 28 0 = nI m2) (h27 : T.1 27 0 = nI c) (hpt : ∀ r, r < 24 → T.1 14 r = nI c → pt r < 24 ∧ T.1 43 r = nI (pt r)) : Ok (lpO (b_X8_joinField_102 n (nI d)) n (T, 0)) (sumE (fun T' => (∀ g, g < 28 ∨ 34 < g → T'.1 g = T.1 g) ∧ ¬ (m2 + p ≤ 6 ∧ ∀ k', k' < p → ∀ f, f < m2 → T.1 29 f ≠ r6 (T.1 5) d k')) (fun T' => apI T T' c d m2 p pt)) := by
  have hp6 := hShd.1
  refine ok_for2 (N := p) (by omega) (I := fun k T' => apI T T' c d m2 k pt) (fun k T' hk hI => ?_) ⟨fun _ _ => rfl, hm, hm6, fun k' h => absurd h (Nat.not_lt_zero _), fun _ _ _ _ _ => rfl, fun k' h => absurd h (Nat.not_lt_zero _), fun _ _ _ _ => rfl, fun r k' _ _ h => absurd h (Nat.not_lt_zero _)⟩
  obtain ⟨a1, a2, a3, a4, a5, a6, a7, a8⟩ := hI
  unfold b_X8_joinField_102
  dsimp only
  rw [Ok_bif, nI_clamp (by omega), a1 4 (by omega), h4, Ok_ite]
  refine ⟨inB_nI hd (by omega), fun h3 => ?_, fun h3 => ?_⟩
  · rw [Ok_some]
    have ek := ge_eq (by omega) hk h3
    subst ek
    exact ⟨a1, a2, a3, a4, a5, a6, a7, a8⟩
  · have hk2 := nge_lt (by omega) hk h3
    rw [Ok_bif, Ok_bif, Ok_bif, ix6, nI_clamp (by omega), a1 5 (by omega), a1 7 (by omega), a1 8 (by omega), p_append (by omega) (by omega) a2]
    refine ⟨inB_nI (by omega) (by omega), inB_nI (by omega) (by omega), inB_nI (by omega) (by omega), ?_⟩
    show Ok ((if plc (T'.1 29) (m2 + k) (r6 (T.1 5) d k) = -1 ∧ m2 + k < 6 then some (1, dA T' (m2 + k) (r6 (T.1 5) d k) 0 (r6 (T.1 7) d k) (r6 (T.1 8) d k)) else some (0, T')).bind _) _
    by_cases hok : plc (T'.1 29) (m2 + k) (r6 (T.1 5) d k) = -1 ∧ m2 + k < 6
    · rw [if_pos hok, Ok_bind, Ok_some, if_pos one_ne]
      obtain ⟨d29, d30, d31, d32, d33, d28, dfr⟩ := dA_at (T := T') (m := m2 + k) (x1 := r6 (T.1 5) d k) (x2 := 0) (x3 := r6 (T.1 7) d k) (x4 := r6 (T.1 8) d k)
      have hne : ∀ f, f < m2 + k → T'.1 29 f ≠ r6 (T.1 5) d k := by
        rcases plc_nn (f := T'.1 29) (x := r6 (T.1 5) d k) (m := m2 + k) (by omega) with ⟨h1, h2⟩ | ⟨k0, hk0, h1, h2, h3, h4⟩
        · exact h2
        · exact absurd hok.1 h3
      have hcol := p_joinCol (n := n) (T := dA T' (m2 + k) (r6 (T.1 5) d k) 0 (r6 (T.1 7) d k) (r6 (T.1 8) d k)) (c := c) (m := m2 + k) (i := k) (pt := pt) (x3 := nI d) hn hok.2 (by omega) d28 (by rw [dfr 27 (by omega), a1 27 (by omega)]; exact h27) (by rw [dfr 14 (by omega), dfr 43 (by omega), a1 14 (by omega), a1 43 (by omega)]; exact hpt)
      show Ok ((lpO (b_X8_joinField_162 n (nI d) (nI k)) n (dA T' (m2 + k) (r6 (T.1 5) d k) 0 (r6 (T.1 7) d k) (r6 (T.1 8) d k), 0)).bind _) _
      rw [hcol, Ok_bind, Ok_some, Ok_nm, Ok_some, nI_1]
      generalize hW : mR (dA T' (m2 + k) (r6 (T.1 5) d k) 0 (r6 (T.1 7) d k) (r6 (T.1 8) d k)) 34 _ = W
      have wO : ∀ g, g ≠ 34 → W.1 g = (dA T' (m2 + k) (r6 (T.1 5) d k) 0 (r6 (T.1 7) d k) (r6 (T.1 8) d k)).1 g := fun g hg => by rw [← hW, mR_at, if_neg hg]
      have w34 : ∀ r i, r < 24 → i < 6 → r6 (W.1 34) r i = if i = m2 + k ∧ T.1 14 r = nI c then r6 (T.1 16) (pt r) k else r6 (T'.1 34) r i := fun r i hr hi => by
        show W.1 34 (6 * r + i) = _
        rw [← hW, mR_at, if_pos rfl, show (6 * r + i) / 6 = r by omega, dfr 14 (by omega), a1 14 (by omega), dfr 16 (by omega), a1 16 (by omega), dfr 34 (by omega)]
        by_cases e : i = m2 + k ∧ T.1 14 r = nI c
        · rw [if_pos ⟨by omega, by omega, e.2⟩, if_pos e]
        · rw [if_neg (fun h => e ⟨by omega, h.2.2⟩), if_neg e]
          rfl
      refine ⟨hk2, rfl, fun g hg => by rw [wO g (by omega), dfr g (by omega), a1 g hg], by rw [wO 28 (by omega)]; exact d28, by omega, fun k' hk' f hf => ?_, fun g i g1 g2 hi => ?_, fun k' hk' => ?_, fun r i hr hi => ?_, fun r k' hr h14 hk' => ?_⟩
      · rcases Nat.lt_succ_iff_lt_or_eq.mp hk' with h5 | h5
        · exact a4 k' h5 f hf
        · rw [h5, ← a5 29 f (by omega) (by omega) hf]
          exact hne f (by omega)
      · rw [wO g (by omega), ← a5 g i g1 g2 hi]
        rcases (show g = 29 ∨ g = 30 ∨ g = 31 ∨ g = 32 ∨ g = 33 by omega) with e | e | e | e | e
        · subst e; rw [d29, if_neg (by omega)]
        · subst e; rw [d30, if_neg (by omega)]
        · subst e; rw [d31, if_neg (by omega)]
        · subst e; rw [d32, if_neg (by omega)]
        · subst e; rw [d33, if_neg (by omega)]
      · rw [wO 29 (by omega), wO 30 (by omega), wO 31 (by omega), wO 32 (by omega), wO 33 (by omega), d29, d30, d31, d32, d33]
        rcases Nat.lt_succ_iff_lt_or_eq.mp hk' with h5 | h5
        · rw [if_neg (by omega), if_neg (by omega), if_neg (by omega), if_neg (by omega), if_neg (by omega)]
          exact a6 k' h5
        · rw [h5, if_pos rfl, if_pos rfl, if_pos rfl, if_pos rfl, if_pos rfl]
          exact ⟨rfl, rfl, rfl, rfl, rfl⟩
      · rw [w34 r i hr (by omega), if_neg (by omega), a7 r i hr hi]
      · rw [w34 r _ hr (by omega)]
        rcases Nat.lt_succ_iff_lt_or_eq.mp hk' with h5 | h5
        · rw [if_neg (by omega)]
          exact a8 r k' hr h14 h5
        · rw [h5, if_pos ⟨rfl, h14⟩]
    · rw [if_neg hok, Ok_bind, Ok_some, if_neg (fun h => h rfl), Ok_some]
      refine ⟨a1, fun ⟨c1, c2⟩ => hok ⟨plc_none (fun f hf e => ?_), by omega⟩⟩
      by_cases hfm : f < m2
      · rw [a5 29 f (by omega) (by omega) hfm] at e
        exact c2 k hk2 f hfm e
      · have := (a6 (f - m2) (by omega)).1
        rw [show m2 + (f - m2) = f by omega, e] at this
        have := hShd.2.1 k hk2 (f - m2) (by omega) this
        omega
def sk (k0 i : Nat) : Nat := if i < k0 then i else i + 1
theorem tkF_sk {T : MSt} {k0 m : Nat} (hk0 : k0 < m) (hm6 : m ≤ 6) : (∀ g, g < 28 ∨ 34 < g → (tkF T k0 m (m - 1)).1 g = T.1 g) ∧ (tkF T k0 m (m - 1)).1 28 0 = nI (m - 1) ∧ (∀ g k, 29 ≤ g → g ≤ 33 → k < m - 1 → (tkF T k0 m (m - 1)).1 g k = T.1 g (sk k0 k)) ∧ ∀ r k, r < 24 → k < m - 1 → r6 ((tkF T k0 m (m - 1)).1 34) r k = r6 (T.1 34) r (sk k0 k) := by
  unfold sk
  refine ⟨fun g hg => tkF_o _ _ _ _ _ hg, rfl, fun g k hg1 hg2 hk => ?_, fun r k hr hk => ?_⟩
  · rw [tkF_a _ _ _ _ _ _ hg1 hg2]
    by_cases e : k < k0
    · rw [if_pos e, if_neg (by omega)]
    · rw [if_neg e, if_pos (by omega)]
  · unfold r6
    show (if 6 * r + k < 144 ∧ k0 ≤ (6 * r + k) % 6 ∧ (6 * r + k) % 6 < m - 1 then T.1 34 (6 * r + k + 1) else T.1 34 (6 * r + k)) = _
    by_cases e : k < k0
    · rw [if_pos e, if_neg (by omega)]
    · rw [if_neg e, if_pos (by omega)]; rfl
def JoiM (T T' : MSt) (c d p m k0 : Nat) (pt : Nat → Nat) : Prop :=
  (∀ g, (g < 14 ∨ (14 < g ∧ g < 28) ∨ (36 < g ∧ g < 43)) → T'.1 g = T.1 g) ∧
  (∀ r, r < 24 → T.1 14 r = nI c → T'.1 14 (pt r) = -1) ∧ (∀ y, (∀ r, r < 24 → T.1 14 r = nI c → y ≠ pt r) → T'.1 14 y = T.1 14 y) ∧
  T'.1 28 0 = nI (m - 1 + p) ∧ (∀ g i, 29 ≤ g → g ≤ 33 → i < m - 1 → T'.1 g i = T.1 g (sk k0 i)) ∧
  (∀ k, k < p → T'.1 29 (m - 1 + k) = r6 (T.1 5) d k ∧ T'.1 30 (m - 1 + k) = 0 ∧ T'.1 31 (m - 1 + k) = r6 (T.1 7) d k ∧ T'.1 32 (m - 1 + k) = r6 (T.1 8) d k ∧ T'.1 33 (m - 1 + k) = -1) ∧
  (∀ r i, r < 24 → i < m - 1 → r6 (T'.1 34) r i = r6 (T.1 34) r (sk k0 i)) ∧
  (∀ r k, r < 24 → T.1 14 r = nI c → k < p → r6 (T'.1 34) r (m - 1 + k) = r6 (T.1 16) (pt r) k) ∧
  T'.1 35 0 = 1 ∧ T'.1 36 0 = (T.1 36 0 ||| (1 <<< (nI d &&& 31)))
def CanJ (T : MSt) (c d p m k0 : Nat) : Prop := ¬ T.1 33 k0 < 0 ∧ (∀ k, k < p → r6 (T.1 6) d k = 0) ∧ ¬ HeldM T c k0 24 ∧ m - 1 + p ≤ 6 ∧ ∀ k, k < p → ∀ f, f < m → f ≠ k0 → T.1 29 f ≠ r6 (T.1 5) d k
theorem p_join {n : Nat} {T : MSt} {K c d p m k0 : Nat} {a : Int32} {pt : Nat → Nat} (hn : 24 < n) (hc : c < 4) (hd : d < 4) (hcd : d ≠ c) (hp : T.1 4 d = nI p) (hShd : Sh K p (r6 (T.1 5) d) (r6 (T.1 6) d) (r6 (T.1 7) d) (r6 (T.1 8) d)) (hm : T.1 28 0 = nI m) (hSh : Sh K m (T.1 29) (T.1 30) (T.1 31) (T.1 32)) (h27 : T.1 27 0 = nI c) (hk0 : k0 < m) (ha : T.1 29 k0 = a) (h2 : T.1 30 k0 = 2) (h31 : T.1 31 k0 = nI d) (hpt : ∀ r, r < 24 → T.1 14 r = nI c → pt r < 24 ∧ r6 (T.1 34) r k0 = nI (pt r) ∧ T.1 14 (pt r) = nI d) :
    (CanJ T c d p m k0 → ∃ T', m_X8_joinField n T a = some (1, T') ∧ JoiM T T' c d p m k0 pt) ∧
    (¬ CanJ T c d p m k0 → ∃ T', m_X8_joinField n T a = some (0, T') ∧ ∀ g, (g < 28 ∨ (36 < g ∧ g < 43)) → T'.1 g = T.1 g) := by
  have hm6 := hSh.1
  have hpl := plc_eq hSh.2.1 hk0 ha
  have e0 : m_X8_joinField n T a = (if (T.1 33 k0) < 0 then (some ((0 : Int32), T)) else ((m_X8_hasNumbersAlone n T (nI d)).bind (fun z159 => if z159 = 0 then (some ((0 : Int32), T)) else ((m_X8_isHeld n T (nI k0)).bind (fun z162 => if z162 = 0 then ((lpO (b_X8_joinField_62 n (nI k0) (nI d)) n (T, 0)).bind (fun w168 => (m_X8_takeField n w168 (nI k0)).bind (fun z170 => (lpO (b_X8_joinField_102 n (nI d)) n (z170, 0)).bind (fun u180 => sumE (fun w173 => some ((0 : Int32), w173)) (fun w174 => (lpO (b_X8_joinField_233 n (nI d)) n (w174, 0)).bind (fun w177 => nm (mI w177 35 0 1) (fun S178 => nm (mI S178 36 0 ((S178.1 36 0) ||| (1 <<< ((nI d) &&& 31)))) (fun S179 => some ((1 : Int32), S179))))) u180)))) else (some ((0 : Int32), T))))))) := by
    unfold m_X8_joinField
    rw [p_findDraft (by omega) hm6 hm, Option.bind_some, hpl, if_neg (nI_pos (by omega)), inB_nI (by omega) (by omega), cond_true, cond_true, cond_true, cond_true, nI_clamp (by omega), h2, if_neg (fun h => h rfl), h31]
    rfl
  rw [e0]
  by_cases h33 : T.1 33 k0 < 0
  · rw [if_pos h33]
    exact ⟨fun hC => absurd h33 hC.1, fun _ => ⟨T, rfl, fun _ _ => rfl⟩⟩
  · rw [if_neg h33]
    rcases p_hasNum (n := n) (by omega) hd hShd.1 hp with ⟨e, hn1⟩ | ⟨e, hn1⟩
    · rw [e, Option.bind_some, if_neg one_ne]
      rcases p_isHeld (n := n) (T := T) (c := c) (k0 := k0) hn (by omega) h27 with ⟨e2, hh⟩ | ⟨e2, hh⟩
      · rw [e2, Option.bind_some, if_neg one_ne]
        exact ⟨fun hC => absurd hh hC.2.2.1, fun _ => ⟨T, rfl, fun _ _ => rfl⟩⟩
      · rw [e2, Option.bind_some, if_pos rfl]
        rw [p_lineJ hn (by omega), Option.bind_some]
        generalize hT1 : mR T 43 (fun l => if l < 24 then r6 (T.1 34) l k0 else T.1 43 l) = T1
        have t1 : ∀ g, g ≠ 43 → T1.1 g = T.1 g := fun g hg => by rw [← hT1, mR_at, if_neg hg]
        have t43 : ∀ r, r < 24 → T1.1 43 r = r6 (T.1 34) r k0 := fun r hr => by rw [← hT1, mR_at, if_pos rfl, if_pos hr]
        rw [p_takeField hn hm6 (by rw [t1 28 (by omega)]; exact hm) hk0, Option.bind_some]
        obtain ⟨k1, k2, k3, k4⟩ := tkF_sk (T := T1) hk0 hm6
        generalize hT2 : tkF T1 k0 m (m - 1) = T2 at k1 k2 k3 k4 ⊢
        have t2 : ∀ g, (g < 28 ∨ 34 < g) → g ≠ 43 → T2.1 g = T.1 g := fun g hg hg2 => by rw [k1 g hg, t1 g hg2]
        obtain ⟨o, ho, hq⟩ := p_joinApp (n := n) (T := T2) (K := K) (c := c) (d := d) (p := p) (m2 := m - 1) (pt := pt) hn hd (by rw [t2 4 (by omega) (by omega)]; exact hp) (by rw [t2 5 (by omega) (by omega), t2 6 (by omega) (by omega), t2 7 (by omega) (by omega), t2 8 (by omega) (by omega)]; exact hShd) (by omega) k2 (by rw [t2 27 (by omega) (by omega)]; exact h27) (fun r hr h14 => by
          rw [t2 14 (by omega) (by omega)] at h14
          rw [k1 43 (by omega), t43 r hr]
          exact ⟨(hpt r hr h14).1, (hpt r hr h14).2.1⟩)
        rw [ho, Option.bind_some]
        -- the names that are left
        have names : (∀ k', k' < p → ∀ f, f < m - 1 → T2.1 29 f ≠ r6 (T2.1 5) d k') ↔ ∀ k, k < p → ∀ f, f < m → f ≠ k0 → T.1 29 f ≠ r6 (T.1 5) d k := by
          rw [t2 5 (by omega) (by omega)]
          refine ⟨fun h k hk f hf hne e => ?_, fun h k hk f hf e => ?_⟩
          · by_cases hf0 : f < k0
            · refine h k hk f (by omega) ?_
              rw [k3 29 f (by omega) (by omega) (by omega), t1 29 (by omega)]
              unfold sk
              rw [if_pos hf0]
              exact e
            · refine h k hk (f - 1) (by omega) ?_
              rw [k3 29 (f - 1) (by omega) (by omega) (by omega), t1 29 (by omega)]
              unfold sk
              rw [if_neg (by omega), show f - 1 + 1 = f by omega]
              exact e
          · rw [k3 29 f (by omega) (by omega) hf, t1 29 (by omega)] at e
            refine h k hk (sk k0 f) ?_ ?_ e
            · unfold sk; split <;> omega
            · unfold sk; split <;> omega
        cases o with
        | inl T3 =>
          obtain ⟨q1, q2⟩ := hq
          refine ⟨fun hC => absurd ⟨hC.2.2.2.1, names.mpr hC.2.2.2.2⟩ q2, fun _ => ⟨T3, rfl, fun g hg => ?_⟩⟩
          rw [q1 g (by omega), t2 g (by omega) (by omega)]
        | inr T3 =>
          obtain ⟨q1, q2, q3, q4, q5, q6, q7, q8⟩ := hq
          have hCan : CanJ T c d p m k0 := ⟨h33, hn1, hh, q3, names.mp q4⟩
          refine ⟨fun _ => ?_, fun hno => absurd hCan hno⟩
          obtain ⟨T4, hT4, r1, r2, r3⟩ := p_joinDel (n := n) (T := T3) (c := c) (d := d) (pt := pt) (x3 := nI d) hn hc hd hcd (by rw [q1 27 (by omega), t2 27 (by omega) (by omega)]; exact h27) (fun r hr h14 => by
            rw [q1 14 (by omega), t2 14 (by omega) (by omega)] at h14
            rw [q1 43 (by omega), k1 43 (by omega), t43 r hr, q1 14 (by omega), t2 14 (by omega) (by omega)]
            exact hpt r hr h14)
          have e14 : T3.1 14 = T.1 14 := by rw [q1 14 (by omega), t2 14 (by omega) (by omega)]
          rw [e14] at r2 r3
          show ∃ T', ((lpO (b_X8_joinField_233 n (nI d)) n (T3, 0)).bind (fun w177 => nm (mI w177 35 0 1) (fun S178 => nm (mI S178 36 0 ((S178.1 36 0) ||| (1 <<< (nI d &&& 31)))) (fun S179 => some ((1 : Int32), S179))))) = some (1, T') ∧ _
          rw [hT4, Option.bind_some]
          let U : MSt := mI (mI T4 35 0 1) 36 0 (T4.1 36 0 ||| (1 <<< (nI d &&& 31)))
          have u : ∀ g, g ≠ 35 → g ≠ 36 → U.1 g = T4.1 g := fun g g1 g2 => by
            funext l
            show (mI (mI T4 35 0 1) 36 0 (T4.1 36 0 ||| (1 <<< (nI d &&& 31)))).1 g l = _
            rw [mI_at, if_neg (fun h => g2 h.1), mI_at, if_neg (fun h => g1 h.1)]
          have u3 : ∀ g, g ≠ 14 → g ≠ 35 → g ≠ 36 → U.1 g = T3.1 g := fun g g0 g1 g2 => by rw [u g g1 g2, r1 g g0]
          refine ⟨U, rfl, fun g hg => ?_, fun r hr h14 => ?_, fun y hy => ?_, by rw [u3 28 (by omega) (by omega) (by omega)]; exact q2, fun g i g1 g2 hi => ?_, fun k hk => ?_, fun r i hr hi => ?_, fun r k hr h14 hk => ?_, ?_, ?_⟩
          · rw [u3 g (by omega) (by omega) (by omega), q1 g (by omega), t2 g (by omega) (by omega)]
          · rw [u 14 (by omega) (by omega)]; exact r2 r hr h14
          · rw [u 14 (by omega) (by omega)]; exact r3 y hy
          · rw [u3 g (by omega) (by omega) (by omega), q5 g i g1 g2 hi, k3 g i g1 g2 hi, t1 g (by omega)]
          · have := q6 k hk
            rw [t2 5 (by omega) (by omega), t2 7 (by omega) (by omega), t2 8 (by omega) (by omega)] at this
            rw [u3 29 (by omega) (by omega) (by omega), u3 30 (by omega) (by omega) (by omega), u3 31 (by omega) (by omega) (by omega), u3 32 (by omega) (by omega) (by omega), u3 33 (by omega) (by omega) (by omega)]
            exact this
          · rw [u3 34 (by omega) (by omega) (by omega), q7 r i hr hi, k4 r i hr hi, t1 34 (by omega)]
          · have := q8 r k hr (by rw [t2 14 (by omega) (by omega)]; exact h14) hk
            rw [t2 16 (by omega) (by omega)] at this
            rw [u3 34 (by omega) (by omega) (by omega)]
            exact this
          · show (mI (mI T4 35 0 1) 36 0 (T4.1 36 0 ||| (1 <<< (nI d &&& 31)))).1 35 0 = _
            rw [mI_at, if_neg (by omega), mI_eq]
          · show (mI (mI T4 35 0 1) 36 0 (T4.1 36 0 ||| (1 <<< (nI d &&& 31)))).1 36 0 = _
            rw [mI_eq, r1 36 (by omega), q1 36 (by omega), t2 36 (by omega) (by omega)]
    · rw [e, Option.bind_some, if_pos rfl]
      exact ⟨fun hC => absurd hC.2.1 hn1, fun _ => ⟨T, rfl, fun _ _ => rfl⟩⟩
