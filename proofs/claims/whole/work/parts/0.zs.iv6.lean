/-! ===== formulas: one word of the class ===== -/
def obO (R : Int32 → Prop) (lo hi : Int32 → Int) (w : Int32) (S : CSt) (h : Nat) (l u : Nat → Int) (o : Int32 × CSt) : Prop := FrP S o.2 ∧ ((o.1 = 0 ∧ ¬ ∃ h' l' u', ivS R lo hi w h l u h' l' u') ∨ (o.1 = 1 ∧ ∃ h' l' u', ivS R lo hi w h l u h' l' u' ∧ stC o.2 h' l' u'))
theorem FrP_refl (S : CSt) : FrP S S := fun _ _ => rfl
theorem FrP_trans {S S' S'' : CSt} (h1 : FrP S S') (h2 : FrP S' S'') : FrP S S'' := fun g hg => (h2 g hg).trans (h1 g hg)
theorem FrP_27 (S : CSt) (v : Int32) : FrP S (sI S 27 0 0 v) := fun g hg => by
  funext j l
  rw [sI_at, if_neg (fun h => hg h.1)]
theorem isZ0 : isZ 0 = true := by decide
theorem isZ1 : isZ 1 = true := by decide
theorem q_word {n : Nat} {S : CSt} {h : Nat} {l u : Nat → Int} {w : Int32} (R : Int32 → Prop) (lo hi : Int32 → Int) (hn : 4 < n) (hs : stC S h l u) (hW : isW w) (hw : ¬ w < 10) (ht : tk w ≤ h) (hp : h < 12 ∨ 1 ≤ tk w) : Ok (if w < 100 then (if ¬ w = 16 then ((m_X3_combine n S w).bind (fun z25 => bif isZ z25.1 then (some (z25.1, z25.2)) else none)) else ((m_X3_negate n S ).bind (fun z28 => bif isZ z28.1 then (some (z28.1, z28.2)) else none))) else ((m_X3_lay n S ((w - 200).toInt64) ((w - 200).toInt64)).bind (fun z31 => bif isZ z31.1 then (some (z31.1, z31.2)) else none))) (obO R lo hi w S h l u) := by
  obtain ⟨h27, h12, hst⟩ := id hs
  rcases isW_cases hW with ⟨c1, c2⟩ | ⟨c1, c2, c3, c4⟩ | ⟨c1, c2, c3, c4⟩ | ⟨c1, c2, c3, c4, c5⟩
  · exact absurd c1 hw
  · -- a literal
    have xa := lit_64 c2 c4
    have hlow : ¬ w.toInt < 100 := fun h => c2 (Int32.lt_iff_toInt_lt.mpr (by rw [show (100 : Int32).toInt = 100 by decide]; exact h))
    have na : nf (w.toInt - 200) := by unfold nf; omega
    have hp : h < 12 := by omega
    rw [if_neg c2, (q_lay (n := n) hp h27).1 (by rw [xa]; unfold nf at na; exact na), Option.bind_some]
    refine ok_eq (a := (1, plP S h (w - 200).toInt64 (w - 200).toInt64)) (by rw [isZ1]; rfl) ⟨plP_fr _ _ _ _, Or.inr ⟨rfl, h + 1, _, _, Or.inr (Or.inl ⟨c1, c2, rfl, rfl, rfl⟩), stC_push hp hst xa xa na na (Int.le_refl _)⟩⟩
  · -- negated
    have hh : 1 ≤ h := by omega
    obtain ⟨q1, q2, q3, q4, q5⟩ := hst (h - 1) (by omega)
    have e1 : nI h - 1 = nI (h - 1) := pk_sub (b := 1) hh
    rw [if_pos c2, if_neg (fun h => h c3)]
    unfold nf at q3 q4
    have v1 : (-(S.2.1 1 (h - 1))).toInt = -u (h - 1) := by rw [j_neg (by omega) (by omega), q2]
    have v2 : (-(S.2.1 0 (h - 1))).toInt = -l (h - 1) := by rw [j_neg (by omega) (by omega), q1]
    have f27 : (sI S 27 0 0 (nI (h - 1))).1 27 0 0 = nI (h - 1) := by rw [sI_at, if_pos ⟨rfl, rfl, rfl⟩]
    have hneg : m_X3_negate n S = some (1, plP (sI S 27 0 0 (nI (h - 1))) (h - 1) (-(S.2.1 1 (h - 1))) (-(S.2.1 0 (h - 1)))) := by
      unfold m_X3_negate
      rw [h27, if_pos (show (1 : Int32) ≤ nI h from nI_le hh (by omega)), e1]
      show (bif inB ((sI S 27 0 0 (nI (h - 1))).1 27 0 0) 12 then bif inB ((sI S 27 0 0 (nI (h - 1))).1 27 0 0) 12 then (m_X3_lay n (sI S 27 0 0 (nI (h - 1))) (-(S.2.1 1 ((sI S 27 0 0 (nI (h - 1))).1 27 0 0).toNatClampNeg)) (-(S.2.1 0 ((sI S 27 0 0 (nI (h - 1))).1 27 0 0).toNatClampNeg))).bind (fun z16 => bif isZ z16.1 then some (z16.1, z16.2) else none) else none else none) = _
      rw [f27, inB_nI (by omega : h - 1 < 12) (by omega), cond_true, cond_true, nI_clamp (by omega), (q_lay (n := n) (by omega) f27).1 (by rw [v1, v2]; omega), Option.bind_some, isZ1]
      rfl
    rw [hneg, Option.bind_some]
    have hst' : ∀ i, i < h - 1 → ((sI S 27 0 0 (nI (h - 1))).2.1 0 i).toInt = l i ∧ ((sI S 27 0 0 (nI (h - 1))).2.1 1 i).toInt = u i ∧ nf (l i) ∧ nf (u i) ∧ l i ≤ u i := fun i hi => hst i (by omega)
    have nn1 : nf (-u (h - 1)) := by unfold nf; omega
    have nn2 : nf (-l (h - 1)) := by unfold nf; omega
    have hpush := stC_push (S := sI S 27 0 0 (nI (h - 1))) (h := h - 1) (by omega) hst' v1 v2 nn1 nn2 (by omega)
    rw [show h - 1 + 1 = h by omega] at hpush
    refine ok_eq (a := (1, plP (sI S 27 0 0 (nI (h - 1))) (h - 1) (-(S.2.1 1 (h - 1))) (-(S.2.1 0 (h - 1))))) (by rw [isZ1]; rfl) ⟨FrP_trans (FrP_27 _ _) (plP_fr _ _ _ _), Or.inr ⟨rfl, h, _, _, Or.inr (Or.inr (Or.inl ⟨c1, c2, c3, hh, rfl, rfl, rfl, ?_, ?_⟩)), hpush⟩⟩
    · unfold upZ; rw [if_pos rfl]; exact nn1
    · unfold upZ; rw [if_pos rfl]; exact nn2
  · -- combined
    have hh : 2 ≤ h := by omega
    obtain ⟨a1, a2, a3, a4, a5⟩ := hst (h - 2) (by omega)
    obtain ⟨b1, b2, b3, b4, b5⟩ := hst (h - 1) (by omega)
    have e1 : nI h - 2 = nI (h - 2) := pk_sub (b := 2) hh
    rw [if_pos c2, if_pos c3]
    have f27 : (sI S 27 0 0 (nI (h - 2))).1 27 0 0 = nI (h - 2) := by rw [sI_at, if_pos ⟨rfl, rfl, rfl⟩]
    have e2 : nI (h - 2) + 1 = nI (h - 1) := by rw [nI_1, show h - 2 + 1 = h - 1 by omega]
    -- the road to the four pairs
    have road : m_X3_combine n S w = (if ¬ w = 13 then m_X3_combine_J62 n (sI S 27 0 0 (nI (h - 2))) w (nI (h - 2)) (nI (h - 1)) else (if 0 < (lg_cmp (S.2.1 0 (h - 1)) 0) then m_X3_combine_J62 n (sI S 27 0 0 (nI (h - 2))) w (nI (h - 2)) (nI (h - 1)) else (if (lg_cmp (S.2.1 1 (h - 1)) 0) < 0 then m_X3_combine_J62 n (sI S 27 0 0 (nI (h - 2))) w (nI (h - 2)) (nI (h - 1)) else some (0, sI S 27 0 0 (nI (h - 2)))))) := by
      unfold m_X3_combine
      rw [h27, if_pos (show (2 : Int32) ≤ nI h from nI_le hh (by omega)), e1]
      show (if ¬ w = 13 then m_X3_combine_J62 n (sI S 27 0 0 (nI (h - 2))) w ((sI S 27 0 0 (nI (h - 2))).1 27 0 0) ((sI S 27 0 0 (nI (h - 2))).1 27 0 0 + 1) else (bif inB ((sI S 27 0 0 (nI (h - 2))).1 27 0 0 + 1) 12 then (if 0 < (lg_cmp (S.2.1 0 ((sI S 27 0 0 (nI (h - 2))).1 27 0 0 + 1).toNatClampNeg) 0) then m_X3_combine_J62 n (sI S 27 0 0 (nI (h - 2))) w ((sI S 27 0 0 (nI (h - 2))).1 27 0 0) ((sI S 27 0 0 (nI (h - 2))).1 27 0 0 + 1) else (bif inB ((sI S 27 0 0 (nI (h - 2))).1 27 0 0 + 1) 12 then (if (lg_cmp (S.2.1 1 ((sI S 27 0 0 (nI (h - 2))).1 27 0 0 + 1).toNatClampNeg) 0) < 0 then m_X3_combine_J62 n (sI S 27 0 0 (nI (h - 2))) w ((sI S 27 0 0 (nI (h - 2))).1 27 0 0) ((sI S 27 0 0 (nI (h - 2))).1 27 0 0 + 1) else some (0, sI S 27 0 0 (nI (h - 2)))) else none)) else none)) = _
      rw [f27, e2, inB_nI (by omega : h - 1 < 12) (by omega), cond_true, cond_true, nI_clamp (by omega)]
    have z0 : (0 : Int64).toInt = 0 := by decide
    have noE : ¬ okI w (l (h - 2)) (u (h - 2)) (l (h - 1)) (u (h - 1)) → ¬ ∃ h' l' u', ivS R lo hi w h l u h' l' u' := fun hno ⟨h', l', u', hi⟩ => by
      rcases hi with ⟨b1, _⟩ | ⟨_, b2, _⟩ | ⟨_, _, b3, _⟩ | ⟨_, _, _, _, _, b6, _⟩
      · exact c1 b1
      · exact b2 c2
      · exact c3 b3
      · exact hno b6
    have main : ¬ (w = 13 ∧ l (h - 1) ≤ 0 ∧ 0 ≤ u (h - 1)) → Ok (m_X3_combine_J62 n (sI S 27 0 0 (nI (h - 2))) w (nI (h - 2)) (nI (h - 1))) (obO R lo hi w S h l u) := fun hz => by
      unfold m_X3_combine_J62
      rcases q_comb4 (n := n) (S := sI S 27 0 0 (nI (h - 2))) (x := h - 2) (y := h - 1) hn (by omega) (by omega) c5 a1 a2 b1 b2 a3 a4 b3 b4 (fun h13 => ⟨fun e => hz ⟨h13, by omega, by omega⟩, fun e => hz ⟨h13, by omega, by omega⟩⟩) with ⟨g1, g2, g3⟩ | ⟨p, q, g1, g2, g3, g4⟩
      · rw [g1, Option.bind_some]
        refine ok_eq (a := (0, sI S 27 0 0 (nI (h - 2)))) rfl ⟨FrP_27 _ _, Or.inl ⟨rfl, noE (fun hok => g3 (hok.2 g2))⟩⟩
      · rw [g1, Option.bind_some]
        have hok : okI w (l (h - 2)) (u (h - 2)) (l (h - 1)) (u (h - 1)) := ⟨hz, g2⟩
        have hle : (ivO (l (h - 2)) (u (h - 2)) (l (h - 1)) (u (h - 1)) w).1 ≤ (ivO (l (h - 2)) (u (h - 2)) (l (h - 1)) (u (h - 1)) w).2 := mn_mx _ _ _ _
        have hL := q_lay (n := n) (S := sI S 27 0 0 (nI (h - 2))) (x := p) (y := q) (by omega : h - 2 < 12) f27
        rw [g3, g4] at hL
        by_cases hr : -1000000000000 ≤ (ivO (l (h - 2)) (u (h - 2)) (l (h - 1)) (u (h - 1)) w).1 ∧ (ivO (l (h - 2)) (u (h - 2)) (l (h - 1)) (u (h - 1)) w).2 ≤ 1000000000000
        · have hst' : ∀ i, i < h - 2 → ((sI S 27 0 0 (nI (h - 2))).2.1 0 i).toInt = l i ∧ ((sI S 27 0 0 (nI (h - 2))).2.1 1 i).toInt = u i ∧ nf (l i) ∧ nf (u i) ∧ l i ≤ u i := fun i hi => hst i (by omega)
          have hpush := stC_push (S := sI S 27 0 0 (nI (h - 2))) (h := h - 2) (by omega) hst' g3 g4 ⟨hr.1, by omega⟩ ⟨by omega, hr.2⟩ hle
          rw [show h - 2 + 1 = h - 1 by omega] at hpush
          refine ok_eq (a := (1, plP (sI S 27 0 0 (nI (h - 2))) (h - 2) p q)) ?_ ⟨FrP_trans (FrP_27 _ _) (plP_fr _ _ _ _), Or.inr ⟨rfl, h - 1, _, _, Or.inr (Or.inr (Or.inr ⟨c1, c2, c3, hh, rfl, hok, rfl, rfl, ?_, ?_⟩)), hpush⟩⟩
          · show ((m_X3_lay n (sI S 27 0 0 (nI (h - 2))) p q).bind _) = _
            rw [hL.1 hr, Option.bind_some, isZ1]
            rfl
          · unfold upZ; rw [if_pos rfl]; exact hr.1
          · unfold upZ; rw [if_pos rfl]; exact hr.2
        · refine ok_eq (a := (0, sI S 27 0 0 (nI (h - 2)))) ?_ ⟨FrP_27 _ _, Or.inl ⟨rfl, fun ⟨h', l', u', hi⟩ => ?_⟩⟩
          · show ((m_X3_lay n (sI S 27 0 0 (nI (h - 2))) p q).bind _) = _
            rw [hL.2 hr, Option.bind_some, isZ0]
            rfl
          · rcases hi with ⟨b1, _⟩ | ⟨_, b2, _⟩ | ⟨_, _, b3, _⟩ | ⟨_, _, _, _, _, _, b7, b8, b9, b10⟩
            · exact c1 b1
            · exact b2 c2
            · exact c3 b3
            · rw [b7] at b9
              rw [b8] at b10
              unfold upZ at b9 b10
              rw [if_pos rfl] at b9 b10
              exact hr ⟨b9, b10⟩
    have wrap : Ok (m_X3_combine n S w) (obO R lo hi w S h l u) := by
      rw [road]
      by_cases hz : w = 13 ∧ l (h - 1) ≤ 0 ∧ 0 ≤ u (h - 1)
      · have hc : ¬ 0 < lg_cmp (S.2.1 0 (h - 1)) 0 := fun h3 => by
          have := Int64.lt_iff_toInt_lt.mp ((lg_cmp_gt _ _).mp h3)
          rw [z0, b1] at this
          omega
        have hd : ¬ lg_cmp (S.2.1 1 (h - 1)) 0 < 0 := fun h3 => by
          have := Int64.lt_iff_toInt_lt.mp ((lg_cmp_lt _ _).mp h3)
          rw [z0, b2] at this
          omega
        rw [if_neg (fun h => h hz.1), if_neg hc, if_neg hd, Ok_some]
        exact ⟨FrP_27 _ _, Or.inl ⟨rfl, noE (fun hok => hok.1 hz)⟩⟩
      · by_cases h13 : w = 13
        · rw [if_neg (fun h => h h13)]
          by_cases hc : 0 < lg_cmp (S.2.1 0 (h - 1)) 0
          · rw [if_pos hc]; exact main hz
          · rw [if_neg hc]
            have : ¬ (0 : Int64).toInt < (S.2.1 0 (h - 1)).toInt := fun h3 => hc ((lg_cmp_gt _ _).mpr (Int64.lt_iff_toInt_lt.mpr h3))
            have hd : lg_cmp (S.2.1 1 (h - 1)) 0 < 0 := (lg_cmp_lt _ _).mpr (Int64.lt_iff_toInt_lt.mpr (by
              rw [z0, b2]
              rw [z0, b1] at this
              exact Int.not_le.mp (fun h4 => hz ⟨h13, by omega, h4⟩)))
            rw [if_pos hd]; exact main hz
        · rw [if_pos h13]; exact main hz
    refine ok_seq wrap (fun o ho => ?_)
    have : isZ o.1 = true := by
      rcases ho.2 with q | q
      · rw [q.1]; rfl
      · rw [q.1]; rfl
    rw [this]
    exact ok_eq rfl ho
/-! ===== formulas: one word, with a shape of the class ===== -/
/-- the numbers of a shape, by their names -/
def gR (m0 : Nat) (na kd : Nat → Int32) (w : Int32) : Prop := ∃ k, k < m0 ∧ na k = w ∧ kd k = 0
def gV (m0 : Nat) (na : Nat → Int32) (va : Nat → Int32) (w : Int32) : Int := (va (plc na m0 w).toNatClampNeg).toInt
theorem q_obeyG {n : Nat} {S : CSt} {i m0 h K : Nat} {na kd lo hi va vb : Nat → Int32} {l u : Nat → Int} {w : Int32} {F : Int32 → Option (Int32 × CSt)} (hn : 6 < n) (hSh : Sh K m0 na kd lo hi) (hS : ShC (S.1 5) (S.1 6) (S.1 7) (S.1 8) (S.1 9) i m0 na kd lo hi) (hs : stC S h l u) (hw : w < 10) (hp : h < 12)
    (hF : ∀ x, F x = (m_X4_isNumber n S i x).bind (fun z14 => if ¬ z14 = 0 then (bif inB x 6 then (bif inB x 6 then ((m_X3_lay n S ((va x.toNatClampNeg).toInt64) ((vb x.toNatClampNeg).toInt64)).bind (fun z19 => bif isZ z19.1 then (some (z19.1, z19.2)) else none)) else none) else none) else (some (0, S))))
    (hv : ∀ k, k < m0 → kd k = 0 → (va k).toInt ≤ (vb k).toInt ∧ nf (va k).toInt ∧ nf (vb k).toInt) : Ok ((m_X4_placeOf n S i w).bind (fun z34 => (F z34).bind (fun z36 => bif isZ z36.1 then (some (z36.1, z36.2)) else none))) (obO (gR m0 na kd) (gV m0 na va) (gV m0 na vb) w S h l u) := by
  have h6 := hSh.1
  rw [q_placeOf hn h6 hS.1 (fun k hk => (hS.2 k hk).1) hSh.2.1, Option.bind_some, hF]
  have noE : (∀ k, k < m0 → na k = w → kd k ≠ 0) → ¬ ∃ h' l' u', ivS (gR m0 na kd) (gV m0 na va) (gV m0 na vb) w h l u h' l' u' := fun hno ⟨h', l', u', hi⟩ => by
    rcases hi with ⟨_, ⟨k, k1, k2, k3⟩, _⟩ | ⟨b1, _⟩ | ⟨b1, _⟩ | ⟨b1, _⟩
    · exact hno k k1 k2 k3
    · exact b1 hw
    · exact b1 hw
    · exact b1 hw
  rcases plc_nn (f := na) (x := w) h6 with ⟨g1, g2⟩ | ⟨k0, hk0, g1, g2, g3, g4⟩
  · rw [g1, q_isNumber0]
    exact ok_eq (a := (0, S)) rfl ⟨FrP_refl S, Or.inl ⟨rfl, noE (fun k hk e => absurd e (g2 k hk))⟩⟩
  · rw [g1, q_isNumber h6 hS.1 hk0, (hS.2 k0 hk0).2.1, Option.bind_some]
    by_cases h0 : kd k0 = 0
    · rw [if_pos h0, if_pos one_ne, inB_nI (by omega) (by omega), cond_true, cond_true, nI_clamp (by omega)]
      obtain ⟨v1, v2, v3⟩ := hv k0 hk0 h0
      have ea : ((va k0).toInt64).toInt = gV m0 na va w := by unfold gV; rw [Int32.toInt_toInt64, g1, nI_clamp (by omega)]
      have eb : ((vb k0).toInt64).toInt = gV m0 na vb w := by unfold gV; rw [Int32.toInt_toInt64, g1, nI_clamp (by omega)]
      have w1 : gV m0 na va w = (va k0).toInt := by unfold gV; rw [g1, nI_clamp (by omega)]
      have w2 : gV m0 na vb w = (vb k0).toInt := by unfold gV; rw [g1, nI_clamp (by omega)]
      rw [(q_lay (n := n) (x := (va k0).toInt64) (y := (vb k0).toInt64) hp hs.1).1 (by rw [ea, eb, w1, w2]; unfold nf at v2 v3; exact ⟨v2.1, v3.2⟩), Option.bind_some, isZ1, cond_true, Option.bind_some, isZ1]
      refine ok_eq (a := (1, plP S h _ _)) rfl ⟨plP_fr _ _ _ _, Or.inr ⟨rfl, h + 1, _, _, Or.inl ⟨hw, ⟨k0, hk0, g2, h0⟩, rfl, rfl, rfl⟩, stC_push hp hs.2.2 ea eb (by rw [w1]; exact v2) (by rw [w2]; exact v3) (by rw [w1, w2]; exact v1)⟩⟩
    · rw [if_neg h0, if_neg (fun h => h rfl)]
      refine ok_eq (a := (0, S)) rfl ⟨FrP_refl S, Or.inl ⟨rfl, noE (fun k hk e h6' => ?_)⟩⟩
      rw [hSh.2.1 k hk k0 hk0 (e.trans g2.symm)] at h6'
      exact h0 h6'
