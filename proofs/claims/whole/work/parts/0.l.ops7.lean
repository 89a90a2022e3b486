/-! ===== link ===== -/
theorem p_linkJ {n : Nat} {M : MSt} {p c k : Nat} {v : Int32} (hp : p < 24) (hc : c < 4) (hk : k < 6) (h14 : M.1 14 p = nI c) : m_X8_link_J106 n (mI M 0 0 0) (nI k) (nI p) v = some (mI (mI (mI (mI M 0 0 0) 15 p (M.1 2 c)) 16 (6 * p + k) v) 3 c 0) ∧ m_X8_link_J102 n (mI M 0 0 0) (nI k) (nI p) v = some (mI M 0 0 3) := by
  constructor
  · unfold m_X8_link_J106 m_X8_link_J107
    rw [code0e, mI_twice, p_touch (M := mI M 0 0 0) hp hc h14, Option.bind_some, ix6, inB_nI (by omega) (by omega), nI_clamp (by omega), inB_nI hp (by omega), nI_clamp (by omega)]
    show (bif inB (M.1 14 p) 4 then some (mI (mI (mI (mI M 0 0 0) 15 p (M.1 2 c)) 16 (6 * p + k) v) 3 (M.1 14 p).toNatClampNeg 0) else none) = _
    rw [h14, inB_nI hc (by omega), nI_clamp (by omega)]
    rfl
  · unfold m_X8_link_J102 m_X8_link_J107
    rw [codeXe (by decide), mI_twice]
theorem do_link (n : Nat) (hn : 24 < n) : Do_link n Rel := fun j C M hj hR x1 x2 x3 => by
  obtain ⟨K, L, σ, τ, hM, hC⟩ := id hR
  have hK4 : K ≤ 4 := hM.1.1
  rcases nI_lt3 (x := x3) (N := 8) (by decide) with ⟨i3, hi3, e⟩ | ⟨-, h3⟩
  · subst e
    have hm0 : ∀ x1 x2, m_X8_link n M x1 x2 (nI i3) = (m_X8_place n M x1 x2 0).bind (fun z86 => if 0 ≤ z86.1 then (bif inB x1 8 then (nm (z86.2.1 19 x1.toNatClampNeg) (fun x89 => bif inB (nI i3) 8 then (nm (z86.2.1 19 (nI i3).toNatClampNeg) (fun x91 => bif inB x89 24 then (nm ((6 * (z86.2.1 14 x89.toNatClampNeg)) + z86.1) (fun x93 => bif inB x93 24 then (if ¬ (z86.2.1 6 x93.toNatClampNeg) = 1 then (m_X8_link_J102 n z86.2 z86.1 x89 x91) else (if x91 < 0 then (m_X8_link_J106 n z86.2 z86.1 x89 x91) else ((m_X8_isOwned n z86.2 x91).bind (fun z98 => if ¬ z98 = 0 then (m_X8_link_J102 n z86.2 z86.1 x89 x91) else (bif inB x91 24 then (bif inB x93 24 then (if (z86.2.1 14 x91.toNatClampNeg) = (z86.2.1 7 x93.toNatClampNeg) then (m_X8_link_J106 n z86.2 z86.1 x89 x91) else (m_X8_link_J102 n z86.2 z86.1 x89 x91)) else none) else none))))) else none)) else none)) else none)) else none) else (some z86.2)) := fun x1 x2 => by
      unfold m_X8_link
      rw [p_isRoot n M hi3, Option.bind_some, if_pos one_ne]
    rcases nI_lt3 (x := x1) (N := 8) (by decide) with ⟨i, hi, e⟩ | ⟨-, h⟩
    · subst e
      rcases nI_lt3 (x := x2) (N := 10) (by decide) with ⟨a, ha, e⟩ | ⟨-, h⟩
      · subst e
        rcases root_cases hM hC hi with ⟨a1, a2⟩ | ⟨p, c, hp, hcK, a1, a2, a3, a4, a5, a6, a7⟩
        · refine stV_ex (w := mI M 0 0 2) (k := 2) (C2 := C) ?_ ?_ (by decide) rfl (Rel_code 2 (Rel_up hR))
          · unfold m_X7_link
            rw [q_needRoot n C hi, q_needName n C ha, q_needRoot n C hi3, q_held0 hi a2]
            rfl
          · rw [hm0, p_place0 hi ha a1]
            rfl
        · have hc4 : c < 4 := by omega
          have hcls : m_X7_link n C (nI i) (nI a) (nI i3) = (m_X7_referencePlace n C (σ p) (nI a)).bind (fun z70 => sumE (fun w71 => ((m_X4_isOwning n C (2 * c) w71).bind (fun z74 => if ¬ z74 = 0 then (some (.inr (3, C))) else (bif inB w71 6 then ((m_X7_mayBeReferredTo n C (C.1 19 0 i3) (C.1 8 (2 * c) w71.toNatClampNeg)).bind (fun z81 => if ¬ z81 = 0 then (bif inB w71 6 then ((m_X7_bringForward n (sI (sI C 17 (σ p) w71.toNatClampNeg (C.1 19 0 i3)) 4 c 0 0) (σ p)).bind (fun z88 => some (.inl z88.2))) else none) else (some (.inr (3, C))))) else none)))) (fun q => some (.inr q)) z70) := by
            unfold m_X7_link
            rw [q_needRoot n C hi, q_needName n C ha, q_needRoot n C hi3, q_held hn hi a4 a3 a5 hC.2.2.2.2.1.2.2.2]
            show (bif decide (σ p < 24) then _ else none) = _
            rw [decide_eq_true a4, a6, inB_nI hc4 (by omega), nI_clamp (by omega : c < 2 ^ 31), inB_nI hi3 (by omega), nI_clamp (by omega : i3 < 2 ^ 31)]
            rfl
          obtain ⟨m, hm6, hm, g1, g2, g3⟩ := fld_cases hM hC (n := n) (by omega) hc4 (nI a)
          rw [q_refPlace (m := m) hc4 a6 g2] at hcls
          rcases g3 with g3 | ⟨k, hk, g3, g4, g5, g6⟩
          · rw [g3, q_isRef0] at hcls
            refine stV_ex (w := mI M 0 0 2) (k := 2) (C2 := C) hcls ?_ (by decide) rfl (Rel_code 2 (Rel_up hR))
            rw [hm0, p_placeN (by omega) hi ha hp hc4 a1 a2 hm6 hm g3]
            rfl
          · rw [g3, q_isRef hm6 g1 hk, g4] at hcls
            have hpl := p_place (n := n) (y := 0) (by omega) hi ha hp hc4 a1 a2 hm6 hm g3 hk
            by_cases hq : r6 (M.1 6) c k = 0
            · rw [if_pos hq] at hcls
              rw [if_pos hq, if_neg (by decide)] at hpl
              refine stV_ex (w := mI M 0 0 2) (k := 2) (C2 := C) hcls ?_ (by decide) rfl (Rel_code 2 (Rel_up hR))
              rw [hm0, hpl]
              rfl
            · rw [if_neg hq] at hcls
              rw [if_neg hq, if_pos rfl] at hpl
              obtain ⟨jo, jx⟩ := p_linkJ (n := n) (M := M) (k := k) (v := M.1 19 i3) hp hc4 (by omega) a2
              have e2 : m_X8_link n M (nI i) (nI a) (nI i3) = if ¬ r6 (M.1 6) c k = 1 then some (mI M 0 0 3) else if M.1 19 i3 < 0 then some (mI (mI (mI (mI M 0 0 0) 15 p (M.1 2 c)) 16 (6 * p + k) (M.1 19 i3)) 3 c 0) else (m_X8_isOwned n (mI M 0 0 0) (M.1 19 i3)).bind (fun z98 => if ¬ z98 = 0 then some (mI M 0 0 3) else (bif inB (M.1 19 i3) 24 then (if M.1 14 (M.1 19 i3).toNatClampNeg = r6 (M.1 7) c k then some (mI (mI (mI (mI M 0 0 0) 15 p (M.1 2 c)) 16 (6 * p + k) (M.1 19 i3)) 3 c 0) else some (mI M 0 0 3)) else none)) := by
                rw [hm0, hpl, Option.bind_some, if_pos (nI_pos' (by omega)), inB_nI hi (by omega), nI_clamp (by omega), inB_nI hi3 (by omega), nI_clamp (by omega)]
                show (bif inB (M.1 19 i) 24 then nm (6 * M.1 14 (M.1 19 i).toNatClampNeg + nI k) (fun x93 => bif inB x93 24 then (if ¬ (M.1 6 x93.toNatClampNeg) = 1 then (m_X8_link_J102 n (mI M 0 0 0) (nI k) (M.1 19 i) (M.1 19 i3)) else (if M.1 19 i3 < 0 then (m_X8_link_J106 n (mI M 0 0 0) (nI k) (M.1 19 i) (M.1 19 i3)) else ((m_X8_isOwned n (mI M 0 0 0) (M.1 19 i3)).bind (fun z98 => if ¬ z98 = 0 then (m_X8_link_J102 n (mI M 0 0 0) (nI k) (M.1 19 i) (M.1 19 i3)) else (bif inB (M.1 19 i3) 24 then (bif inB x93 24 then (if (M.1 14 (M.1 19 i3).toNatClampNeg) = (M.1 7 x93.toNatClampNeg) then (m_X8_link_J106 n (mI M 0 0 0) (nI k) (M.1 19 i) (M.1 19 i3)) else (m_X8_link_J102 n (mI M 0 0 0) (nI k) (M.1 19 i) (M.1 19 i3))) else none) else none))))) else none) else none) = _
                rw [a1, inB_nI hp (by omega), nI_clamp (by omega), a2, ix6]
                simp only [nm]
                rw [inB_nI (by omega) (by omega), nI_clamp (by omega), jo, jx]
                rfl
              have e1 : m_X7_link n C (nI i) (nI a) (nI i3) = if r6 (M.1 6) c k = 2 then some (.inr (3, C)) else (m_X7_mayBeReferredTo n C (C.1 19 0 i3) (r6 (M.1 7) c k)).bind (fun z81 => if ¬ z81 = 0 then some (.inl (sI (sI (sI C 17 (σ p) k (C.1 19 0 i3)) 4 c 0 0) 15 (σ p) 0 (C.1 3 c 0))) else some (.inr (3, C))) := by
                rw [hcls]
                show (m_X4_isOwning n C (2 * c) (nI k)).bind _ = _
                rw [q_isOwn hm6 g1 hk, Option.bind_some, g4, inB_nI (by omega : k < 6) (by omega), nI_clamp (by omega), g5, q_bring (S := sI (sI C 17 (σ p) k (C.1 19 0 i3)) 4 c 0 0) hc4 a6]
                by_cases h : r6 (M.1 6) c k = 2
                · rw [if_pos h, if_pos h, if_pos one_ne]
                · rw [if_neg h, if_neg h, if_neg (fun h2 => h2 rfl)]
                  rfl
              rcases Fld_kind hM hc4 hm hm6 hk with hk0 | hk1 | hk2
              · exact absurd hk0 hq
              · rw [if_neg (fun h => h hk1)] at e2
                rw [if_neg (by rw [hk1]; decide)] at e1
                have hF : Fld (M.1 4) (M.1 6) (M.1 14) p c k 1 := ⟨hp, hc4, a2, ⟨m, hm6, hm, hk⟩, hk1⟩
                rcases root_cases hM hC hi3 with ⟨b1, b2⟩ | ⟨t, d, ht, hdK, b1, b2, b3, b4, b5, b6, b7⟩
                · have hmay : m_X7_mayBeReferredTo n C (C.1 19 0 i3) (r6 (M.1 7) c k) = some 1 := by
                    unfold m_X7_mayBeReferredTo
                    rw [b2, q_find0]
                    rfl
                  rw [hmay, Option.bind_some, if_pos one_ne] at e1
                  rw [if_pos (by rw [b1]; exact m1_lt)] at e2
                  refine stV_ok e1 e2 rfl (Rel_write hM hC hcK hF (Or.inr ⟨rfl, ?_, Or.inl b1⟩))
                  rw [b1, b2, tr_m1]
                · have hlt : M.1 14 t ≠ -1 := by rw [b2]; exact nI_ne_m1 (by omega)
                  rw [if_neg (by rw [b1]; exact nI_pos (by omega)), b1] at e2
                  have hown := p_isOwned (M := mI M 0 0 0) hn hM ht
                  have qown := q_isOwned hn hM hC ht hlt
                  have hmay : m_X7_mayBeReferredTo n C (C.1 19 0 i3) (r6 (M.1 7) c k) = if ¬ nI d = r6 (M.1 7) c k then some 0 else (m_X7_isOwned n C (C.1 13 (σ t) 0)).bind (fun z18 => if ¬ z18 = 0 then some 0 else some 1) := by
                    unfold m_X7_mayBeReferredTo
                    rw [b3, q_findS hn b4 b5 hC.2.2.2.2.1.2.2.2, Option.bind_some]
                    show (bif decide (σ t < 24) then _ else none) = _
                    rw [decide_eq_true b4, b6]
                    rfl
                  rw [hmay] at e1
                  rw [inB_nI ht (by omega), nI_clamp (by omega), b2] at e2
                  by_cases hd : nI d = r6 (M.1 7) c k
                  · rw [if_neg (fun h => h hd)] at e1
                    rcases hown with ⟨w1, w2⟩ | ⟨w1, w2⟩
                    · rcases qown with ⟨v1, v2⟩ | ⟨v1, v2⟩
                      · rw [v1, Option.bind_some, if_pos one_ne, Option.bind_some, if_neg (fun h => h rfl)] at e1
                        rw [w1, Option.bind_some, if_pos one_ne] at e2
                        exact stV_ex e1 e2 (by decide) rfl (Rel_code 3 (Rel_up hR))
                      · obtain ⟨r, k, ho⟩ := w2
                        exact absurd ho (v2 r k)
                    · rcases qown with ⟨v1, r, k, ho⟩ | ⟨v1, v2⟩
                      · exact absurd ho (w2 r k)
                      · rw [v1, Option.bind_some, if_neg (fun h => h rfl), Option.bind_some, if_pos one_ne] at e1
                        rw [w1, Option.bind_some, if_neg (fun h => h rfl)] at e2
                        rw [if_pos hd, ← b1] at e2
                        refine stV_ok e1 e2 rfl (Rel_write hM hC hcK hF (Or.inr ⟨rfl, ?_, Or.inr ⟨t, ht, b1, hlt, v2⟩⟩))
                        rw [b1, tr_nI σ _ ht, b3]
                  · rw [if_pos hd, Option.bind_some, if_neg (fun h => h rfl)] at e1
                    rw [if_neg hd] at e2
                    have e3 : m_X8_link n M (nI i) (nI a) (nI i3) = some (mI M 0 0 3) := by
                      rcases hown with ⟨w1, w2⟩ | ⟨w1, w2⟩
                      · rw [e2, w1]; rfl
                      · rw [e2, w1]; rfl
                    exact stV_ex e1 e3 (by decide) rfl (Rel_code 3 (Rel_up hR))
              · rw [if_pos (by rw [hk2]; decide)] at e2
                rw [if_pos hk2] at e1
                exact stV_ex e1 e2 (by decide) rfl (Rel_code 3 (Rel_up hR))
      · refine stV_ex (w := mI M 0 0 1) (k := 1) (C2 := C) ?_ ?_ (by decide) rfl (Rel_code 1 (Rel_up hR))
        · unfold m_X7_link
          rw [q_needRoot n C hi, q_needName0 n C h]
          rfl
        · rw [hm0, p_placeY hi h]
          rfl
    · refine stV_ex (w := mI M 0 0 1) (k := 1) (C2 := C) ?_ ?_ (by decide) rfl (Rel_code 1 (Rel_up hR))
      · unfold m_X7_link
        rw [q_needRoot0 n C h]
        rfl
      · rw [hm0, p_placeX h]
        rfl
  · refine stV_ex (w := mI M 0 0 1) (k := 1) (C2 := C) ?_ ?_ (by decide) rfl (Rel_code 1 (Rel_up hR))
    · unfold m_X7_link
      rcases nI_lt3 (x := x1) (N := 8) (by decide) with ⟨i, hi, e⟩ | ⟨-, h⟩
      · subst e
        rcases nI_lt3 (x := x2) (N := 10) (by decide) with ⟨a, ha, e⟩ | ⟨-, h⟩
        · subst e
          rw [q_needRoot n C hi, q_needName n C ha, q_needRoot0 n C h3]
          rfl
        · rw [q_needRoot n C hi, q_needName0 n C h]
          rfl
      · rw [q_needRoot0 n C h]
        rfl
    · unfold m_X8_link
      rw [p_isRoot0 n M h3]
      rfl
