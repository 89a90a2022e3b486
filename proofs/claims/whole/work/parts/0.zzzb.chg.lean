/-! ===== change: the whole call ===== -/
theorem do_change (n : Nat) (hn : 200 < n) : Do_change n Rel := fun j C M hj hR x1 => by
  obtain ⟨K, L, σ, τ, hM, hC⟩ := id hR
  obtain ⟨kcls, ksh, kold, krec, kid, kcnt, kval, kroot, koldv, kwrd, kstp, kflt⟩ := id hC
  have hK4 : K ≤ 4 := hM.1.1
  rcases nI_lt3 (x := x1) (N := K) (by omega) with ⟨c, hcK, e⟩ | ⟨-, h⟩
  · subst e
    have hc : c < 4 := by omega
    obtain ⟨q, hq6, h22, hst⟩ := id hM.2.2.2.2.2.2.2.2
    have g1 : C.1 1 0 0 = nI q := kstp.1.trans h22
    by_cases hq0 : q = 0
    · subst hq0
      refine stI_ex (w := (0, mI M 0 0 1)) (k := 1) (C2 := C) ?_ ?_ (by decide) rfl (Rel_code 1 (Rel_up hR))
      · unfold m_X7_change
        rw [q_needClass n kcls.1 hK4 hcK, g1]
        rfl
      · unfold m_X8_change
        rw [p_isClass n hM.1.2.1 hK4 hcK, Option.bind_some, if_neg one_ne, h22, if_neg (fun h => h rfl)]
        rfl
    · have hqne : ¬ nI q = 0 := fun h => hq0 ((nI_eq (a := q) (b := 0) (by omega) (by omega)).mp h)
      obtain ⟨v, hv9, hv, -⟩ := (hM.1.2.2 c hc).1
      have e1 : m_X8_change n M (nI c) = (if ¬ nI v = 9 then ((m_X8_begin n (mI (mI (mI M 0 0 0) 22 0 0) 26 0 (-1)) (nI c)).bind (fun z76 => (lpO (b_X8_change_73 n (nI c) (nI q)) n (z76, 0)).bind (fun w79 => if (w79.1 26 0) < 0 then ((m_X8_settle n w79 (nI c)).bind (fun z82 => bif inB (nI c) 4 then (some (z82.1 2 c, z82)) else none)) else ((m_X8_restore n w79 ).bind (fun z85 => nm (mI z85 0 0 2) (fun S86 => some (0, S86))))))) else (some (0, mI (mI (mI (mI M 0 0 0) 22 0 0) 26 0 (-1)) 0 0 2))) := by
        unfold m_X8_change
        rw [p_isClass n hM.1.2.1 hK4 hcK, Option.bind_some, if_neg one_ne, h22, if_pos hqne]
        unfold m_X8_change_J21
        rw [code0]
        show (bif inB (nI c) 4 then (if ¬ M.1 2 (nI c).toNatClampNeg = 9 then ((m_X8_begin n (mI (mI (mI M 0 0 0) 22 0 0) 26 0 (-1)) (nI c)).bind (fun z76 => (lpO (b_X8_change_73 n (nI c) (M.1 22 0)) n (z76, 0)).bind (fun w79 => if (w79.1 26 0) < 0 then ((m_X8_settle n w79 (nI c)).bind (fun z82 => bif inB (nI c) 4 then (some (z82.1 2 (nI c).toNatClampNeg, z82)) else none)) else ((m_X8_restore n w79 ).bind (fun z85 => nm (mI z85 0 0 2) (fun S86 => some (0, S86))))))) else (some (0, mI (mI (mI (mI M 0 0 0) 22 0 0) 26 0 (-1)) 0 0 2))) else none) = _
        rw [inB_nI hc (by omega), nI_clamp (by omega), h22, hv]
        rfl
      have e2 : m_X7_change n C (nI c) = (if nI v + 1 < 10 then ((m_X7_firstRefused n (sI (sI C 1 0 0 0) 2 0 0 (-1)) (nI c) (nI q)).bind (fun z35 => nm (sI z35.2 2 0 0 z35.1) (fun S36 => if (S36.1 2 0 0) = (-1) then ((m_X7_carryOut n S36 (nI c) (nI q)).bind (fun z39 => some (.inl (z39.1 3 c 0, z39)))) else (some (.inr (3, S36)))))) else (some (.inr (3, sI (sI C 1 0 0 0) 2 0 0 (-1))))) := by
        unfold m_X7_change
        rw [q_needClass n kcls.1 hK4 hcK]
        show (if ¬ (C.1 1 0 0) = 0 then (bif inB (nI c) 4 then (if C.1 3 (nI c).toNatClampNeg 0 + 1 < 10 then ((m_X7_firstRefused n (sI (sI C 1 0 0 0) 2 0 0 (-1)) (nI c) (C.1 1 0 0)).bind (fun z35 => nm (sI z35.2 2 0 0 z35.1) (fun S36 => if (S36.1 2 0 0) = (-1) then ((m_X7_carryOut n S36 (nI c) (C.1 1 0 0)).bind (fun z39 => some (Sum.inl (z39.1 3 (nI c).toNatClampNeg 0, z39)))) else (some (Sum.inr (3, S36)))))) else (some (Sum.inr (3, sI (sI C 1 0 0 0) 2 0 0 (-1))))) else none) else some (Sum.inr (1, C))) = _
        rw [g1, if_pos hqne, inB_nI hc (by omega), nI_clamp (by omega), (kcls.2 c hc).1, hv]
        rfl
      -- the memory when the change begins
      have mO : ∀ g, g ≠ 0 → g ≠ 22 → g ≠ 26 → (mI (mI (mI M 0 0 0) 22 0 0) 26 0 (-1)).1 g = M.1 g := fun g x1 x2 x3 => by
        funext l
        rw [mI_at, if_neg (fun h => x3 h.1), mI_at, if_neg (fun h => x2 h.1), mI_at, if_neg (fun h => x1 h.1)]
      have m22 : (mI (mI (mI M 0 0 0) 22 0 0) 26 0 (-1)).1 22 0 = 0 := by rw [mI_at, if_neg (by omega), mI_eq]
      have m26 : (mI (mI (mI M 0 0 0) 22 0 0) 26 0 (-1)).1 26 0 = -1 := by rw [mI_eq]
      have m00 : (mI (mI (mI M 0 0 0) 22 0 0) 26 0 (-1)).1 0 0 = 0 := by rw [mI_at, if_neg (by omega), mI_at, if_neg (by omega), mI_eq]
      have sO : ∀ g, g ≠ 1 → g ≠ 2 → (sI (sI C 1 0 0 0) 2 0 0 (-1)).1 g = C.1 g := fun g x1 x2 => by
        funext i l
        rw [sI_at, if_neg (fun h => x2 h.1), sI_at, if_neg (fun h => x1 h.1)]
      have s1 : (sI (sI C 1 0 0 0) 2 0 0 (-1)).1 1 0 0 = 0 := by rw [sI_at, if_neg (by omega), sI_at, if_pos ⟨rfl, rfl, rfl⟩]
      have s2 : (sI (sI C 1 0 0 0) 2 0 0 (-1)).1 2 0 0 = -1 := by rw [sI_at, if_pos ⟨rfl, rfl, rfl⟩]
      generalize hM1 : mI (mI (mI M 0 0 0) 22 0 0) 26 0 (-1) = M1 at e1 mO m22 m26 m00
      generalize hC1 : sI (sI C 1 0 0 0) 2 0 0 (-1) = D at e2 sO s1 s2
      have hM1' : MI K M1.1 := by
        obtain ⟨h1, h2, h3, h4, h5, h6, h7, h8, h9⟩ := hM
        refine ⟨?_, ?_, ?_, ?_, ?_, ?_, ?_, ?_, 0, by omega, m22, fun i hi => absurd hi (Nat.not_lt_zero _)⟩
        · rw [mO 1 (by omega) (by omega) (by omega), mO 2 (by omega) (by omega) (by omega), mO 3 (by omega) (by omega) (by omega)]; exact h1
        · rw [mO 4 (by omega) (by omega) (by omega), mO 5 (by omega) (by omega) (by omega), mO 6 (by omega) (by omega) (by omega), mO 7 (by omega) (by omega) (by omega), mO 8 (by omega) (by omega) (by omega)]; exact h2
        · rw [mO 2 (by omega) (by omega) (by omega), mO 14 (by omega) (by omega) (by omega), mO 15 (by omega) (by omega) (by omega)]; exact h3
        · rw [mO 4 (by omega) (by omega) (by omega), mO 6 (by omega) (by omega) (by omega), mO 7 (by omega) (by omega) (by omega), mO 8 (by omega) (by omega) (by omega), mO 14 (by omega) (by omega) (by omega), mO 16 (by omega) (by omega) (by omega)]; exact h4
        · rw [mO 14 (by omega) (by omega) (by omega), mO 19 (by omega) (by omega) (by omega)]; exact h5
        · rw [mO 4 (by omega) (by omega) (by omega), mO 6 (by omega) (by omega) (by omega), mO 7 (by omega) (by omega) (by omega)]; exact h6
        · rw [mO 3 (by omega) (by omega) (by omega), mO 4 (by omega) (by omega) (by omega), mO 6 (by omega) (by omega) (by omega), mO 7 (by omega) (by omega) (by omega), mO 8 (by omega) (by omega) (by omega), mO 9 (by omega) (by omega) (by omega), mO 10 (by omega) (by omega) (by omega), mO 11 (by omega) (by omega) (by omega), mO 12 (by omega) (by omega) (by omega), mO 13 (by omega) (by omega) (by omega), mO 14 (by omega) (by omega) (by omega), mO 16 (by omega) (by omega) (by omega), mO 17 (by omega) (by omega) (by omega)]; exact h7
        · rw [mO 20 (by omega) (by omega) (by omega), mO 21 (by omega) (by omega) (by omega)]; exact h8
      have hC1' : CR (j + 1) K L σ τ D.1 M1.1 := by
        refine ⟨?_, ?_, ?_, ?_, ?_, ?_, ?_, ?_, ?_, ?_, ⟨by rw [s1, m22], fun q' i hq' h0 hi => ?_⟩, by rw [s2, m26]⟩
        · rw [sO 0 (by omega) (by omega), sO 3 (by omega) (by omega), sO 4 (by omega) (by omega), mO 2 (by omega) (by omega) (by omega), mO 3 (by omega) (by omega) (by omega)]; exact kcls
        · rw [sO 5 (by omega) (by omega), sO 6 (by omega) (by omega), sO 7 (by omega) (by omega), sO 8 (by omega) (by omega), sO 9 (by omega) (by omega), mO 4 (by omega) (by omega) (by omega), mO 5 (by omega) (by omega) (by omega), mO 6 (by omega) (by omega) (by omega), mO 7 (by omega) (by omega) (by omega), mO 8 (by omega) (by omega) (by omega)]; exact ksh
        · rw [sO 5 (by omega) (by omega), sO 6 (by omega) (by omega), sO 7 (by omega) (by omega), sO 8 (by omega) (by omega), sO 9 (by omega) (by omega), mO 3 (by omega) (by omega) (by omega), mO 9 (by omega) (by omega) (by omega), mO 10 (by omega) (by omega) (by omega), mO 11 (by omega) (by omega) (by omega), mO 12 (by omega) (by omega) (by omega), mO 13 (by omega) (by omega) (by omega)]; exact kold
        · rw [sO 13 (by omega) (by omega), sO 14 (by omega) (by omega), sO 15 (by omega) (by omega), mO 14 (by omega) (by omega) (by omega), mO 15 (by omega) (by omega) (by omega)]; exact krec
        · rw [sO 12 (by omega) (by omega), sO 13 (by omega) (by omega)]; exact CRid_up kid (by omega)
        · rw [sO 11 (by omega) (by omega), mO 14 (by omega) (by omega) (by omega)]; exact kcnt
        · rw [sO 13 (by omega) (by omega), sO 17 (by omega) (by omega), mO 4 (by omega) (by omega) (by omega), mO 6 (by omega) (by omega) (by omega), mO 14 (by omega) (by omega) (by omega), mO 16 (by omega) (by omega) (by omega)]; exact kval
        · rw [sO 13 (by omega) (by omega), sO 19 (by omega) (by omega), mO 19 (by omega) (by omega) (by omega)]; exact kroot
        · rw [sO 13 (by omega) (by omega), sO 18 (by omega) (by omega), mO 3 (by omega) (by omega) (by omega), mO 9 (by omega) (by omega) (by omega), mO 11 (by omega) (by omega) (by omega), mO 14 (by omega) (by omega) (by omega), mO 17 (by omega) (by omega) (by omega)]; exact koldv
        · rw [sO 20 (by omega) (by omega), sO 21 (by omega) (by omega), mO 20 (by omega) (by omega) (by omega), mO 21 (by omega) (by omega) (by omega)]; exact kwrd
        · rw [m22] at h0
          have : 0 = q' := (nI_eq (a := 0) (b := q') (by omega) (by omega)).mp h0
          omega
      by_cases h9 : v = 9
      · subst h9
        rw [if_neg (fun h => h rfl)] at e1
        rw [if_neg (by decide)] at e2
        exact stI_ex e2 e1 (by decide) (mI_eq _ _ _ _) ⟨K, L, σ, τ, hM1', hC1'⟩
      · have hv8 : v ≤ 8 := by omega
        rw [if_pos (show ¬ nI v = (9 : Int32) from fun h => h9 ((nI_eq (a := v) (b := 9) (by omega) (by decide)).mp h))] at e1
        rw [if_pos (show nI v + 1 < (10 : Int32) by rw [nI_1]; exact nI_lt (b := 10) (by omega) (by decide))] at e2
        obtain ⟨m0, h4, hS0⟩ := hM1'.2.1 c hc
        have hm0 := hS0.1
        obtain ⟨B, eB, hB⟩ := p_begin (n := n) hn hc h4 hm0
        rw [eB, Option.bind_some] at e1
        have hMB : MI K B.1 := MI_ext hM1' (fun g _ h => hB.1 g (by omega))
        have hCB : CR (j + 1) K L σ τ D.1 B.1 := CR_ext hC1' (fun g _ h => hB.1 g (by omega)) (fun _ _ _ _ => rfl) (fun _ _ _ _ _ => rfl) (by rw [s2, hB.1 26 (by omega), m26])
        have hB4 : B.1 4 c = nI m0 := by rw [hB.1 4 (by omega)]; exact h4
        have hB26 : B.1 26 0 = -1 := by rw [hB.1 26 (by omega)]; exact m26
        have b23 : B.1 23 = M.1 23 := by rw [hB.1 23 (by omega), mO 23 (by omega) (by omega) (by omega)]
        have b24 : B.1 24 = M.1 24 := by rw [hB.1 24 (by omega), mO 24 (by omega) (by omega) (by omega)]
        have b25 : B.1 25 = M.1 25 := by rw [hB.1 25 (by omega), mO 25 (by omega) (by omega) (by omega)]
        have hb : Base (j + 1) K L q σ τ D B c m0 := by
          refine ⟨hMB, hCB, hcK, hB4, hm0, hq6, ?_, fun i hi => ?_⟩
          · rw [b23, b24, b25]
            exact hst
          · rw [b23, b24, b25, sO 22 (by omega) (by omega), sO 23 (by omega) (by omega), sO 24 (by omega) (by omega), sO 25 (by omega) (by omega), sO 26 (by omega) (by omega), sO 20 (by omega) (by omega), sO 21 (by omega) (by omega)]
            exact kstp.2 q i hq6 h22 hi
        have h0 := JM_begin hMB hc hm0 hB4 hB26 hB
        obtain ⟨w, ew, Ts, ms, hw⟩ := p_run (x1 := nI c) hn hb h0
        rw [ew, Option.bind_some] at e1
        have hLb : L ≤ 200 * j := kid.1
        rcases hw with ⟨w26, hCh, hwT⟩ | ⟨k, T', hkq, hCh, hRj, hwT⟩
        · -- the change is done
          rw [if_pos (by rw [w26]; decide)] at e1
          have hJq := chn_JM hCh h0 q (Nat.le_refl _)
          rw [← hwT] at hJq
          obtain ⟨ww, hw16, hw36, hdK⟩ := hJq.2.2.2.2.2.2.2.2.2.2.2.1
          have hfr := hJq.2.2.2.2.2.1
          obtain ⟨W, eW, hW⟩ := p_settle (n := n) (K := K) (T := w) (c := c) hn hK4 hcK (by rw [hfr.1 1 (by omega)]; exact hMB.1.2.1) (fun d hd => by rw [hfr.1 3 (by omega)]; exact (hMB.1.2.2 d hd).2) (fun d hd h => hdK d hd (by rw [← hw36]; exact h)) (fun h => (hJq.2.2.2.2.2.2.2.2.2.2.2.2 h).1)
          rw [eW, Option.bind_some, inB_nI hc (by omega), cond_true] at e1
          obtain ⟨o, eo, ho1, mm, rec, hJB⟩ := q_check (kk := q) hn hb hB hCh (Nat.le_refl _) (fun h => absurd h (Nat.lt_irrefl _))
          rw [if_neg (Nat.lt_irrefl _)] at ho1
          rw [eo, Option.bind_some, ho1] at e2
          have o2 : o.2.1 2 0 0 = -1 := by rw [hJB.2.1 2 (by omega) (by omega)]; exact s2
          have hA : JA D (sI o.2 2 0 0 (-1)) := by
            refine ⟨fun g x1 x2 => ?_, fun g i x1 x2 x3 => ?_⟩
            · rw [← hJB.2.1 g x1 x2]
              funext i l
              rw [sI_at]
              split
              · rename_i h
                rw [h.1, h.2.1, h.2.2, o2]
              · rfl
            · rw [← hJB.2.2.1 g i x1 x2 x3]
              funext l
              rw [sI_at, if_neg (by omega)]
          have e2' : m_X7_change n C (nI c) = (if ((sI o.2 2 0 0 (-1)).1 2 0 0) = (-1) then ((m_X7_carryOut n (sI o.2 2 0 0 (-1)) (nI c) (nI q)).bind (fun z39 => some (.inl (z39.1 3 c 0, z39)))) else (some (.inr (3, sI o.2 2 0 0 (-1))))) := e2
          rw [if_pos (by rw [sI_at, if_pos ⟨rfl, rfl, rfl⟩])] at e2'
          obtain ⟨F, eF, S, hJC, hF⟩ := q_carryOut hn hb hB hA hCh (by omega) (by omega)
          rw [eF, Option.bind_some] at e2'
          rw [← hwT] at hJC hF
          have hMW := set_MI hc hMB hB4 hm0 hv8 (by rw [hB.1 2 (by omega), mO 2 (by omega) (by omega) (by omega)]; exact hv) hJq hW
          obtain ⟨L', σ', τ', hCW⟩ := set_CR hb hJq hJC hW
          rw [← hF] at hCW
          refine stI_ok e2' e1 ?_ ?_ ⟨K, L', σ', τ', hMW, hCW⟩
          · rw [hW.1 0 (by omega), hfr.1 0 (by omega), hB.1 0 (by omega)]
            exact m00
          · exact (hCW.1.2 c hc).1.symm
        · -- a step is refused
          have w26 : w.1 26 0 = nI k := by rw [hwT, mI_eq]
          rw [if_neg (by rw [w26]; exact nI_pos (by omega))] at e1
          have hfr : FrT B w := by
            have hne : ∀ g, g ≠ 26 → w.1 g = T'.1 g := fun g hg => by
              funext l
              rw [hwT, mI_at, if_neg (fun h => hg h.1)]
            obtain ⟨f1, f2, f3⟩ := hRj.1
            refine ⟨fun g hg => by rw [hne g (by omega)]; exact f1 g hg, ?_, ?_⟩
            · rw [hne 14 (by omega), hne 15 (by omega)]; exact f2
            · rw [hne 16 (by omega)]; exact f3
          obtain ⟨W, eW, hW, hW26⟩ := p_restore (n := n) hn hB hfr
          rw [eW, Option.bind_some] at e1
          obtain ⟨o, eo, ho1, mm, rec, hJB⟩ := q_check (kk := k) hn hb hB hCh (by omega) (fun _ => hRj.2)
          rw [if_pos hkq] at ho1
          rw [eo, Option.bind_some, ho1] at e2
          have e2' : m_X7_change n C (nI c) = (if ((sI o.2 2 0 0 (nI k)).1 2 0 0) = (-1) then ((m_X7_carryOut n (sI o.2 2 0 0 (nI k)) (nI c) (nI q)).bind (fun z39 => some (.inl (z39.1 3 c 0, z39)))) else (some (.inr (3, sI o.2 2 0 0 (nI k))))) := e2
          rw [if_neg (by rw [sI_at, if_pos ⟨rfl, rfl, rfl⟩]; exact nI_ne_m1 (by omega))] at e2'
          have e1' : m_X8_change n M (nI c) = some (0, mI W 0 0 2) := e1
          have mW : ∀ g, 1 ≤ g → g ≤ 25 → (mI W 0 0 2).1 g = B.1 g := fun g x1 x2 => by
            rw [← hW g (by omega) (by omega)]
            funext l
            rw [mI_at, if_neg (by omega)]
          refine stI_ex e2' e1' (by decide) (mI_eq _ _ _ _) ⟨K, L, σ, τ, MI_ext hMB mW, CR_ext hCB mW (fun g x1 x2 x3 => ?_) (fun g i x1 x2 x3 => ?_) ?_⟩
          · rw [← hJB.2.1 g x2 x3]
            funext i l
            rw [sI_at, if_neg (fun h => x1 h.1)]
          · rw [← hJB.2.2.1 g i x1 x2 (by omega)]
            funext l
            rw [sI_at, if_neg (by omega)]
          · rw [sI_at, if_pos ⟨rfl, rfl, rfl⟩, mI_at, if_neg (by omega), hW26, w26]
  · refine stI_ex (w := (0, mI M 0 0 1)) (k := 1) (C2 := C) ?_ ?_ (by decide) rfl (Rel_code 1 (Rel_up hR))
    · unfold m_X7_change
      rw [q_needClass0 n kcls.1 h]
      rfl
    · unfold m_X8_change
      rw [p_isClass0 n hM.1.2.1 h]
      rfl
