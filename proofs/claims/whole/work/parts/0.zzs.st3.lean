theorem cn_add {p q z : Nat → Bool} : ∀ {m : Nat}, (∀ k, k < m → (p k = (q k || z k)) ∧ (q k && z k) = false) → cn p m = cn q m + cn z m
  | 0, _ => rfl
  | m + 1, h => by
    have ih := cn_add (p := p) (q := q) (z := z) (m := m) (fun k hk => h k (by omega))
    obtain ⟨h1, h2⟩ := h m (by omega)
    show cn p m + _ = cn q m + _ + (cn z m + _)
    rw [ih, h1]
    cases hq : q m <;> cases hz : z m
    · simp
    · simp; omega
    · simp; omega
    · rw [hq, hz] at h2; cases h2
theorem cnt_class {j K L q : Nat} {σ τ : Nat → Nat} {D S : CSt} {B T : MSt} {c m0 m : Nat} {rec : Int32} (hb : Base j K L q σ τ D B c m0) (hM : JM K B T c m0 m) (h : JB D S T m rec) : cn (fun e => !decide (S.1 13 e 0 = 0) && decide (S.1 14 e 0 = nI c)) 24 = cn (fun r => decide (T.1 14 r = nI c)) 24 := by
  obtain ⟨hMB, hCB, hcK, -⟩ := hb
  have hc : c < 4 := by have := hMB.1.1; omega
  have hcl := hM.2.2.2.2.2.2.1
  have hrec := hCB.2.2.2.1
  rw [h.2.1 13 (by omega) (by omega), h.2.1 14 (by omega) (by omega)]
  refine (cn_bij σ τ (fun r hr hp' => ?_) (fun e he hp' => ?_)).symm
  · have h14 : T.1 14 r = nI c := by simpa using hp'
    have hB := (hcl r hr).mp h14
    obtain ⟨b1, b2, b3, b4, -⟩ := hrec.1 r hr (by rw [hB]; exact nI_ne_m1 (by omega))
    exact ⟨b1, by simp [b3, b4, hB], b2⟩
  · simp only [Bool.and_eq_true, Bool.not_eq_true', decide_eq_false_iff_not, decide_eq_true_eq] at hp'
    obtain ⟨b1, b2, b3⟩ := hrec.2 e he hp'.1
    have := (hrec.1 (τ e) b1 b3).2.2.2.1
    rw [b2, hp'.2] at this
    exact ⟨b1, by simpa using (hcl _ b1).mpr this.symm, b2⟩
theorem JM_cls {K : Nat} {B T : MSt} {c m0 m : Nat} (h : JM K B T c m0 m) : ∀ r, r < 24 → T.1 14 r = -1 ∨ ∃ e, e < 4 ∧ T.1 14 r = nI e := fun r hr => by
  have hK4 : K ≤ 4 := h.1.1.1
  have := h.1.2.2.1 r hr
  rw [vS_o T c 14 (by omega) (by omega) (by omega)] at this
  rcases this with z | ⟨e, e1, e2, -⟩
  · exact Or.inl z
  · exact Or.inr ⟨e, by omega, e2⟩
theorem base_shT {K : Nat} {B T : MSt} {c m0 m d : Nat} (hMB : MI K B.1) (hM : JM K B T c m0 m) (hd : d < 4) : ∃ p, T.1 4 d = nI p ∧ Sh K p (r6 (T.1 5) d) (r6 (T.1 6) d) (r6 (T.1 7) d) (r6 (T.1 8) d) := by
  have f := (frT_of hM).1
  rw [f 4 (by omega), f 5 (by omega), f 6 (by omega), f 7 (by omega), f 8 (by omega)]
  exact hMB.2.1 d hd
theorem JB_shC {j K L q : Nat} {σ τ : Nat → Nat} {D S : CSt} {B T : MSt} {c m0 m : Nat} {rec : Int32} (hb : Base j K L q σ τ D B c m0) (hM : JM K B T c m0 m) (h : JB D S T m rec) : ∀ d p, d < 4 → p ≤ 6 → T.1 4 d = nI p → ShC (S.1 5) (S.1 6) (S.1 7) (S.1 8) (S.1 9) (2 * d) p (r6 (T.1 5) d) (r6 (T.1 6) d) (r6 (T.1 7) d) (r6 (T.1 8) d) := fun d p hd hp6 hp => by
  obtain ⟨hMB, hCB, -⟩ := hb
  have f := (frT_of hM).1
  have f2 := h.2.2.1
  rw [f 4 (by omega)] at hp
  rw [f 5 (by omega), f 6 (by omega), f 7 (by omega), f 8 (by omega)]
  unfold ShC
  rw [f2 5 _ (by omega) (by omega) (by omega), f2 6 _ (by omega) (by omega) (by omega), f2 7 _ (by omega) (by omega) (by omega), f2 8 _ (by omega) (by omega) (by omega), f2 9 _ (by omega) (by omega) (by omega)]
  exact hCB.2.1 d p hd hp6 hp
theorem step_split {n j K L q : Nat} {σ τ : Nat → Nat} {D : CSt} {B T : MSt} {c m0 m i : Nat} (hn : 24 < n) (hb : Base j K L q σ τ D B c m0) (hi : i < q) (hM : JM K B T c m0 m) (hk : B.1 23 (5 * i) = 5) {d s : Nat} (hd : d < K) (ed : B.1 23 (5 * i + 2) = nI d) (hs1 : 1 ≤ s) (hs : s ≤ 1023) (es : B.1 23 (5 * i + 3) = nI s) : StepT n j K B D σ c m0 i T m := by
  obtain ⟨hMB, hCB, hcK, hB4, hm0, hq6, hst, hsd⟩ := id hb
  have hK4 : K ≤ 4 := hMB.1.1
  have hc : c < 4 := by omega
  have hd4 : d < 4 := by omega
  obtain ⟨s22, s23, s24, s25, s26, -⟩ := hsd i hi
  obtain ⟨⟨x, hx, ex⟩, -⟩ := (hst i hi).1
  have fT := frT_of hM
  have e23 : T.1 23 = B.1 23 := fT.1 23 (by omega)
  have hSh := JM_sh hM hc
  obtain ⟨p, hp, hShd⟩ := base_shT hMB hM hd4
  obtain ⟨-, -, hm, h27, -⟩ := id hM
  have hact : m_X8_act n T (nI i) = (m_X8_splitField n T (nI x) (nI d) (nI s)).bind chk := by rw [p_act (by omega), e23, hk, if_neg (by decide), if_neg (by decide), if_neg (by decide), if_neg (by decide), if_neg (by decide), if_pos rfl, ex, ed, es]
  have hcan : ∀ S rec, JB D S T m rec → (m_X7_canDo n S i (nI c) rec = some (1, S) ∧ (CanS T c d p m s ∧ NameOk T m s x)) ∨ (m_X7_canDo n S i (nI c) rec = some (0, S) ∧ ¬ (CanS T c d p m s ∧ NameOk T m s x)) := fun S rec h => by
    have f := h.2.1
    rw [h.2.2.2]
    exact B_split hn hK4 hc hd4 h.1 hSh hShd (JB_shC hb hM h d p hd4 hShd.1 hp) (by rw [f 22 (by omega) (by omega), s22]; exact hk) (by rw [f 24 (by omega) (by omega), s24, ed]) (by rw [f 25 (by omega) (by omega), s25, es]) (by omega) hs1 (by rw [f 23 (by omega) (by omega), s23, ex]) hx (cnt_class hb hM h)
  have h5 : D.1 22 i 0 = 5 ∨ D.1 22 i 0 = 6 := Or.inl (by rw [s22]; exact hk)
  have hcl := JM_cls hM
  have rej : ∀ T', m_X8_splitField n T (nI x) (nI d) (nI s) = some (0, T') → FrT B T' → ¬ (CanS T c d p m s ∧ NameOk T m s x) → StepT n j K B D σ c m0 i T m := fun T' h1 h2 h3 => ⟨T', Or.inl ⟨by rw [hact, h1]; rfl, h2, fun S rec h => FrP_can (by
    rcases hcan S rec h with ⟨-, z⟩ | ⟨z, -⟩
    · exact absurd z h3
    · exact z)⟩⟩
  rcases p_canSplit (n := n) hn hK4 hc hd4 hp hShd hm hSh h27 (by omega : s < 1024) hcl with ⟨hy, hC⟩ | ⟨hy, hC⟩
  · obtain ⟨p1, p2⟩ := p_split (n := n) (x := x) hn hK4 hc hd4 hp hShd hm hSh h27 (by omega : s < 1024) hs1 hx hcl hC
    by_cases hN : NameOk T m s x
    · obtain ⟨T', ln, h1, hS⟩ := p1 hN
      refine ⟨T', Or.inr ⟨cn (kM T s) m + 1, by rw [hact, h1]; rfl, JM_split hM hc hd hp hShd (by omega) hx hC hN hS, fun S rec h => FrP_can ?_, fun S rec h => ?_, fun S L1 h hL1 hL30 => ⟨fun _ => ?_, fun h56 => absurd h5 h56⟩, fun _ => hS.2.2.2.2.2.2.2.2.2.2.1, fun h56 => absurd h5 h56⟩⟩
      · rcases hcan S rec h with ⟨z, -⟩ | ⟨-, z⟩
        · exact z
        · exact absurd ⟨hC, hN⟩ z
      · have f := h.2.1
        obtain ⟨g1, g2, g3, g4, g5, g6, g7, g8, g9, g10, g11, g12, g13⟩ := hS
        refine ⟨nI (cn (fun r => decide (T.1 14 r = nI c)) 24), ?_, ok_mono (R_split (n := n) (i := i) (d := d) (s := s) (S := S) (T := T) (T' := T') (X := nI x) (by omega) h.1 hSh (by rw [f 22 (by omega) (by omega), s22]; exact hk) (by rw [f 23 (by omega) (by omega), s23, ex]) (by rw [f 24 (by omega) (by omega), s24, ed]) (by rw [f 25 (by omega) (by omega), s25, es]) (by omega) g5 g6 g7 g8) (fun S' hS' => ?_)⟩
        · unfold m_X7_recordsMade
          rw [f 22 (by omega) (by omega), s22, hk, if_neg (fun h => h rfl), q_countOf hn, cnt_class hb hM h]
          rfl
        · obtain ⟨a1, a2, a3, a4⟩ := h
          refine ⟨hS'.1, fun g b1 b2 => by rw [hS'.2.1 g b2, a2 g b1 b2], fun g i b1 b2 b3 => by rw [hS'.2.2 g i b1 b2 b3, a3 g i b1 b2 b3], ?_⟩
          rw [a4, nI_add, g13]
      · have f := JC_row h
        exact C_split hn hM h hc hd hp hShd (by omega) (by rw [f 22 (by omega), s22]; exact hk) (by rw [f 23 (by omega), s23, ex]) (by rw [f 24 (by omega), s24, ed]) (by rw [f 25 (by omega), s25, es]) hC hS hL1 hL30
    · obtain ⟨T', h1, h2, h3, h4⟩ := p2 hN
      refine rej T' h1 ⟨fun g hg => ?_, fun r hr => ?_, fun l hl => ?_⟩ (fun z => hN z.2)
      · rw [h2 g (by omega)]; exact fT.1 g hg
      · rw [(h3 r hr).1, (h3 r hr).2]; exact fT.2.1 r hr
      · rw [h4 l hl]; exact fT.2.2 l hl
  · refine rej T ?_ fT (fun z => hC z.1)
    unfold m_X8_splitField
    rw [hy, Option.bind_some, if_neg (fun h => h rfl)]
theorem own_ne {K : Nat} {B T : MSt} {c m0 m k0 d : Nat} (h : JM K B T c m0 m) (hc : c < 4) (hk0 : k0 < m) (h2 : T.1 30 k0 = 2) (h31 : T.1 31 k0 = nI d) (hd : d < 4) : d ≠ c := fun e => by
  obtain ⟨hMI, hm6, hm, -⟩ := h
  obtain ⟨ρ, r1, r2, r3⟩ := hMI.2.2.2.2.2.1
  have := r3 c m k0 d hc hm6 ((if_pos rfl).trans hm) hk0 (by rw [vS_s _ _ 6 _ _ (by omega) (by omega) (by omega), if_pos rfl]; exact h2) hd (by rw [vS_s _ _ 7 _ _ (by omega) (by omega) (by omega), if_pos rfl]; exact h31)
  rw [e] at this
  omega
theorem step_join {n j K L q : Nat} {σ τ : Nat → Nat} {D : CSt} {B T : MSt} {c m0 m i : Nat} (hn : 24 < n) (hb : Base j K L q σ τ D B c m0) (hi : i < q) (hM : JM K B T c m0 m) (hk : B.1 23 (5 * i) = 6) : StepT n j K B D σ c m0 i T m := by
  obtain ⟨hMB, hCB, hcK, hB4, hm0, hq6, hst, hsd⟩ := id hb
  have hK4 : K ≤ 4 := hMB.1.1
  have hc : c < 4 := by omega
  obtain ⟨s22, s23, s24, s25, s26, -⟩ := hsd i hi
  obtain ⟨⟨x, hx, ex⟩, -⟩ := (hst i hi).1
  have fT := frT_of hM
  have e23 : T.1 23 = B.1 23 := fT.1 23 (by omega)
  have hSh := JM_sh hM hc
  obtain ⟨-, hm6, hm, h27, -⟩ := id hM
  have hcl := hM.2.2.2.2.2.2.1
  have hact : m_X8_act n T (nI i) = (m_X8_joinField n T (nI x)).bind chk := by rw [p_act (by omega), e23, hk, if_neg (by decide), if_neg (by decide), if_neg (by decide), if_neg (by decide), if_neg (by decide), if_neg (by decide), ex]
  have hcan : ∀ S rec, JB D S T m rec → (m_X7_canDo n S i (nI c) rec = some (1, S) ∧ JoinOk T c m (nI x)) ∨ (m_X7_canDo n S i (nI c) rec = some (0, S) ∧ ¬ JoinOk T c m (nI x)) := fun S rec h => by
    have f := h.2.1
    have := B_join (n := n) (i := i) (S := S) (T := T) (rec := rec) hn hMB hCB hB4 hm0 hM hc h.1 (JB_shC hb hM h) (fun g hg => f g (by omega) (by omega)) (by rw [f 22 (by omega) (by omega), s22]; exact hk)
    rw [f 23 (by omega) (by omega), s23, ex] at this
    exact this
  have h6 : D.1 22 i 0 = 5 ∨ D.1 22 i 0 = 6 := Or.inr (by rw [s22]; exact hk)
  have rej : ∀ T', m_X8_joinField n T (nI x) = some (0, T') → FrT B T' → ¬ JoinOk T c m (nI x) → StepT n j K B D σ c m0 i T m := fun T' h1 h2 h3 => ⟨T', Or.inl ⟨by rw [hact, h1]; rfl, h2, fun S rec h => FrP_can (by
    rcases hcan S rec h with ⟨-, z⟩ | ⟨z, -⟩
    · exact absurd z h3
    · exact z)⟩⟩
  rcases plc_nn (f := T.1 29) (x := nI x) hm6 with ⟨h1, h2⟩ | ⟨k0, hk0, h1, h2, h3, h4⟩
  · refine rej T ?_ fT (fun ⟨k, d, p, k1, k2, _⟩ => h2 k k1 k2)
    unfold m_X8_joinField
    rw [p_findDraft (by omega) hm6 hm, h1, Option.bind_some, if_pos m1_lt]
  · have huniq : ∀ {k}, k < m → T.1 29 k = nI x → k = k0 := fun {k} hk e => hSh.2.1 k hk k0 hk0 (e.trans h2.symm)
    by_cases h30 : T.1 30 k0 = 2
    · obtain ⟨d, hdK, e31⟩ : ∃ d, d < K ∧ T.1 31 k0 = nI d := by
        rcases (hSh.2.2 k0 hk0).2 with z | ⟨-, d, z1, z2, -⟩
        · exact absurd (h30.symm.trans z.1) (by decide)
        · exact ⟨d, z1, z2⟩
      have hd4 : d < 4 := by omega
      have hcd := own_ne hM hc hk0 h30 e31 hd4
      obtain ⟨p, hp, hShd⟩ := base_shT hMB hM hd4
      have hpt : ∀ r, r < 24 → T.1 14 r = nI c → (r6 (T.1 34) r k0).toNatClampNeg < 24 ∧ r6 (T.1 34) r k0 = nI (r6 (T.1 34) r k0).toNatClampNeg ∧ T.1 14 (r6 (T.1 34) r k0).toNatClampNeg = nI d := fun r hr h14 => by
        obtain ⟨y, y1, y2, y3⟩ := (JM_val hM hc hr ((hcl r hr).mp h14) hk0).2 h30
        rw [y2, nI_clamp (by omega)]
        exact ⟨y1, rfl, y3.trans e31⟩
      obtain ⟨p1, p2⟩ := p_join (n := n) (a := nI x) (pt := fun r => (r6 (T.1 34) r k0).toNatClampNeg) hn hc hd4 hcd hp hShd hm hSh h27 hk0 h2 h30 e31 hpt
      have back : JoinOk T c m (nI x) → CanJ T c d p m k0 := fun ⟨k, d', p', k1, k2, k3, k4, k5, k6, k7, k8⟩ => by
        have ek := huniq k1 k2
        subst ek
        have ed := nI_inj4 k4 hd4 (k5.symm.trans e31)
        subst ed
        have ep : p' = p := (nI_eq (by omega) (by have := hShd.1; omega)).mp (k7.symm.trans hp)
        subst ep
        exact k8
      by_cases hC : CanJ T c d p m k0
      · have hJ : JoinOk T c m (nI x) := ⟨k0, d, p, hk0, h2, h30, hd4, e31, hShd.1, hp, hC⟩
        obtain ⟨T', t1, hJM⟩ := p1 hC
        refine ⟨T', Or.inr ⟨m - 1 + p, by rw [hact, t1]; rfl, JM_join hM hc hdK hp hShd hk0 h30 e31 hpt hC hJM, fun S rec h => FrP_can ?_, fun S rec h => ?_, fun S L1 h hL1 hL30 => ⟨fun _ => ?_, fun h56 => absurd h6 h56⟩, fun _ => hJM.2.2.2.2.2.2.2.2.1, fun h56 => absurd h6 h56⟩⟩
        · rcases hcan S rec h with ⟨z, -⟩ | ⟨-, z⟩
          · exact z
          · exact absurd hJ z
        · have f := h.2.1
          obtain ⟨g1, g2, g3, g4, g5, g6, g7, g8, g9, g10⟩ := hJM
          refine ⟨-nI (cn (fun r => decide (T.1 14 r = nI c)) 24), ?_, ok_mono (R_join (n := n) (i := i) (d := d) (p := p) (k0 := k0) (x := x) (S := S) (T := T) (T' := T') (by omega) h.1 hSh hd4 (by rw [f 22 (by omega) (by omega), s22]; exact hk) (by rw [f 23 (by omega) (by omega), s23, ex]) hx hk0 h2 h30 e31 (JB_shC hb hM h d p hd4 hShd.1 hp) hC.2.1 hC.2.2.2.1 g4 g5 g6) (fun S' hS' => ?_)⟩
          · unfold m_X7_recordsMade
            rw [f 22 (by omega) (by omega), s22, hk, if_pos (show ¬ (6 : Int32) = 5 by decide), if_neg (fun h => h rfl), q_countOf hn, cnt_class hb hM h]
            rfl
          · obtain ⟨a1, a2, a3, a4⟩ := h
            refine ⟨hS'.1, fun g b1 b2 => by rw [hS'.2.1 g b2, a2 g b1 b2], fun g i b1 b2 b3 => by rw [hS'.2.2 g i b1 b2 b3, a3 g i b1 b2 b3], ?_⟩
            -- counting
            have pinj : ∀ r, (r < 24 ∧ T.1 14 r = nI c) → ∀ r', (r' < 24 ∧ T.1 14 r' = nI c) → (r6 (T.1 34) r k0).toNatClampNeg = (r6 (T.1 34) r' k0).toNatClampNeg → r = r' := fun r hr r' hr' e => by
              have e4 : (vS T c).1 4 c = nI m := (if_pos rfl).trans hm
              have v14 : (vS T c).1 14 = T.1 14 := vS_o T c 14 (by omega) (by omega) (by omega)
              have := (join_own hM.1 hc e4 hm6 hk0 (d := d) (pt := fun r => (r6 (T.1 34) r k0).toNatClampNeg) (by rw [vS_s _ _ 6 _ _ (by omega) (by omega) (by omega), if_pos rfl]; exact h30) (by rw [vS_s _ _ 7 _ _ (by omega) (by omega) (by omega), if_pos rfl]; exact e31) hd4 (fun r hr h14 => by
                rw [v14] at h14
                rw [vS_16 _ _ _ _ (by omega), if_pos h14]
                exact ⟨(hpt r hr h14).1, (hpt r hr h14).2.1⟩)).2.2
              rw [v14] at this
              exact this r hr.1 hr.2 r' hr'.1 hr'.2 e
            obtain ⟨gg, q1, q2⟩ := fn_extP (P := fun r => r < 24 ∧ T.1 14 r = nI c) (f := fun r => (r6 (T.1 34) r k0).toNatClampNeg) (t := fun r => r) (fun x => x) pinj
            have hz : cn (fun y => !decide (T.1 14 y = -1) && decide (T'.1 14 y = -1)) 24 = cn (fun r => decide (T.1 14 r = nI c)) 24 := by
              refine (cn_bij (fun r => (r6 (T.1 34) r k0).toNatClampNeg) gg (fun r hr hp' => ?_) (fun y hy hp' => ?_)).symm
              · have h14 : T.1 14 r = nI c := by simpa using hp'
                obtain ⟨b1, b2, b3⟩ := hpt r hr h14
                have := g2 r hr h14
                refine ⟨b1, ?_, q1 r ⟨hr, h14⟩⟩
                dsimp only at this ⊢
                rw [this, b3]
                simp [nI_ne_m1 (show d < 2 ^ 31 by omega)]
              · simp only [Bool.and_eq_true, Bool.not_eq_true', decide_eq_false_iff_not, decide_eq_true_eq] at hp'
                have hex : ∃ r, r < 24 ∧ T.1 14 r = nI c ∧ y = (r6 (T.1 34) r k0).toNatClampNeg := by
                  by_cases hx : ∃ r, r < 24 ∧ T.1 14 r = nI c ∧ y = (r6 (T.1 34) r k0).toNatClampNeg
                  · exact hx
                  · exfalso
                    have := g3 y (fun r r1 r2 r3 => hx ⟨r, r1, r2, r3⟩)
                    rw [hp'.2] at this
                    exact hp'.1 this.symm
                obtain ⟨r, r1, r2, r3⟩ := hex
                have := q1 r ⟨r1, r2⟩
                rw [← r3] at this
                rw [this]
                exact ⟨r1, by simpa using r2, r3.symm⟩
            have hadd := cn_add (p := fun y => !decide (T.1 14 y = -1)) (q := fun y => !decide (T'.1 14 y = -1)) (z := fun y => !decide (T.1 14 y = -1) && decide (T'.1 14 y = -1)) (m := 24) (fun y hy => by
              have key : T'.1 14 y ≠ -1 → T'.1 14 y = T.1 14 y := fun hne => g3 y (fun r r1 r2 r3 => hne (by
                have := g2 r r1 r2
                rw [r3]
                exact this))
              by_cases hd1 : T'.1 14 y = -1
              · simp [hd1]
              · have := key hd1
                have h2' : T.1 14 y ≠ -1 := by rw [← this]; exact hd1
                simp [hd1, h2'])
            rw [a4, hadd, hz, ← nI_add, Int32.add_assoc, Int32.add_right_neg, Int32.add_zero]
        · have f := JC_row h
          have hcj := C_join (pt := fun r => (r6 (T.1 34) r k0).toNatClampNeg) hn hM h hc hdK hp hShd.1 (by rw [f 22 (by omega), s22]; exact hk) (by rw [f 23 (by omega), s23, ex]) hx hk0 h2 h30 e31 hpt hC hJM
          exact ok_mono hcj (fun S0 h0 => ok_mono h0 (fun S1 h1 => ok_mono h1 (fun S' h2 => JC_mono h2 (by omega))))
      · obtain ⟨T', t1, t2⟩ := p2 hC
        refine rej T' t1 ⟨fun g hg => ?_, fun r hr => ?_, fun l hl => ?_⟩ (fun z => hC (back z))
        · rw [t2 g (by omega)]; exact fT.1 g hg
        · rw [t2 14 (by omega), t2 15 (by omega)]; exact fT.2.1 r hr
        · rw [t2 16 (by omega)]; exact fT.2.2 l hl
    · refine rej T ?_ fT (fun ⟨k, d, p, k1, k2, k3, _⟩ => h30 (by rw [← huniq k1 k2]; exact k3))
      unfold m_X8_joinField
      rw [p_findDraft (by omega) hm6 hm, h1, Option.bind_some, if_neg (nI_pos (by omega)), inB_nI (by omega) (by omega), cond_true, nI_clamp (by omega), if_pos h30]
theorem step_all {n j K L q : Nat} {σ τ : Nat → Nat} {D : CSt} {B T : MSt} {c m0 m i : Nat} (hn : 24 < n) (hb : Base j K L q σ τ D B c m0) (hi : i < q) (hM : JM K B T c m0 m) : StepT n j K B D σ c m0 i T m := by
  obtain ⟨hMB, hCB, hcK, hB4, hm0, hq6, hst, hsd⟩ := id hb
  rcases (hst i hi).1.2 with h | h | ⟨h, y, y1, y2⟩ | ⟨h | h, hbd⟩ | ⟨h, y, y1, y2⟩ | ⟨h, ⟨y, y1, y2⟩, s, s1, s2, s3⟩
  · exact step_drop hn hb hi hM h
  · exact step_join hn hb hi hM h
  · exact step_name hn hb hi hM h y1 y2
  · exact step_number hn hb hi hM h hbd
  · exact step_range hn hb hi hM h hbd
  · exact step_ref hn hb hi hM h y1 y2
  · exact step_split hn hb hi hM h y1 y2 s1 s2 s3
