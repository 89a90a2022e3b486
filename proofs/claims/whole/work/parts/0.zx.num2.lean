theorem JC_rec {j K : Nat} {B T : MSt} {D S : CSt} {σ : Nat → Nat} {c m0 m L1 : Nat} (hM : JM K B T c m0 m) (h : JC j K B D σ c m0 S T m L1) (hc : c < 4) {e : Nat} (he : e < 24) (hC : isC S e c) : ∃ r, r < 24 ∧ B.1 14 r = nI c ∧ σ r = e := by
  obtain ⟨σ', τ', L', hL, hCR, hDE, hσ, -⟩ := h
  obtain ⟨hMI, hm6, hm, h27, h26, hfr, hcl, -⟩ := id hM
  obtain ⟨r1, r2⟩ := hCR.2.2.2.1
  have e13 : (uS S c).1 13 = S.1 13 := uS_o S c 13 (by omega)
  have e14 : (uS S c).1 14 = S.1 14 := uS_o S c 14 (by omega)
  have v14 : (vS T c).1 14 = T.1 14 := vS_o T c 14 (by omega) (by omega) (by omega)
  rw [e13, v14] at r2
  rw [e13, e14, v14] at r1
  obtain ⟨t1, t2, t3⟩ := r2 e he hC.1
  obtain ⟨-, -, -, s14, -⟩ := r1 (τ' e) t1 t3
  rw [t2, hC.2] at s14
  have hb := (hcl (τ' e) t1).mp s14.symm
  exact ⟨τ' e, t1, hb, by rw [← hσ (τ' e) t1 hb, t2]⟩
theorem JC_inj {j K : Nat} {B T : MSt} {D S : CSt} {σ : Nat → Nat} {c m0 m L1 : Nat} (hM : JM K B T c m0 m) (h : JC j K B D σ c m0 S T m L1) (hc : c < 4) {r r' : Nat} (hr : r < 24) (h14 : B.1 14 r = nI c) (hr' : r' < 24) (h14' : B.1 14 r' = nI c) (e : σ r = σ r') : r = r' := by
  obtain ⟨σ', τ', L', hL, hCR, hDE, hσ, -⟩ := h
  obtain ⟨hMI, hm6, hm, h27, h26, hfr, hcl, -⟩ := id hM
  obtain ⟨r1, -⟩ := hCR.2.2.2.1
  have v14 : (vS T c).1 14 = T.1 14 := vS_o T c 14 (by omega) (by omega) (by omega)
  rw [v14] at r1
  have k1 := (r1 r hr (by rw [(hcl r hr).mpr h14]; exact nI_ne_m1 (by omega))).2.1
  have k2 := (r1 r' hr' (by rw [(hcl r' hr').mpr h14']; exact nI_ne_m1 (by omega))).2.1
  rw [hσ r hr h14] at k1
  rw [hσ r' hr' h14'] at k2
  rw [← k1, ← k2, e]
theorem B_number {n i m K c m0 len : Nat} {S : CSt} {T B : MSt} {rec : Int32} {f : Nat → Int32} (hn : 12 < n) (h : DE S T m) (hSh : Sh K m (T.1 29) (T.1 30) (T.1 31) (T.1 32)) (hc : c < 4) (h22 : S.1 22 i 0 = 2) (hShB : Sh K m0 (r6 (B.1 5) c) (r6 (B.1 6) c) (r6 (B.1 7) c) (r6 (B.1 8) c)) (hS : ShC (S.1 5) (S.1 6) (S.1 7) (S.1 8) (S.1 9) (2 * c) m0 (r6 (B.1 5) c) (r6 (B.1 6) c) (r6 (B.1 7) c) (r6 (B.1 8) c)) (hl : len ≤ 12) (h20 : S.1 20 i 0 = nI len) (hf : ∀ k, k < len → S.1 21 i k = f k) (hW : ∀ k, k < len → isW (f k)) (hr : rgt f len = some 1) : Ok (m_X7_canDo n S i (nI c) rec) (fun o => FrP S o.2 ∧ ((o.1 = 1 ∧ (Fits B c m0 f len (S.1 24 i 0) (S.1 25 i 0) ∧ (∀ k, k < m → T.1 29 k ≠ S.1 23 i 0) ∧ m < 6)) ∨ (o.1 = 0 ∧ ¬ (Fits B c m0 f len (S.1 24 i 0) (S.1 25 i 0) ∧ (∀ k, k < m → T.1 29 k ≠ S.1 23 i 0) ∧ m < 6)))) := by
  unfold m_X7_canDo
  have hm6 := h.1
  rw [q_place8 (by omega) h hSh, Option.bind_some, h22, if_neg (by decide), if_neg (by decide), if_pos rfl]
  rcases plc_nn (f := T.1 29) (x := S.1 23 i 0) h.1 with ⟨h1, h2⟩ | ⟨k0, hk0, h1, h2, h3, h4⟩
  · rw [h1, if_neg (fun h => h rfl), h.2.1]
    by_cases h6 : m < 6
    · rw [if_neg (show ¬ 6 ≤ nI m from nI_ge h6 (by decide)), Ok_bif, nI_clamp (by omega)]
      refine ⟨inB_nI hc (by omega), ok_seq (q_fits hn hShB hS hl h20 hf hW hr) (fun o ho => ?_)⟩
      obtain ⟨hF, ho⟩ := ho
      rcases ho with ⟨e, hfit⟩ | ⟨e, hno⟩
      · rw [e, if_neg one_ne, Ok_some]
        exact ⟨hF, Or.inl ⟨rfl, hfit, h2, h6⟩⟩
      · rw [e, if_pos rfl, Ok_some]
        exact ⟨hF, Or.inr ⟨rfl, fun q => hno q.1⟩⟩
    · have e : m = 6 := by omega
      subst e
      rw [if_pos (show (6 : Int32) ≤ nI 6 by decide), Ok_some]
      exact ⟨FrP_refl S, Or.inr ⟨rfl, fun q => h6 q.2.2⟩⟩
  · rw [if_pos h3, Ok_some]
    exact ⟨FrP_refl S, Or.inr ⟨rfl, fun q => q.2.1 k0 hk0 h2⟩⟩
theorem R_number {n i m K : Nat} {S : CSt} {T T' : MSt} (hn : 6 < n) (h : DE S T m) (hSh : Sh K m (T.1 29) (T.1 30) (T.1 31) (T.1 32)) (hm : m < 6) (h22 : S.1 22 i 0 = 2) (e28 : T'.1 28 0 = nI (m + 1)) (e29 : ∀ k, T'.1 29 k = if k = m then S.1 23 i 0 else T.1 29 k) (e30 : ∀ k, T'.1 30 k = if k = m then 0 else T.1 30 k) (e31 : ∀ k, T'.1 31 k = if k = m then S.1 24 i 0 else T.1 31 k) (e32 : ∀ k, T'.1 32 k = if k = m then S.1 25 i 0 else T.1 32 k) (e33 : ∀ k, T'.1 33 k = if k = m then -1 else T.1 33 k) : Ok (m_X7_reshape n S i) (fun S' => DE S' T' (m + 1) ∧ FrD S S') := by
  unfold m_X7_reshape
  rw [q_place8 hn h hSh, Ok_bind, Ok_some, h22, if_neg (by decide), if_neg (by decide), if_pos rfl, q_append hm h.2.1, Ok_bind, Ok_some, Ok_some]
  exact DE_app h hm e28 e29 e30 e31 e32 e33
theorem C_number {n i j K len : Nat} {B T T' : MSt} {D S : CSt} {σ : Nat → Nat} {c m0 m L1 : Nat} {f val : Nat → Int32} (hn : 24 < n) (hB : MI K B.1) (hB4 : B.1 4 c = nI m0) (hm0 : m0 ≤ 6) (hD : ∀ r k, r < 24 → B.1 14 r = nI c → k < m0 → r6 (B.1 6) c k = 0 → D.1 17 (σ r) k = r6 (B.1 16) r k) (hM : JM K B T c m0 m) (h : JC j K B D σ c m0 S T m L1) (hc : c < 4) (hm : m < 6) (h22 : S.1 22 i 0 = 2) (hbd : S.1 24 i 0 ≤ S.1 25 i 0 ∧ (-1000000) ≤ S.1 24 i 0 ∧ S.1 25 i 0 ≤ 1000000) (hl : len ≤ 12) (h20 : S.1 20 i 0 = nI len) (hf : ∀ k, k < len → S.1 21 i k = f k) (hW : ∀ k, k < len → isW (f k)) (hr : rgt f len = some 1) (hval : ValsOf B c m0 f len (S.1 24 i 0) (S.1 25 i 0) val) (fr : ∀ g, g < 28 ∨ (34 < g ∧ g < 40) → T'.1 g = T.1 g) (e28 : T'.1 28 0 = nI (m + 1)) (e29 : ∀ k, T'.1 29 k = if k = m then S.1 23 i 0 else T.1 29 k) (e30 : ∀ k, T'.1 30 k = if k = m then 0 else T.1 30 k) (e31 : ∀ k, T'.1 31 k = if k = m then S.1 24 i 0 else T.1 31 k) (e32 : ∀ k, T'.1 32 k = if k = m then S.1 25 i 0 else T.1 32 k) (e33 : ∀ k, T'.1 33 k = if k = m then -1 else T.1 33 k) (e34 : ∀ r k, r < 24 → k < 6 → r6 (T'.1 34) r k = if k = m ∧ T.1 14 r = nI c then val r else r6 (T.1 34) r k) : Ok (m_X7_moveAll n S i (nI c)) (fun S1 => Ok (m_X7_reshape n S1 i) (fun S' => JC j K B D σ c m0 S' T' (m + 1) L1)) := by
  have hSh := JM_sh hM hc
  have hShB := base_sh hB hc hm0 hB4
  have hcl := hM.2.2.2.2.2.2.1
  have hDE : DE S T m := h.choose_spec.choose_spec.choose_spec.2.2.1
  obtain ⟨hbf, hsb, hst⟩ := h.choose_spec.choose_spec.choose_spec.2.2.2.2
  obtain ⟨_, r2, r3⟩ := hbd
  simp only [Int32.le_iff_toInt_le, Int32.reduceToInt] at r2 r3
  refine ok_mono (q_moveAll (P := fun e row => ∃ r, r < 24 ∧ B.1 14 r = nI c ∧ σ r = e ∧ ∀ k, row k = if k = m then val r else S.1 17 e k) hn (fun S' e he hC hF h17 => ?_)) (fun S1 hS1 => ?_)
  · obtain ⟨r, hr24, h14, hσe⟩ := JC_rec hM h hc he hC
    obtain ⟨⟨v1, v2⟩, v, hv, ev⟩ := hval r hr24 h14
    simp only [Int32.le_iff_toInt_le, Int32.reduceToInt] at v1 v2
    unfold m_X7_move
    have hDE' := DE_frV hDE hF
    have g : ∀ q, q ≠ 17 → q ≠ 27 → S'.1 q = S.1 q := hF
    rw [q_place8 (by omega) hDE' hSh, Ok_bind, Ok_some, g 22 (by omega) (by omega), h22, if_neg (by decide), if_neg (by decide), if_pos rfl]
    refine q_value (n := n) (S := S') (i := i) (e := e) (c := c) (K := K) (va := r6 (B.1 16) r) (f := f) (v := v) (by omega) hc (by rw [g 14 (by omega) (by omega)]; exact hC.2) hShB (by rw [g 5 (by omega) (by omega), g 6 (by omega) (by omega), g 7 (by omega) (by omega), g 8 (by omega) (by omega), g 9 (by omega) (by omega)]; exact hsb) hl (by rw [g 20 (by omega) (by omega)]; exact h20) (by rw [g 21 (by omega) (by omega)]; exact hf) hW hr (fun k hk h0 => ?_) hv (by omega) (by omega) (G := fun S2 x => (m_X0_put n S2 e (S2.1 5 8 0) x).bind (fun z74 => some z74)) (fun o2 o1 oF ov => ?_)
    · rw [g 18 (by omega) (by omega), ← hσe, hbf r k hr24 h14 (by omega), hD r k hr24 h14 hk h0]
      exact ⟨rfl, base_nf hB hc hm0 hB4 hr24 h14 hk h0⟩
    · have ov' : o1 = val r := Int32.toInt_inj.mp (ov.trans ev.symm)
      rw [oF 5 (by omega), hDE'.2.1, q_put hm, Ok_bind, Ok_some, Ok_some, ov']
      refine ⟨fun q q1 q2 => ?_, fun e' he' => ?_, r, hr24, h14, hσe, fun k => ?_⟩
      · have : (sI o2 17 e m (val r)).1 q = o2.1 q := by
          funext j l
          rw [sI_at, if_neg (fun h => q1 h.1)]
        rw [this, oF q q2]
        exact hF q q1 q2
      · rw [sI_ne _ _ _ _ _ he', oF 17 (by omega)]
      · rw [sI_at]
        by_cases e1 : k = m
        · rw [if_pos ⟨rfl, rfl, e1⟩, if_pos e1]
        · rw [if_neg (fun h => e1 h.2.2), if_neg e1, oF 17 (by omega), h17]
  · obtain ⟨hF, hP, h17⟩ := hS1
    have hDE' := DE_frV hDE hF
    have g23 := hF 23 (by omega) (by omega)
    have g24 := hF 24 (by omega) (by omega)
    have g25 := hF 25 (by omega) (by omega)
    refine ok_mono (R_number (T' := T') (by omega) hDE' hSh hm (by rw [hF 22 (by omega) (by omega)]; exact h22) e28 (by rw [g23]; exact e29) e30 (by rw [g24]; exact e31) (by rw [g25]; exact e32) e33) (fun S' hS' => ?_)
    obtain ⟨hd', hfr'⟩ := hS'
    refine JC_reshape hM h hc fr hd' (fun g hg g1 g2 => by rw [hfr'.1 g hg]; exact hF g g1 g2) (fun g i hg1 hg2 hi => by rw [hfr'.2 g i hg1 hg2 hi, hF g (by omega) (by omega)]) (fun e he => by rw [hfr'.1 17 (by omega)]; exact h17 e he) (fun r k hr h14 hk hnum f hf0 hf => ?_)
    obtain ⟨q1, q2⟩ := JC_isC hM h hc hr h14
    obtain ⟨r', hr', h14', hσ', hrow⟩ := hP (σ r) q1 q2
    have er := JC_inj hM h hc hr' h14' hr h14 hσ'
    subst er
    rw [hfr'.1 17 (by omega), hrow k, e30 k, e34 r' k hr (by omega)]
    by_cases e1 : k = m
    · rw [if_pos e1, if_pos e1, if_pos rfl, if_pos (show k = m ∧ T.1 14 r' = nI c from ⟨e1, (hcl r' hr).mpr h14⟩)]
    · rw [if_neg e1, if_neg e1, if_neg (show ¬ (k = m ∧ T.1 14 r' = nI c) from fun h => e1 h.1)]
      by_cases e0 : T.1 30 k = 0
      · rw [if_pos e0]
        have := hnum k (by omega)
        rw [if_pos e0] at this
        exact this
      · rw [if_neg e0]
        exact hf k (by omega) e0
