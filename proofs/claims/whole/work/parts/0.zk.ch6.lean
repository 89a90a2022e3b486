/-! ===== change: the class, checking and carrying out ===== -/
def uS (S : CSt) (c : Nat) : CSt := (fun g => cond (Nat.beq g 4) (fun d l => if d = c ∧ l = 0 then 0 else S.1 4 d l) (cond (Nat.ble 5 g && Nat.ble g 10) (fun i => if i = 2 * c then S.1 g 8 else S.1 g i) (S.1 g)), S.2)
theorem uS_o (S : CSt) (c g : Nat) (h : g < 4 ∨ 10 < g) : (uS S c).1 g = S.1 g := by
  unfold uS
  show (cond (Nat.beq g 4) (fun d l => if d = c ∧ l = 0 then 0 else S.1 4 d l) (cond (Nat.ble 5 g && Nat.ble g 10) (fun i => if i = 2 * c then S.1 g 8 else S.1 g i) (S.1 g))) = _
  rw [beq_f (by omega), show (Nat.ble 5 g && Nat.ble g 10) = false by
    cases h2 : (Nat.ble 5 g && Nat.ble g 10)
    · rfl
    · exfalso
      simp only [Bool.and_eq_true, Nat.ble_eq] at h2
      omega]
  rfl
theorem uS_s (S : CSt) (c g i : Nat) (h1 : 5 ≤ g) (h2 : g ≤ 10) : (uS S c).1 g i = if i = 2 * c then S.1 g 8 else S.1 g i := by
  unfold uS
  show (cond (Nat.beq g 4) (fun d l => if d = c ∧ l = 0 then 0 else S.1 4 d l) (cond (Nat.ble 5 g && Nat.ble g 10) (fun i => if i = 2 * c then S.1 g 8 else S.1 g i) (S.1 g))) i = _
  rw [beq_f (by omega), show (Nat.ble 5 g && Nat.ble g 10) = true by simp [h1, h2]]
  rfl
/-- only the draft is written -/
def FrD (S S' : CSt) : Prop := (∀ g, g < 5 ∨ 10 < g → S'.1 g = S.1 g) ∧ ∀ g j, 5 ≤ g → g ≤ 10 → j ≠ 8 → S'.1 g j = S.1 g j
/-- only values (and the pile) are written -/
def FrV (S S' : CSt) : Prop := ∀ g, g ≠ 17 → g ≠ 27 → S'.1 g = S.1 g
theorem FrV_refl (S : CSt) : FrV S S := fun _ _ _ => rfl
def isC (S : CSt) (e c : Nat) : Prop := S.1 13 e 0 ≠ 0 ∧ S.1 14 e 0 = nI c
theorem q_moveAll {n : Nat} {S : CSt} {i c : Nat} {P : Nat → (Nat → Int32) → Prop} (hn : 24 < n) (hmv : ∀ S' e, e < 24 → isC S e c → FrV S S' → S'.1 17 e = S.1 17 e → Ok (m_X7_move n S' i e) (fun S'' => FrV S S'' ∧ (∀ e', e' ≠ e → S''.1 17 e' = S'.1 17 e') ∧ P e (S''.1 17 e))) : Ok (m_X7_moveAll n S i (nI c)) (fun S'' => FrV S S'' ∧ (∀ e, e < 24 → isC S e c → P e (S''.1 17 e)) ∧ ∀ e, ¬ (e < 24 ∧ isC S e c) → S''.1 17 e = S.1 17 e) := by
  unfold m_X7_moveAll
  refine ok_seq (P := fun S'' => FrV S S'' ∧ (∀ e, e < 24 → isC S e c → P e (S''.1 17 e)) ∧ ∀ e, ¬ (e < 24 ∧ isC S e c) → S''.1 17 e = S.1 17 e) ?_ (fun w hw => Ok_some.mpr hw)
  refine ok_for2 (N := 24) hn (I := fun k S' => FrV S S' ∧ (∀ e, e < k → isC S e c → P e (S'.1 17 e)) ∧ ∀ e, ¬ (e < k ∧ isC S e c) → S'.1 17 e = S.1 17 e) (fun k S' hk hI => ?_) ⟨FrV_refl S, fun e he => absurd he (Nat.not_lt_zero _), fun _ _ => rfl⟩
  obtain ⟨h1, h2, h3⟩ := hI
  unfold b_X7_moveAll_2
  dsimp only
  rw [Ok_ite]
  refine ⟨fun h => ?_, fun h => ?_⟩
  · have e : k = 24 := ge_eq (by decide) hk h
    rw [Ok_some]
    subst e
    exact ⟨h1, h2, h3⟩
  · have hk2 : k < 24 := nge_lt (by decide) hk h
    rw [Ok_bif, nI_clamp (by omega), q_isOf, Ok_bind, Ok_some, h1 13 (by omega) (by omega), h1 14 (by omega) (by omega), Ok_ite]
    refine ⟨inB_nI hk2 (by omega), fun h4 => ?_, fun h4 => ?_⟩
    · have hno : ¬ isC S k c := fun h5 => by
        rw [if_pos (by simp [h5.1, h5.2])] at h4
        exact one_ne h4
      rw [Ok_nm, Ok_some]
      refine ⟨hk2, nI_1 k, h1, fun e he hc => ?_, fun e he => h3 e (fun h5 => he ⟨by omega, h5.2⟩)⟩
      rcases Nat.lt_succ_iff_lt_or_eq.mp he with h5 | h5
      · exact h2 e h5 hc
      · rw [h5] at hc; exact absurd hc hno
    · have hyes : isC S k c := by
        have h5 := Decidable.byContradiction (fun h3 => h4 (if_neg h3))
        simp only [Bool.and_eq_true, Bool.not_eq_true', decide_eq_false_iff_not, decide_eq_true_eq] at h5
        exact h5
      refine ok_seq (hmv S' k hk2 hyes h1 (h3 k (fun h5 => absurd h5.1 (Nat.lt_irrefl _)))) (fun S'' hS => ?_)
      obtain ⟨g1, g2, g3⟩ := hS
      rw [Ok_nm, Ok_some]
      refine ⟨hk2, nI_1 k, g1, fun e he hc => ?_, fun e he => ?_⟩
      · by_cases e1 : e = k
        · rw [e1]; exact g3
        · show P e (S''.1 17 e)
          rw [g2 e e1]
          exact h2 e (by omega) hc
      · have e1 : e ≠ k := fun e1 => he ⟨by omega, by rw [e1]; exact hyes⟩
        show S''.1 17 e = _
        rw [g2 e e1]
        exact h3 e (fun h5 => he ⟨by omega, h5.2⟩)
/-- the class in the midst of carrying out: its base D, of which σ tells the entries; at most L1 ids so far -/
def JC (j K : Nat) (B : MSt) (D : CSt) (σ : Nat → Nat) (c m0 : Nat) (S : CSt) (T : MSt) (m L1 : Nat) : Prop := ∃ (σ' τ' : Nat → Nat) (L' : Nat), L' ≤ L1 ∧ CR j K L' σ' τ' (uS S c).1 (vS T c).1 ∧ DE S T m ∧ (∀ r, r < 24 → B.1 14 r = nI c → σ' r = σ r) ∧ (∀ r k, r < 24 → B.1 14 r = nI c → k < 6 → S.1 18 (σ r) k = D.1 17 (σ r) k) ∧ ShC (S.1 5) (S.1 6) (S.1 7) (S.1 8) (S.1 9) (2 * c + 1) m0 (r6 (B.1 5) c) (r6 (B.1 6) c) (r6 (B.1 7) c) (r6 (B.1 8) c) ∧ (∀ g, g = 1 ∨ (20 ≤ g ∧ g ≤ 26) → S.1 g = D.1 g) ∧ (T.1 35 0 = 0 → (∀ r, σ' r = σ r) ∧ S.1 13 = D.1 13)
theorem JC_reshape {j K : Nat} {B T T' : MSt} {D S S' : CSt} {σ : Nat → Nat} {c m0 m m' L1 : Nat} (hM : JM K B T c m0 m) (h : JC j K B D σ c m0 S T m L1) (hc : c < 4) (fr : ∀ g, g < 28 ∨ (34 < g ∧ g < 40) → T'.1 g = T.1 g) (hde : DE S' T' m') (fs : ∀ g, g < 5 ∨ 10 < g → g ≠ 17 → g ≠ 27 → S'.1 g = S.1 g) (fd : ∀ g i, 5 ≤ g → g ≤ 10 → i ≠ 8 → S'.1 g i = S.1 g i)
    (f17 : ∀ e, ¬ (e < 24 ∧ isC S e c) → S'.1 17 e = S.1 17 e)
    (hV : ∀ r k, r < 24 → B.1 14 r = nI c → k < m' → (∀ k0, k0 < m → S.1 17 (σ r) k0 = if T.1 30 k0 = 0 then r6 (T.1 34) r k0 else S.1 17 (σ r) k0) → ∀ f : Int32 → Int32, f (-1) = 0 → (∀ k0, k0 < m → T.1 30 k0 ≠ 0 → S.1 17 (σ r) k0 = f (r6 (T.1 34) r k0)) → S'.1 17 (σ r) k = if T'.1 30 k = 0 then r6 (T'.1 34) r k else f (r6 (T'.1 34) r k)) : JC j K B D σ c m0 S' T' m' L1 := by
  obtain ⟨hMI, hm6, hm, h27, h26, hfr, hcl, -⟩ := id hM
  obtain ⟨σ', τ', L', hL, hCR, hDE, hσ, hbf, hsb, hst⟩ := h
  have hm'6 := hde.1
  have f14 : T'.1 14 = T.1 14 := fr 14 (by omega)
  have cB : ∀ {r}, r < 24 → T.1 14 r = nI c → B.1 14 r = nI c := fun {r} hr h14 => (hcl r hr).mp h14
  refine ⟨σ', τ', L', hL, ?_, hde, hσ, fun r k hr h14 hk => by rw [fs 18 (by omega) (by omega) (by omega)]; exact hbf r k hr h14 hk, ?_, fun g hg => by rw [fs g (by omega) (by omega) (by omega)]; exact hst.1 g hg, fun e => by rw [fr 35 (by omega)] at e; rw [fs 13 (by omega) (by omega) (by omega)]; exact hst.2 e⟩
  · refine CR_reshape (m := (vS T c).1) (m' := (vS T' c).1) (s := (uS S c).1) (s' := (uS S' c).1) hMI hCR (c := c) (q' := m') hc hm'6 ?_ (if_pos (Or.inl rfl)) (fun d hd => ?_) ((if_pos rfl).trans hde.2.2.1) (fun d hd => ?_) (fun g hg1 hg2 d k hd hk => ?_) ?_ ?_ (fun r k hk hne => ?_) (fun g hg1 hg2 => ?_) ?_ ?_ (fun g hg1 hg2 => ?_) (fun g g1 g2 g4 g3 => ?_) (if_pos ⟨rfl, rfl⟩) (fun d hd => ?_) (fun g i hg1 hg2 hi hne => ?_) ?_ (fun r k hr hl hne hk => ?_) (fun r k hr h14 hk => ?_)
    · rw [vS_o _ _ _ (by omega) (by omega) (by omega), vS_o _ _ _ (by omega) (by omega) (by omega), fr 2 (by omega)]
    · show (if d = c ∨ dsB (T'.1 36 0) d = true then 0 else T'.1 3 d) = (if d = c ∨ dsB (T.1 36 0) d = true then 0 else T.1 3 d)
      rw [fr 36 (by omega), fr 3 (by omega)]
    · show (if d = c then T'.1 28 0 else T'.1 4 d) = (if d = c then T.1 28 0 else T.1 4 d)
      rw [if_neg hd, if_neg hd, fr 4 (by omega)]
    · rw [vS_s _ _ _ _ _ hg1 hg2 hk, vS_s _ _ _ _ _ hg1 hg2 hk, if_neg hd, if_neg hd, fr g (by omega)]
    · rw [vS_o _ _ _ (by omega) (by omega) (by omega), vS_o _ _ _ (by omega) (by omega) (by omega), f14]
    · rw [vS_o _ _ _ (by omega) (by omega) (by omega), vS_o _ _ _ (by omega) (by omega) (by omega), fr 15 (by omega)]
    · have hne' : T.1 14 r ≠ nI c := hne
      rw [vS_16 _ _ _ _ hk, vS_16 _ _ _ _ hk, f14, if_neg hne', if_neg hne', fr 16 (by omega)]
    · rw [vS_o _ _ _ (by omega) (by omega) (by omega), vS_o _ _ _ (by omega) (by omega) (by omega), fr g (by omega)]
    · rw [vS_o _ _ _ (by omega) (by omega) (by omega), vS_o _ _ _ (by omega) (by omega) (by omega), fr 17 (by omega)]
    · rw [vS_o _ _ _ (by omega) (by omega) (by omega), vS_o _ _ _ (by omega) (by omega) (by omega), fr 19 (by omega)]
    · rw [vS_o _ _ _ (by omega) (by omega) (by omega), vS_o _ _ _ (by omega) (by omega) (by omega), fr g (by omega)]
    · rw [uS_o _ _ _ (by omega), uS_o _ _ _ (by omega), fs g (by omega) g2 g4]
    · show (if d = c ∧ 0 = 0 then 0 else S'.1 4 d 0) = (if d = c ∧ 0 = 0 then 0 else S.1 4 d 0)
      rw [if_neg (fun h => hd h.1), if_neg (fun h => hd h.1), fs 4 (by omega) (by omega) (by omega)]
    · rw [uS_s _ _ _ _ hg1 (by omega), uS_s _ _ _ _ hg1 (by omega), if_neg hne, if_neg hne, fd g i hg1 (by omega) (by omega)]
    · refine ⟨?_, fun k hk => ?_⟩
      · rw [uS_s _ _ _ _ (by omega) (by omega), if_pos rfl]; exact hde.2.1
      · rw [uS_s _ _ _ _ (by omega) (by omega), uS_s _ _ _ _ (by omega) (by omega), uS_s _ _ _ _ (by omega) (by omega), uS_s _ _ _ _ (by omega) (by omega), if_pos rfl, if_pos rfl, if_pos rfl, if_pos rfl, vS_s _ _ 5 _ _ (by omega) (by omega) (by omega), vS_s _ _ 6 _ _ (by omega) (by omega) (by omega), vS_s _ _ 7 _ _ (by omega) (by omega) (by omega), vS_s _ _ 8 _ _ (by omega) (by omega) (by omega), if_pos rfl, if_pos rfl, if_pos rfl, if_pos rfl]
        obtain ⟨q1, q2, q3, q4, -⟩ := hde.2.2.2 k hk
        exact ⟨q1, q2, q3, q4⟩
    · rw [uS_o _ _ _ (by omega), uS_o _ _ _ (by omega), f17 (σ' r) (fun h => hne ?_)]
      have := (hCR.2.2.2.1.1 r hr hl).2.2.2.1
      rw [← this]
      exact h.2.2
    · have h14' : T.1 14 r = nI c := h14
      have hB := cB hr h14'
      rw [uS_o _ _ _ (by omega), uS_o _ _ _ (by omega), vS_s _ _ 6 _ _ (by omega) (by omega) (by omega), if_pos rfl, vS_16 _ _ _ _ (by omega), f14, if_pos h14', hσ r hr hB]
      have old : ∀ k0, k0 < m → S.1 17 (σ r) k0 = if T.1 30 k0 = 0 then r6 (T.1 34) r k0 else tr σ' (S.1 13) (r6 (T.1 34) r k0) := fun k0 hk0 => by
        have hv := hCR.2.2.2.2.2.2.1 r c k0 (T.1 30 k0) ⟨hr, hc, h14, ⟨m, hm6, (if_pos rfl).trans hm, hk0⟩, by rw [vS_s _ _ 6 _ _ (by omega) (by omega) (by omega), if_pos rfl]⟩
        rw [uS_o _ _ _ (by omega), uS_o _ _ _ (by omega), vS_16 _ _ _ _ (by omega), if_pos h14', hσ r hr hB] at hv
        exact hv
      refine hV r k hr hB hk (fun k0 hk0 => ?_) (tr σ' (S.1 13)) (tr_m1 _ _) (fun k0 hk0 hne => ?_)
      · by_cases e0 : T.1 30 k0 = 0
        · rw [if_pos e0, old k0 hk0, if_pos e0]
        · rw [if_neg e0]
      · rw [old k0 hk0, if_neg hne]
  · refine ⟨by rw [fd 5 _ (by omega) (by omega) (by omega)]; exact hsb.1, fun k hk => ?_⟩
    rw [fd 6 _ (by omega) (by omega) (by omega), fd 7 _ (by omega) (by omega) (by omega), fd 8 _ (by omega) (by omega) (by omega), fd 9 _ (by omega) (by omega) (by omega)]
    exact hsb.2 k hk
