/-! ===== change: what would be if the draft were settled ===== -/
def dsB (x : Int32) (d : Nat) : Bool := !decide (((x >>> (nI d &&& 31)) &&& 1) = 0)
def vS (T : MSt) (c : Nat) : MSt := (fun g => cond (Nat.beq g 3) (fun d => if d = c ∨ dsB (T.1 36 0) d = true then 0 else T.1 3 d) (cond (Nat.beq g 4) (fun d => if d = c then T.1 28 0 else T.1 4 d) (cond (Nat.ble 5 g && Nat.ble g 8) (fun l => if 6 * c ≤ l ∧ l < 6 * c + 6 then T.1 (g + 24) (l - 6 * c) else T.1 g l) (cond (Nat.beq g 16) (fun l => if T.1 14 (l / 6) = nI c then T.1 34 l else T.1 16 l) (T.1 g)))), T.2)
theorem vS_o (T : MSt) (c g : Nat) (h3 : g ≠ 3) (h : g < 4 ∨ 8 < g) (h16 : g ≠ 16) : (vS T c).1 g = T.1 g := by
  unfold vS
  show (cond (Nat.beq g 3) _ (cond (Nat.beq g 4) _ (cond (Nat.ble 5 g && Nat.ble g 8) _ (cond (Nat.beq g 16) _ (T.1 g))))) = _
  rw [beq_f h3, beq_f (by omega), show (Nat.ble 5 g && Nat.ble g 8) = false by
    cases h2 : (Nat.ble 5 g && Nat.ble g 8)
    · rfl
    · exfalso
      simp only [Bool.and_eq_true, Nat.ble_eq] at h2
      omega, beq_f h16]
  rfl
theorem vS_s (T : MSt) (c g d k : Nat) (h1 : 5 ≤ g) (h2 : g ≤ 8) (hk : k < 6) : r6 ((vS T c).1 g) d k = if d = c then T.1 (g + 24) k else r6 (T.1 g) d k := by
  unfold r6 vS
  show (cond (Nat.beq g 3) (fun d => if d = c ∨ dsB (T.1 36 0) d = true then 0 else T.1 3 d) (cond (Nat.beq g 4) (fun d => if d = c then T.1 28 0 else T.1 4 d) (cond (Nat.ble 5 g && Nat.ble g 8) (fun l => if 6 * c ≤ l ∧ l < 6 * c + 6 then T.1 (g + 24) (l - 6 * c) else T.1 g l) (cond (Nat.beq g 16) (fun l => if T.1 14 (l / 6) = nI c then T.1 34 l else T.1 16 l) (T.1 g))))) (6 * d + k) = _
  rw [beq_f (by omega), beq_f (by omega), show (Nat.ble 5 g && Nat.ble g 8) = true by simp [h1, h2]]
  show (if 6 * c ≤ 6 * d + k ∧ 6 * d + k < 6 * c + 6 then T.1 (g + 24) (6 * d + k - 6 * c) else T.1 g (6 * d + k)) = _
  by_cases e : d = c
  · rw [if_pos (by omega), if_pos e, e, show 6 * c + k - 6 * c = k by omega]
  · rw [if_neg (by omega), if_neg e]
theorem vS_16 (T : MSt) (c r k : Nat) (hk : k < 6) : r6 ((vS T c).1 16) r k = if T.1 14 r = nI c then r6 (T.1 34) r k else r6 (T.1 16) r k := by
  unfold r6
  show (if T.1 14 ((6 * r + k) / 6) = nI c then T.1 34 (6 * r + k) else T.1 16 (6 * r + k)) = _
  rw [show (6 * r + k) / 6 = r by omega]
/-- nothing is written but what the change may write -/
def FrT (B T : MSt) : Prop := (∀ g, (g < 14 ∨ (17 ≤ g ∧ g ≤ 25) ∨ (37 ≤ g ∧ g ≤ 39)) → T.1 g = B.1 g) ∧ (∀ r, 24 ≤ r → T.1 14 r = B.1 14 r ∧ T.1 15 r = B.1 15 r) ∧ ∀ l, 144 ≤ l → T.1 16 l = B.1 16 l
/-- the reference in the midst of a change of class c: B: how it began, m0 fields then, m now -/
def JM (K : Nat) (B T : MSt) (c m0 m : Nat) : Prop :=
  MI K (vS T c).1 ∧ m ≤ 6 ∧ T.1 28 0 = nI m ∧ T.1 27 0 = nI c ∧ T.1 26 0 = -1 ∧ FrT B T ∧
  (∀ r, r < 24 → (T.1 14 r = nI c ↔ B.1 14 r = nI c)) ∧ (∀ r k, r < 24 → B.1 14 r = nI c → k < 6 → T.1 15 r = B.1 15 r ∧ r6 (T.1 16) r k = r6 (B.1 16) r k) ∧
  (∀ k, k < m → T.1 33 k = -1 ∨ ∃ o, o < m0 ∧ T.1 33 k = nI o ∧ r6 (B.1 6) c o = T.1 30 k ∧ (T.1 30 k ≠ 0 → r6 (B.1 7) c o = T.1 31 k ∧ ∀ r, r < 24 → B.1 14 r = nI c → r6 (T.1 34) r k = r6 (B.1 16) r o)) ∧
  (∀ k, k < m → ∀ k', k' < m → T.1 33 k = T.1 33 k' → T.1 33 k ≠ -1 → k = k') ∧
  (T.1 35 0 = 0 ∨ T.1 35 0 = 1) ∧ (∃ w, w < 16 ∧ T.1 36 0 = nI w ∧ ∀ d, d < 4 → dsB (nI w) d = true → d < K) ∧
  (T.1 35 0 = 0 → T.1 36 0 = 0 ∧ T.1 14 = B.1 14 ∧ T.1 15 = B.1 15 ∧ T.1 16 = B.1 16 ∧ (∀ k, k < m → T.1 30 k = 2 → T.1 33 k ≠ -1) ∧ ∀ o, o < m0 → r6 (B.1 6) c o = 2 → ∃ k, k < m ∧ T.1 33 k = nI o)
theorem JM_sh {K : Nat} {B T : MSt} {c m0 m : Nat} (h : JM K B T c m0 m) (hc : c < 4) : Sh K m (T.1 29) (T.1 30) (T.1 31) (T.1 32) := by
  obtain ⟨hM, hm6, hm, -⟩ := h
  obtain ⟨q, hq, hS⟩ := hM.2.1 c hc
  have hq6 := hS.1
  have e4 : (vS T c).1 4 c = nI m := (if_pos rfl).trans hm
  have e : m = q := (nI_eq (by omega) (by omega)).mp (e4.symm.trans hq)
  subst e
  refine ⟨hm6, fun i hi j hj h => hS.2.1 i hi j hj ?_, fun i hi => ?_⟩
  · rw [vS_s _ _ 5 _ _ (by omega) (by omega) (by omega), vS_s _ _ 5 _ _ (by omega) (by omega) (by omega), if_pos rfl, if_pos rfl]
    exact h
  · have := hS.2.2 i hi
    rw [vS_s _ _ 5 _ _ (by omega) (by omega) (by omega), vS_s _ _ 6 _ _ (by omega) (by omega) (by omega), vS_s _ _ 7 _ _ (by omega) (by omega) (by omega), vS_s _ _ 8 _ _ (by omega) (by omega) (by omega), if_pos rfl, if_pos rfl, if_pos rfl, if_pos rfl] at this
    exact this
/-- what the draft's values of a record of class c are -/
theorem JM_val {K : Nat} {B T : MSt} {c m0 m : Nat} (h : JM K B T c m0 m) (hc : c < 4) {r k : Nat} (hr : r < 24) (h14 : B.1 14 r = nI c) (hk : k < m) : (T.1 30 k = 0 → T.1 31 k ≤ r6 (T.1 34) r k ∧ r6 (T.1 34) r k ≤ T.1 32 k) ∧ (T.1 30 k = 2 → ∃ p, p < 24 ∧ r6 (T.1 34) r k = nI p ∧ T.1 14 p = T.1 31 k) := by
  have hT14 : T.1 14 r = nI c := (h.2.2.2.2.2.2.1 r hr).mpr h14
  obtain ⟨hM, hm6, hm, -⟩ := h
  have e4 : (vS T c).1 4 c = nI m := (if_pos rfl).trans hm
  have hF : ∀ q, T.1 30 k = q → Fld ((vS T c).1 4) ((vS T c).1 6) ((vS T c).1 14) r c k q := fun q hq => ⟨hr, hc, hT14, ⟨m, hm6, e4, hk⟩, by rw [vS_s _ _ 6 _ _ (by omega) (by omega) (by omega), if_pos rfl]; exact hq⟩
  refine ⟨fun h0 => ?_, fun h2 => ?_⟩
  · have := hM.2.2.2.1.1 r c k (hF 0 h0)
    rw [vS_s _ _ 7 _ _ (by omega) (by omega) (by omega), vS_s _ _ 8 _ _ (by omega) (by omega) (by omega), if_pos rfl, if_pos rfl, vS_16 _ _ _ _ (by omega), if_pos hT14] at this
    exact this
  · have := hM.2.2.2.1.2.2.1 r c k (hF 2 h2)
    rw [vS_s _ _ 7 _ _ (by omega) (by omega) (by omega), if_pos rfl, vS_16 _ _ _ _ (by omega), if_pos hT14] at this
    exact this
theorem JM_reshape {K : Nat} {B T T' : MSt} {c m0 m m' : Nat} (h : JM K B T c m0 m) (hc : c < 4) (hm0 : m0 ≤ 6) (fr : ∀ g, g < 28 ∨ (34 < g ∧ g < 40) → T'.1 g = T.1 g) (h28 : T'.1 28 0 = nI m') (hSh : Sh K m' (T'.1 29) (T'.1 30) (T'.1 31) (T'.1 32)) {ψ : Nat → Nat} {fs : Nat → Prop}
    (hsrc : ∀ k, k < m' → (fs k ∧ T'.1 33 k = -1 ∧ T'.1 30 k ≠ 2 ∧ (T'.1 30 k = 1 → ∀ r, r < 24 → B.1 14 r = nI c → r6 (T'.1 34) r k = -1)) ∨ (¬ fs k ∧ ψ k < m ∧ T'.1 30 k = T.1 30 (ψ k) ∧ T'.1 33 k = T.1 33 (ψ k) ∧ (T.1 30 (ψ k) ≠ 0 → T'.1 31 k = T.1 31 (ψ k) ∧ ∀ r, r < 24 → B.1 14 r = nI c → r6 (T'.1 34) r k = r6 (T.1 34) r (ψ k))))
    (hinj : ∀ k, k < m' → ¬ fs k → ∀ k2, k2 < m' → ¬ fs k2 → ψ k = ψ k2 → k = k2)
    (hnum : ∀ k r, k < m' → T'.1 30 k = 0 → r < 24 → B.1 14 r = nI c → T'.1 31 k ≤ r6 (T'.1 34) r k ∧ r6 (T'.1 34) r k ≤ T'.1 32 k)
    (hall : ∀ k, k < m → T.1 30 k = 2 → ∃ k', k' < m' ∧ ¬ fs k' ∧ ψ k' = k) : JM K B T' c m0 m' := by
  have hm'6 := hSh.1
  obtain ⟨hM, hm6, hm, h27, h26, hfr, hcl, hcv, hor, hoi, hmx, hds, hmix⟩ := id h
  have e4 : (vS T c).1 4 c = nI m := (if_pos rfl).trans hm
  have f14 : T'.1 14 = T.1 14 := fr 14 (by omega)
  have f36 : T'.1 36 = T.1 36 := fr 36 (by omega)
  have f35 : T'.1 35 = T.1 35 := fr 35 (by omega)
  have cB : ∀ {r}, r < 24 → T.1 14 r = nI c → B.1 14 r = nI c := fun {r} hr h14 => (hcl r hr).mp h14
  refine ⟨?_, hm'6, h28, by rw [fr 27 (by omega)]; exact h27, by rw [fr 26 (by omega)]; exact h26, ⟨fun g hg => ?_, fun r hr => ?_, fun l hl => ?_⟩, fun r hr => by rw [f14]; exact hcl r hr, fun r k hr h14 hk => by rw [fr 15 (by omega), fr 16 (by omega)]; exact hcv r k hr h14 hk, fun k hk => ?_, fun k hk k2 hk2 e1 e2 => ?_, by rw [f35]; exact hmx, by rw [f36]; exact hds, fun hx => ?_⟩
  · refine MI_reshape (m := (vS T c).1) (m' := (vS T' c).1) (c := c) (q := m) (q' := m') (ψ := ψ) hM hc e4 hm6 ?_ ?_ ?_ (fun d hd => ?_) ?_ (fun d hd => ?_) (fun g hg1 hg2 d k hd hk => ?_) ?_ ?_ ?_ (fun r k hk hne => ?_) (fun g hg1 hg2 => ?_) ?_ ?_ (fun g hg1 hg2 => ?_) (fun r k hr h14 hk hx => ?_) (fun k hk hx => ?_) (fun k hk hx => ?_) (fun k hk hx k2 hk2 hx2 e => ?_)
    · rw [vS_o _ _ _ (by omega) (by omega) (by omega), vS_o _ _ _ (by omega) (by omega) (by omega), fr 1 (by omega)]
    · rw [vS_o _ _ _ (by omega) (by omega) (by omega), vS_o _ _ _ (by omega) (by omega) (by omega), fr 2 (by omega)]
    · exact if_pos (Or.inl rfl)
    · show (if d = c ∨ dsB (T'.1 36 0) d = true then 0 else T'.1 3 d) = (if d = c ∨ dsB (T.1 36 0) d = true then 0 else T.1 3 d)
      rw [f36, fr 3 (by omega)]
    · exact (if_pos rfl).trans h28
    · show (if d = c then T'.1 28 0 else T'.1 4 d) = (if d = c then T.1 28 0 else T.1 4 d)
      rw [if_neg hd, if_neg hd, fr 4 (by omega)]
    · rw [vS_s _ _ _ _ _ hg1 hg2 hk, vS_s _ _ _ _ _ hg1 hg2 hk, if_neg hd, if_neg hd, fr g (by omega)]
    · refine ⟨hm'6, fun i hi i' hi' e => hSh.2.1 i hi i' hi' ?_, fun i hi => ?_⟩
      · rw [vS_s _ _ 5 _ _ (by omega) (by omega) (by omega), vS_s _ _ 5 _ _ (by omega) (by omega) (by omega), if_pos rfl, if_pos rfl] at e
        exact e
      · rw [vS_s _ _ 5 _ _ (by omega) (by omega) (by omega), vS_s _ _ 6 _ _ (by omega) (by omega) (by omega), vS_s _ _ 7 _ _ (by omega) (by omega) (by omega), vS_s _ _ 8 _ _ (by omega) (by omega) (by omega), if_pos rfl, if_pos rfl, if_pos rfl, if_pos rfl]
        exact hSh.2.2 i hi
    · rw [vS_o _ _ _ (by omega) (by omega) (by omega), vS_o _ _ _ (by omega) (by omega) (by omega), f14]
    · rw [vS_o _ _ _ (by omega) (by omega) (by omega), vS_o _ _ _ (by omega) (by omega) (by omega), fr 15 (by omega)]
    · have hne' : T.1 14 r ≠ nI c := hne
      rw [vS_16 _ _ _ _ hk, vS_16 _ _ _ _ hk, f14, if_neg hne', if_neg hne', fr 16 (by omega)]
    · rw [vS_o _ _ _ (by omega) (by omega) (by omega), vS_o _ _ _ (by omega) (by omega) (by omega), fr g (by omega)]
    · rw [vS_o _ _ _ (by omega) (by omega) (by omega), vS_o _ _ _ (by omega) (by omega) (by omega), fr 17 (by omega)]
    · rw [vS_o _ _ _ (by omega) (by omega) (by omega), vS_o _ _ _ (by omega) (by omega) (by omega), fr 19 (by omega)]
    · rw [vS_o _ _ _ (by omega) (by omega) (by omega), vS_o _ _ _ (by omega) (by omega) (by omega), fr g (by omega)]
    · have h14' : T.1 14 r = nI c := h14
      rw [vS_s _ _ 6 _ _ (by omega) (by omega) (by omega), if_pos rfl] at hx
      rw [vS_s _ _ 7 _ _ (by omega) (by omega) (by omega), vS_s _ _ 8 _ _ (by omega) (by omega) (by omega), if_pos rfl, if_pos rfl, vS_16 _ _ _ _ (by omega), f14, if_pos h14']
      exact hnum k r hk hx hr (cB hr h14')
    · rw [vS_s _ _ 6 _ _ (by omega) (by omega) (by omega), if_pos rfl] at hx
      have hx : T'.1 30 k = 1 := hx
      rcases hsrc k hk with ⟨-, a2, a3, a4⟩ | ⟨-, a2, a3, a4, a5⟩
      · refine Or.inr (fun r hr h14 => ?_)
        have h14' : T.1 14 r = nI c := h14
        rw [vS_16 _ _ _ _ (by omega), f14, if_pos h14']
        exact a4 hx r hr (cB hr h14')
      · have hx2 : T.1 30 (ψ k) = 1 := a3.symm.trans hx
        refine Or.inl ⟨ψ k, a2, by rw [vS_s _ _ 6 _ _ (by omega) (by omega) (by omega), if_pos rfl]; exact hx2, fun r hr h14 => ?_⟩
        have h14' : T.1 14 r = nI c := h14
        rw [vS_16 _ _ _ _ (by omega), vS_16 _ _ _ _ (by omega), f14, if_pos h14', if_pos h14']
        exact (a5 (by rw [hx2]; decide)).2 r hr (cB hr h14')
    · rw [vS_s _ _ 6 _ _ (by omega) (by omega) (by omega), if_pos rfl] at hx
      have hx : T'.1 30 k = 2 := hx
      rcases hsrc k hk with ⟨-, a2, a3, a4⟩ | ⟨-, a2, a3, a4, a5⟩
      · exact absurd hx a3
      · have hx2 : T.1 30 (ψ k) = 2 := a3.symm.trans hx
        obtain ⟨b1, b2⟩ := a5 (by rw [hx2]; decide)
        refine ⟨a2, by rw [vS_s _ _ 6 _ _ (by omega) (by omega) (by omega), if_pos rfl]; exact hx2, by rw [vS_s _ _ 7 _ _ (by omega) (by omega) (by omega), vS_s _ _ 7 _ _ (by omega) (by omega) (by omega), if_pos rfl, if_pos rfl]; exact b1, fun r hr h14 => ?_⟩
        have h14' : T.1 14 r = nI c := h14
        rw [vS_16 _ _ _ _ (by omega), vS_16 _ _ _ _ (by omega), f14, if_pos h14', if_pos h14']
        exact b2 r hr (cB hr h14')
    · rw [vS_s _ _ 6 _ _ (by omega) (by omega) (by omega), if_pos rfl] at hx hx2
      have hx : T'.1 30 k = 2 := hx
      have hx2 : T'.1 30 k2 = 2 := hx2
      have n1 : ¬ fs k := by
        rcases hsrc k hk with ⟨-, -, a3, -⟩ | ⟨a1, -⟩
        · exact absurd hx a3
        · exact a1
      have n2 : ¬ fs k2 := by
        rcases hsrc k2 hk2 with ⟨-, -, a3, -⟩ | ⟨a1, -⟩
        · exact absurd hx2 a3
        · exact a1
      exact hinj k hk n1 k2 hk2 n2 e
  · rw [fr g (by omega)]
    exact hfr.1 g hg
  · rw [f14, fr 15 (by omega)]
    exact hfr.2.1 r hr
  · rw [fr 16 (by omega)]
    exact hfr.2.2 l hl
  · rcases hsrc k hk with ⟨-, a2, -⟩ | ⟨-, a2, a3, a4, a5⟩
    · exact Or.inl a2
    · rw [a4]
      rcases hor (ψ k) a2 with g | ⟨o, o1, o2, o3, o4⟩
      · exact Or.inl g
      · refine Or.inr ⟨o, o1, o2, o3.trans a3.symm, fun hne => ?_⟩
        rw [a3] at hne
        obtain ⟨b1, b2⟩ := a5 hne
        obtain ⟨b3, b4⟩ := o4 hne
        exact ⟨b3.trans b1.symm, fun r hr h14 => (b2 r hr h14).trans (b4 r hr h14)⟩
  · rcases hsrc k hk with ⟨-, a2, -⟩ | ⟨a1, a2, a3, a4, a5⟩
    · exact absurd a2 e2
    · rcases hsrc k2 hk2 with ⟨-, b2, -⟩ | ⟨b1, b2, b3, b4, b5⟩
      · exact absurd (e1.trans b2) e2
      · rw [a4, b4] at e1
        rw [a4] at e2
        exact hinj k hk a1 k2 hk2 b1 (hoi (ψ k) a2 (ψ k2) b2 e1 e2)
  · rw [f35] at hx
    obtain ⟨x1, x2, x3, x4, x5, x6⟩ := hmix hx
    refine ⟨by rw [f36]; exact x1, f14.trans x2, (fr 15 (by omega)).trans x3, (fr 16 (by omega)).trans x4, fun k hk h2 => ?_, fun o ho h2 => ?_⟩
    · rcases hsrc k hk with ⟨-, -, a3, -⟩ | ⟨a1, a2, a3, a4, a5⟩
      · exact absurd h2 a3
      · rw [a4]
        exact x5 (ψ k) a2 (a3.symm.trans h2)
    · obtain ⟨k, k1, k2⟩ := x6 o ho h2
      have hk2 : T.1 30 k = 2 := by
        rcases hor k k1 with g | ⟨o', o1, o2, o3, -⟩
        · rw [g] at k2; exact absurd k2 (m1_ne_nI (by omega))
        · have := hm6
          rw [k2] at o2
          rw [← o3, ← h2]
          congr 1
          exact ((nI_eq (by omega) (by omega)).mp o2).symm
      obtain ⟨k', a1, a2, a3⟩ := hall k k1 hk2
      rcases hsrc k' a1 with ⟨b1, -⟩ | ⟨b1, b2, b3, b4, b5⟩
      · exact absurd b1 a2
      · exact ⟨k', a1, by rw [b4, a3]; exact k2⟩
