/-! ===== the size of a family, as the class reckons it ===== -/
def fsB (rec : Int32 → Option Int32) (n : Nat) (S : CSt) (x3 : Nat) : (Int32 × Int32) → Option ((Int32 × Int32) ⊕ Int32) := fun x => if (S.1 5 x3 0) ≤ x.2 then (some (.inr x.1)) else ((m_X4_isOwning n S x3 x.2).bind (fun z29 => if z29 = 0 then (nm (x.2 + 1) (fun x31 => some (.inl (x.1, x31)))) else (bif inB x.2 6 then ((rec (S.1 8 x3 x.2.toNatClampNeg)).bind (fun z34 => nm (x.1 + z34) (fun x35 => nm (x.2 + 1) (fun x36 => some (.inl (x35, x36)))))) else none)))
theorem q_fsG {n : Nat} {j K L : Nat} {σ τ : Nat → Nat} {C : CSt} {M : MSt} (hn : 24 < n) (hM : MI K M.1) (hC : CR j K L σ τ C.1 M.1) {c q : Nat} (hc : c < 4) (hq : M.1 4 c = nI q) (hq6 : q ≤ 6) {rec : Int32 → Option Int32} (hrec : ∀ k d, k < q → r6 (M.1 6) c k = 2 → d < 4 → r6 (M.1 7) c k = nI d → rec (nI d) = some (nI (fam M.1 d))) : lpO (fsB rec n C (2 * c)) n (1, 0) = some (nI (fam M.1 c)) := by
  have hK4 := hM.1.1
  obtain ⟨p5, p6⟩ := hC.2.1 c q hc hq6 hq
  rw [fam_eq hM hc hq hq6]
  refine ok_get (ok_for2 (N := q) (by omega) (I := fun k a => a = nI (1 + smN (fun k => if r6 (M.1 6) c k = 2 then fam M.1 (r6 (M.1 7) c k).toNatClampNeg else 0) k)) (fun k a hk ha => ?_) rfl)
  unfold fsB
  dsimp only
  rw [p5, Ok_ite]
  refine ⟨fun h => ?_, fun h => ?_⟩
  · have e : k = q := ge_eq (by omega) hk h
    rw [Ok_some]
    rw [e] at ha
    exact ha
  · have hk2 : k < q := nge_lt (by omega) hk h
    rw [q_isOwn hq6 p5 hk2, Ok_bind, Ok_some, (p6 k hk2).2.1, nI_clamp (by omega), (p6 k hk2).2.2.1, Ok_ite]
    refine ⟨fun h2 => ?_, fun h2 => ?_⟩
    · have h3 : ¬ r6 (M.1 6) c k = 2 := fun h3 => by rw [if_pos h3] at h2; exact one_ne h2
      rw [Ok_nm, Ok_some]
      refine ⟨hk2, nI_1 k, ?_⟩
      show a = nI (1 + (smN _ k + (if r6 (M.1 6) c k = 2 then _ else 0)))
      rw [ha, if_neg h3]
      rfl
    · have h3 : r6 (M.1 6) c k = 2 := Decidable.byContradiction (fun h3 => h2 (if_neg h3))
      obtain ⟨d, hd1, hd2, -⟩ := kid_of hM hc hq hq6 hk2 h3
      rw [Ok_bif, hd2, hrec k d hk2 h3 (by omega) hd2, Ok_bind, Ok_some, Ok_nm, Ok_nm, Ok_some]
      refine ⟨inB_nI (by omega) (by omega), hk2, nI_1 k, ?_⟩
      show a + nI _ = nI (1 + (smN _ k + (if r6 (M.1 6) c k = 2 then fam M.1 (r6 (M.1 7) c k).toNatClampNeg else 0)))
      rw [ha, if_pos h3, hd2, nI_clamp (by omega), nI_add, Nat.add_assoc]
theorem q_fs3 {n : Nat} {j K L : Nat} {σ τ : Nat → Nat} {C : CSt} {M : MSt} (hn : 24 < n) (hM : MI K M.1) (hC : CR j K L σ τ C.1 M.1) {ρ : Nat → Nat} (h1 : ∀ c, c < 4 → ρ c < 4) (h3 : ∀ c q k d, c < 4 → q ≤ 6 → M.1 4 c = nI q → k < q → r6 (M.1 6) c k = 2 → d < 4 → r6 (M.1 7) c k = nI d → ρ c < ρ d) {c : Nat} (hc : c < 4) (hr : 3 ≤ ρ c) : m_X7_familySize_d3 n C (nI c) (nI 3) = some (nI (fam M.1 c)) := by
  obtain ⟨q, hq, hS⟩ := hM.2.1 c hc
  unfold m_X7_familySize_d3
  rw [if_pos (show nI 3 < 4 by decide), inB_nI hc (by omega), nI_clamp (by omega)]
  show (lpO (fsB (fun y => m_X7_familySize_d4 n C y (nI 3 + 1)) n C (2 * c)) n (1, 0)).bind _ = _
  rw [q_fsG hn hM hC hc hq hS.1 (fun k d hk h2 hd e => by
    have := h3 c q k d hc hS.1 hq hk h2 hd e
    have := h1 d hd
    omega)]
  rfl
theorem q_fs2 {n : Nat} {j K L : Nat} {σ τ : Nat → Nat} {C : CSt} {M : MSt} (hn : 24 < n) (hM : MI K M.1) (hC : CR j K L σ τ C.1 M.1) {ρ : Nat → Nat} (h1 : ∀ c, c < 4 → ρ c < 4) (h3 : ∀ c q k d, c < 4 → q ≤ 6 → M.1 4 c = nI q → k < q → r6 (M.1 6) c k = 2 → d < 4 → r6 (M.1 7) c k = nI d → ρ c < ρ d) {c : Nat} (hc : c < 4) (hr : 2 ≤ ρ c) : m_X7_familySize_d2 n C (nI c) (nI 2) = some (nI (fam M.1 c)) := by
  obtain ⟨q, hq, hS⟩ := hM.2.1 c hc
  unfold m_X7_familySize_d2
  rw [if_pos (show nI 2 < 4 by decide), inB_nI hc (by omega), nI_clamp (by omega)]
  show (lpO (fsB (fun y => m_X7_familySize_d3 n C y (nI 2 + 1)) n C (2 * c)) n (1, 0)).bind _ = _
  rw [q_fsG hn hM hC hc hq hS.1 (fun k d hk h2 hd e => by
    have := h3 c q k d hc hS.1 hq hk h2 hd e
    rw [nI_1]
    exact q_fs3 hn hM hC h1 h3 hd (by omega))]
  rfl
theorem q_fs1 {n : Nat} {j K L : Nat} {σ τ : Nat → Nat} {C : CSt} {M : MSt} (hn : 24 < n) (hM : MI K M.1) (hC : CR j K L σ τ C.1 M.1) {ρ : Nat → Nat} (h1 : ∀ c, c < 4 → ρ c < 4) (h3 : ∀ c q k d, c < 4 → q ≤ 6 → M.1 4 c = nI q → k < q → r6 (M.1 6) c k = 2 → d < 4 → r6 (M.1 7) c k = nI d → ρ c < ρ d) {c : Nat} (hc : c < 4) (hr : 1 ≤ ρ c) : m_X7_familySize_d1 n C (nI c) (nI 1) = some (nI (fam M.1 c)) := by
  obtain ⟨q, hq, hS⟩ := hM.2.1 c hc
  unfold m_X7_familySize_d1
  rw [if_pos (show nI 1 < 4 by decide), inB_nI hc (by omega), nI_clamp (by omega)]
  show (lpO (fsB (fun y => m_X7_familySize_d2 n C y (nI 1 + 1)) n C (2 * c)) n (1, 0)).bind _ = _
  rw [q_fsG hn hM hC hc hq hS.1 (fun k d hk h2 hd e => by
    have := h3 c q k d hc hS.1 hq hk h2 hd e
    rw [nI_1]
    exact q_fs2 hn hM hC h1 h3 hd (by omega))]
  rfl
theorem q_fs0 {n : Nat} {j K L : Nat} {σ τ : Nat → Nat} {C : CSt} {M : MSt} (hn : 24 < n) (hM : MI K M.1) (hC : CR j K L σ τ C.1 M.1) {c : Nat} (hc : c < 4) : m_X7_familySize_d0 n C (nI c) 0 = some (nI (fam M.1 c)) := by
  obtain ⟨q, hq, hS⟩ := hM.2.1 c hc
  obtain ⟨ρ, h1, h2, h3⟩ := hM.2.2.2.2.2.1
  unfold m_X7_familySize_d0
  rw [if_pos (show (0 : Int32) < 4 by decide), inB_nI hc (by omega), nI_clamp (by omega)]
  show (lpO (fsB (fun y => m_X7_familySize_d1 n C y (0 + 1)) n C (2 * c)) n (1, 0)).bind _ = _
  rw [q_fsG hn hM hC hc hq hS.1 (fun k d hk h2 hd e => by
    have := h3 c q k d hc hS.1 hq hk h2 hd e
    show m_X7_familySize_d1 n C (nI d) (nI 1) = _
    exact q_fs1 hn hM hC h1 h3 hd (by omega))]
  rfl
/-! ===== the size of a family, as the reference reckons it ===== -/
def ndI (K c : Nat) (M : MSt) (i k : Nat) (S : MSt) (a : Int32) : Prop := ∃ (row : Nat → Int32) (lc : Nat → Nat) (n : Nat), S = mR M 43 row ∧ a = nI n ∧ i < n ∧ n ≤ 25 ∧ (∀ j, j < n → row j = nI (lc j) ∧ lc j < K) ∧ ((n < 25 ∧ fam M.1 c + smN (fun j => fam M.1 (lc j)) i + smN (fun k => if r6 (M.1 6) (lc i) k = 2 then fam M.1 (r6 (M.1 7) (lc i) k).toNatClampNeg else 0) k = i + smN (fun j => fam M.1 (lc j)) n) ∨ (n = 25 ∧ 25 ≤ fam M.1 c))
theorem smN_ge {f : Nat → Nat} (hf : ∀ k, 1 ≤ f k) {a : Nat} : ∀ {b : Nat}, a ≤ b → smN f a + (b - a) ≤ smN f b
  | 0, h => by
    have : a = 0 := by omega
    subst this
    exact Nat.le_refl _
  | b + 1, h => by
    rcases Nat.lt_or_ge a (b + 1) with h1 | h1
    · have := smN_ge hf (a := a) (b := b) (by omega)
      have := hf b
      show _ ≤ smN f b + f b
      omega
    · have : a = b + 1 := by omega
      subst this
      omega
theorem p_neededR {n : Nat} {M : MSt} {K c : Nat} (hn : 60 < n) (hM : MI K M.1) {i d : Nat} {S : MSt} {a : Int32} (h : ndI K c M i 0 S a) (hd : d < 4) (hS : S.1 43 i = nI d) (hi : i < 25) : Ok (lpO (b_X8_needed_33 n (nI i) (nI d)) n (S, a, 0)) (fun w => ∃ (row : Nat → Int32) (lc : Nat → Nat) (n : Nat), w.1 = mR M 43 row ∧ w.2 = nI n ∧ i < n ∧ n ≤ 25 ∧ (∀ j, j < n → row j = nI (lc j) ∧ lc j < K) ∧ ((n < 25 ∧ fam M.1 c + smN (fun j => fam M.1 (lc j)) (i + 1) = i + 1 + smN (fun j => fam M.1 (lc j)) n) ∨ (n = 25 ∧ 25 ≤ fam M.1 c))) := by
  have hK4 := hM.1.1
  obtain ⟨q, hq, hSh⟩ := hM.2.1 d hd
  have hq6 := hSh.1
  have hfam := fam_eq hM hd hq hq6
  refine ok_for3 (N := q) (by omega) (I := fun k S a => ndI K c M i k S a ∧ S.1 43 i = nI d) (fun k S a hk hI => ?_) ⟨h, hS⟩
  obtain ⟨⟨row, lc, N, e1, e2, e3, e4, e5, e6⟩, e7⟩ := hI
  subst e2
  have eld : lc i = d := by
    rw [e1] at e7
    have e8 : row i = nI d := e7
    rw [(e5 i e3).1] at e8
    exact nI_inj4 (by have := (e5 i e3).2; omega) hd e8
  have s4 : S.1 4 = M.1 4 := by rw [e1]; rfl
  have s6 : S.1 6 = M.1 6 := by rw [e1]; rfl
  have s7 : S.1 7 = M.1 7 := by rw [e1]; rfl
  unfold b_X8_needed_33
  dsimp only
  rw [s4, s6, s7, Ok_bif, nI_clamp (by omega : d < 2 ^ 31), hq, ix6, Ok_ite]
  refine ⟨inB_nI hd (by omega), fun h => ?_, fun h => ?_⟩
  · have e : k = q := ge_eq (by omega) hk h
    rw [Ok_some]
    refine ⟨row, lc, N, e1, rfl, e3, e4, e5, ?_⟩
    rcases e6 with ⟨e6, e8⟩ | e6
    · refine Or.inl ⟨e6, ?_⟩
      rw [eld, e] at e8
      show _ + (smN _ i + fam M.1 (lc i)) = _
      rw [eld, hfam]
      omega
    · exact Or.inr e6
  · have hk2 : k < q := nge_lt (by omega) hk h
    -- a field that brings nothing
    have stay : ((r6 (M.1 6) d k ≠ 2) ∨ N = 25) → k < q ∧ nI k + 1 = nI (k + 1) ∧ ndI K c M i (k + 1) S (nI N) ∧ S.1 43 i = nI d := fun hx => by
      refine ⟨hk2, nI_1 k, ⟨row, lc, N, e1, rfl, e3, e4, e5, ?_⟩, e7⟩
      rcases e6 with ⟨e6, e8⟩ | e6
      · refine Or.inl ⟨e6, ?_⟩
        have hx := hx.resolve_right (by omega)
        rw [eld] at e8 ⊢
        show _ + _ + (smN _ k + (if r6 (M.1 6) d k = 2 then _ else 0)) = _
        rw [if_neg hx]
        omega
      · exact Or.inr e6
    rw [Ok_bif, nI_clamp (by omega : 6 * d + k < 2 ^ 31), Ok_ite]
    refine ⟨inB_nI (by omega) (by omega), fun h2 => ?_, fun h2 => ?_⟩
    · rw [Ok_nm, Ok_some]
      exact stay (Or.inl h2)
    · have h2 : r6 (M.1 6) d k = 2 := Decidable.not_not.mp h2
      rw [Ok_ite]
      refine ⟨fun h3 => ?_, fun h3 => ?_⟩
      · rw [Ok_nm, Ok_some]
        exact stay (Or.inr (ge_eq (by decide) e4 h3))
      · have hN : N < 25 := nge_lt (by decide) e4 h3
        obtain ⟨-, e8⟩ := e6.resolve_right (by omega)
        obtain ⟨d', hd1, hd2, -⟩ := kid_of hM hd hq hq6 hk2 h2
        rw [Ok_bif, Ok_bif, Ok_nm, Ok_nm, Ok_nm, Ok_some, nI_clamp (by omega : N < 2 ^ 31)]
        refine ⟨inB_nI (by omega) (by omega), inB_nI (by omega) (by omega), hk2, nI_1 k, ⟨fun l => if l = N then nI d' else row l, fun l => if l = N then d' else lc l, N + 1, ?_, nI_1 N, by omega, by omega, fun j hj => ?_, ?_⟩, ?_⟩
        · show mI S 43 N (r6 (M.1 7) d k) = _
          rw [e1, hd2]
          exact mI_mR _ _ _ _ _ _ (fun l => rfl)
        · show (if j = N then nI d' else row j) = nI (if j = N then d' else lc j) ∧ (if j = N then d' else lc j) < K
          by_cases e : j = N
          · rw [if_pos e, if_pos e]; exact ⟨rfl, hd1⟩
          · rw [if_neg e, if_neg e]; exact e5 j (by omega)
        · have hgi : ∀ b, b ≤ N → smN (fun j => fam M.1 (if j = N then d' else lc j)) b = smN (fun j => fam M.1 (lc j)) b := fun b hb => smN_cong (fun j hj => by rw [if_neg (by omega)])
          have hli : (if i = N then d' else lc i) = d := by rw [if_neg (by omega), eld]
          rw [eld] at e8
          have hnew : fam M.1 c + smN (fun j => fam M.1 (if j = N then d' else lc j)) i + smN (fun k => if r6 (M.1 6) d k = 2 then fam M.1 (r6 (M.1 7) d k).toNatClampNeg else 0) (k + 1) = i + smN (fun j => fam M.1 (if j = N then d' else lc j)) (N + 1) := by
            show _ + _ + (smN _ k + (if r6 (M.1 6) d k = 2 then _ else 0)) = i + (smN _ N + fam M.1 (if N = N then d' else lc N))
            rw [hgi i (by omega), hgi N (Nat.le_refl _), if_pos h2, if_pos rfl, hd2, nI_clamp (by omega)]
            omega
          by_cases hN2 : N + 1 < 25
          · refine Or.inl ⟨hN2, ?_⟩
            show fam M.1 c + smN (fun j => fam M.1 (if j = N then d' else lc j)) i + smN (fun k => if r6 (M.1 6) (if i = N then d' else lc i) k = 2 then fam M.1 (r6 (M.1 7) (if i = N then d' else lc i) k).toNatClampNeg else 0) (k + 1) = _
            rw [hli]
            exact hnew
          · refine Or.inr ⟨by omega, ?_⟩
            have g1 := smN_ge (f := fun j => fam M.1 (if j = N then d' else lc j)) (fun _ => fam_pos _) (a := i + 1) (b := N + 1) (by omega)
            have g2 : smN (fun j => fam M.1 (if j = N then d' else lc j)) (i + 1) = smN (fun j => fam M.1 (if j = N then d' else lc j)) i + fam M.1 d := by
              show _ + fam M.1 (if i = N then d' else lc i) = _
              rw [hli]
            have g3 := smN_mono (fun k => if r6 (M.1 6) d k = 2 then fam M.1 (r6 (M.1 7) d k).toNatClampNeg else 0) (a := k + 1) (b := q) (by omega)
            omega
        · show (mI S 43 N _).1 43 i = nI d
          rw [mI_at, if_neg (by omega)]
          exact e7
theorem p_needed {n : Nat} {M : MSt} {K c : Nat} (hn : 60 < n) (hM : MI K M.1) (hc : c < K) : Ok (m_X8_needed n M (nI c)) (fun o => ∃ row, o.2 = mR M 43 row ∧ ((o.1 = nI (fam M.1 c) ∧ fam M.1 c < 25) ∨ (o.1 = nI 25 ∧ 25 ≤ fam M.1 c))) := by
  have hK4 := hM.1.1
  unfold m_X8_needed
  rw [Ok_bif, Ok_nm]
  refine ⟨rfl, ok_seq (P := fun w => ∃ row, w.1 = mR M 43 row ∧ ((w.2 = nI (fam M.1 c) ∧ fam M.1 c < 25) ∨ (w.2 = nI 25 ∧ 25 ≤ fam M.1 c))) ?_ (fun w hw => ?_)⟩
  · refine ok_for3 (N := 25) (by omega) (I := fun i S a => ∃ (row : Nat → Int32) (lc : Nat → Nat) (n : Nat), S = mR M 43 row ∧ a = nI n ∧ i ≤ n ∧ n ≤ 25 ∧ (∀ j, j < n → row j = nI (lc j) ∧ lc j < K) ∧ ((n < 25 ∧ fam M.1 c + smN (fun j => fam M.1 (lc j)) i = i + smN (fun j => fam M.1 (lc j)) n) ∨ (n = 25 ∧ 25 ≤ fam M.1 c))) (fun i S a hi hI => ?_) ⟨fun l => if l = 0 then nI c else M.1 43 l, fun _ => c, 1, ?_, rfl, by omega, by omega, fun j hj => ?_, Or.inl ⟨by omega, ?_⟩⟩
    · obtain ⟨row, lc, N, e1, e2, e3, e4, e5, e6⟩ := hI
      subst e2
      unfold b_X8_needed_11
      dsimp only
      rw [Ok_ite]
      refine ⟨fun h => ?_, fun h => ?_⟩
      · have e : i = N := by
          have := (nI_leI (by omega) (by omega)).mp h
          omega
        rw [Ok_some]
        refine ⟨row, e1, ?_⟩
        rcases e6 with ⟨e6, e7⟩ | ⟨e6, e7⟩
        · rw [e] at e7
          have e8 : fam M.1 c = N := by omega
          exact Or.inl ⟨by rw [e8], by omega⟩
        · exact Or.inr ⟨by rw [e6], e7⟩
      · have hiN : i < N := Nat.not_le.mp (fun q => h (nI_le q (by omega)))
        rw [Ok_ite]
        refine ⟨fun h2 => ?_, fun h2 => ?_⟩
        · have e : N = 25 := ge_eq (by decide) e4 h2
          rw [Ok_some]
          refine ⟨row, e1, Or.inr ⟨by rw [e], ?_⟩⟩
          rcases e6 with ⟨e6, -⟩ | ⟨-, e7⟩
          · omega
          · exact e7
        · have hN : N < 25 := nge_lt (by decide) e4 h2
          obtain ⟨-, e7⟩ := e6.resolve_right (by omega)
          obtain ⟨g1, g2⟩ := e5 i hiN
          have s43 : S.1 43 i = nI (lc i) := by rw [e1]; exact g1
          rw [Ok_bif, nI_clamp (by omega), s43, Ok_nm]
          refine ⟨inB_nI (by omega) (by omega), ok_seq (p_neededR (c := c) hn hM ⟨row, lc, N, e1, rfl, hiN, e4, e5, Or.inl ⟨hN, e7⟩⟩ (by omega) s43 (by omega)) (fun w hw => ?_)⟩
          obtain ⟨row2, lc2, N2, f1, f2, f3, f4, f5, f6⟩ := hw
          rw [Ok_nm, Ok_some]
          exact ⟨by omega, nI_1 i, row2, lc2, N2, f1, f2, by omega, f4, f5, f6⟩
    · show mI M 43 0 (nI c) = _
      refine Eq.trans (congrArg (fun X => mI X 43 0 (nI c)) (mR_self M 43 rfl)) (mI_mR _ _ _ _ _ _ (fun l => rfl))
    · have : j = 0 := by omega
      rw [this]
      exact ⟨if_pos rfl, hc⟩
    · show fam M.1 c + 0 = 0 + (0 + fam M.1 c)
      omega
  · obtain ⟨row, h1, h2⟩ := hw
    rw [Ok_some]
    exact ⟨row, h1, h2⟩
