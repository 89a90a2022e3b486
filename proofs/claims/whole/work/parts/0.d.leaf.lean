/-! ===== how a pair of answers is shown ===== -/
theorem stI_ok {ks : List Nat} {cm : Nat → Int32} {R : CSt → MSt → Prop} {o : Option ((Int32 × CSt) ⊕ (Nat × CSt))} {z : Option (Int32 × MSt)} {v : Int32} {C2 : CSt} {w : Int32 × MSt} (ho : o = some (.inl (v, C2))) (hz : z = some w) (h0 : w.2.1 0 0 = 0) (h1 : w.1 = v) (hR : R C2 w.2) : StI ks cm R o z :=
  ⟨_, w, ho, hz, fun v' C' e => by cases e; exact ⟨h0, h1, hR⟩, fun k C' e => by cases e⟩
theorem stI_ex {ks : List Nat} {cm : Nat → Int32} {R : CSt → MSt → Prop} {o : Option ((Int32 × CSt) ⊕ (Nat × CSt))} {z : Option (Int32 × MSt)} {k : Nat} {C2 : CSt} {w : Int32 × MSt} (ho : o = some (.inr (k, C2))) (hz : z = some w) (hk : k ∈ ks) (h0 : w.2.1 0 0 = cm k) (hR : R C2 w.2) : StI ks cm R o z :=
  ⟨_, w, ho, hz, fun v' C' e => (by cases e), fun k' C' e => by cases e; exact ⟨hk, h0, hR⟩⟩
theorem stP_ok {ks : List Nat} {cm : Nat → Int32} {R : CSt → MSt → Prop} {C : CSt} {o : Option (Int32 ⊕ (Nat × CSt))} {z : Option (Int32 × MSt)} {v : Int32} {w : Int32 × MSt} (ho : o = some (.inl v)) (hz : z = some w) (h0 : w.2.1 0 0 = 0) (h1 : w.1 = v) (hR : R C w.2) : StP ks cm R C o z :=
  ⟨_, w, ho, hz, fun v' e => by cases e; exact ⟨h0, h1, hR⟩, fun k C' e => by cases e⟩
theorem stP_ex {ks : List Nat} {cm : Nat → Int32} {R : CSt → MSt → Prop} {C : CSt} {o : Option (Int32 ⊕ (Nat × CSt))} {z : Option (Int32 × MSt)} {k : Nat} {C2 : CSt} {w : Int32 × MSt} (ho : o = some (.inr (k, C2))) (hz : z = some w) (hk : k ∈ ks) (h0 : w.2.1 0 0 = cm k) (hR : R C2 w.2) : StP ks cm R C o z :=
  ⟨_, w, ho, hz, fun v' e => (by cases e), fun k' C' e => by cases e; exact ⟨hk, h0, hR⟩⟩
theorem stV_ok {ks : List Nat} {cm : Nat → Int32} {R : CSt → MSt → Prop} {o : Option (CSt ⊕ (Nat × CSt))} {z : Option MSt} {C2 : CSt} {w : MSt} (ho : o = some (.inl C2)) (hz : z = some w) (h0 : w.1 0 0 = 0) (hR : R C2 w) : StV ks cm R o z :=
  ⟨_, w, ho, hz, fun C' e => by cases e; exact ⟨h0, hR⟩, fun k C' e => by cases e⟩
theorem stV_ex {ks : List Nat} {cm : Nat → Int32} {R : CSt → MSt → Prop} {o : Option (CSt ⊕ (Nat × CSt))} {z : Option MSt} {k : Nat} {C2 : CSt} {w : MSt} (ho : o = some (.inr (k, C2))) (hz : z = some w) (hk : k ∈ ks) (h0 : w.1 0 0 = cm k) (hR : R C2 w) : StV ks cm R o z :=
  ⟨_, w, ho, hz, fun C' e => (by cases e), fun k' C' e => by cases e; exact ⟨hk, h0, hR⟩⟩
/-! ===== what arguments may be ===== -/
theorem p_isRoot (n : Nat) (M : MSt) {i : Nat} (h : i < 8) : m_X8_isRoot n M (nI i) = some 1 := by
  unfold m_X8_isRoot
  rw [if_neg (nI_pos (by omega))]
  exact if_neg (nI_ge h (by decide))
theorem p_isRoot0 (n : Nat) (M : MSt) {x : Int32} (h : x < 0 ∨ nI 8 ≤ x) : m_X8_isRoot n M x = some 0 := by
  unfold m_X8_isRoot
  by_cases h0 : x < 0
  · rw [if_pos h0]
  · rw [if_neg h0]
    rcases h with h | h
    · exact absurd h h0
    · exact if_pos h
theorem p_isName (n : Nat) (M : MSt) {i : Nat} (h : i < 10) : m_X8_isName n M (nI i) = some 1 := by
  unfold m_X8_isName
  rw [if_neg (nI_pos (by omega))]
  exact if_neg (nI_ge h (by decide))
theorem p_isName0 (n : Nat) (M : MSt) {x : Int32} (h : x < 0 ∨ nI 10 ≤ x) : m_X8_isName n M x = some 0 := by
  unfold m_X8_isName
  by_cases h0 : x < 0
  · rw [if_pos h0]
  · rw [if_neg h0]
    rcases h with h | h
    · exact absurd h h0
    · exact if_pos h
theorem p_isClass (n : Nat) {M : MSt} {K : Nat} (hK : M.1 1 0 = nI K) (hK4 : K ≤ 4) {i : Nat} (h : i < K) : m_X8_isClass n M (nI i) = some 1 := by
  unfold m_X8_isClass
  rw [if_neg (nI_pos (by omega)), hK, if_neg (nI_ge h (by omega))]
theorem p_isClass0 (n : Nat) {M : MSt} {K : Nat} (hK : M.1 1 0 = nI K) {x : Int32} (h : x < 0 ∨ nI K ≤ x) : m_X8_isClass n M x = some 0 := by
  unfold m_X8_isClass
  by_cases h0 : x < 0
  · rw [if_pos h0]
  · rw [if_neg h0, hK]
    rcases h with h | h
    · exact absurd h h0
    · exact if_pos h
theorem q_needRoot (n : Nat) (S : CSt) {i : Nat} (h : i < 8) : m_X7_needRoot n S (nI i) = some (.inl ()) := by
  unfold m_X7_needRoot
  rw [if_neg (nI_pos (by omega))]
  exact if_pos (nI_lt h (by decide))
theorem q_needRoot0 (n : Nat) (S : CSt) {x : Int32} (h : x < 0 ∨ nI 8 ≤ x) : m_X7_needRoot n S x = some (.inr (1, S)) := by
  unfold m_X7_needRoot
  by_cases h0 : x < 0
  · rw [if_pos h0]
  · rw [if_neg h0]
    rcases h with h | h
    · exact absurd h h0
    · exact if_neg (fun h2 => Int32.not_lt.mpr h h2)
theorem q_isName (n : Nat) (S : CSt) {i : Nat} (h : i < 10) : m_X7_isName n S (nI i) = some 1 := by
  unfold m_X7_isName
  rw [if_neg (nI_pos (by omega))]
  exact if_neg (nI_ge h (by decide))
theorem q_isName0 (n : Nat) (S : CSt) {x : Int32} (h : x < 0 ∨ nI 10 ≤ x) : m_X7_isName n S x = some 0 := by
  unfold m_X7_isName
  by_cases h0 : x < 0
  · rw [if_pos h0]
  · rw [if_neg h0]
    rcases h with h | h
    · exact absurd h h0
    · exact if_pos h
theorem one_ne : ¬ (1 : Int32) = 0 := by decide
theorem q_needName (n : Nat) (S : CSt) {i : Nat} (h : i < 10) : m_X7_needName n S (nI i) = some (.inl ()) := by
  unfold m_X7_needName
  rw [q_isName n S h, Option.bind_some, if_pos one_ne]
theorem q_needName0 (n : Nat) (S : CSt) {x : Int32} (h : x < 0 ∨ nI 10 ≤ x) : m_X7_needName n S x = some (.inr (1, S)) := by
  unfold m_X7_needName
  rw [q_isName0 n S h, Option.bind_some, if_neg (fun h => h rfl)]
theorem q_isClass (n : Nat) {S : CSt} {K : Nat} (hK : S.1 0 0 0 = nI K) (hK4 : K ≤ 4) {i : Nat} (h : i < K) : m_X7_isClass n S (nI i) = some 1 := by
  unfold m_X7_isClass
  rw [if_neg (nI_pos (by omega)), hK, if_neg (nI_ge h (by omega))]
theorem q_isClass0 (n : Nat) {S : CSt} {K : Nat} (hK : S.1 0 0 0 = nI K) {x : Int32} (h : x < 0 ∨ nI K ≤ x) : m_X7_isClass n S x = some 0 := by
  unfold m_X7_isClass
  by_cases h0 : x < 0
  · rw [if_pos h0]
  · rw [if_neg h0, hK]
    rcases h with h | h
    · exact absurd h h0
    · exact if_pos h
theorem q_needClass (n : Nat) {S : CSt} {K : Nat} (hK : S.1 0 0 0 = nI K) (hK4 : K ≤ 4) {i : Nat} (h : i < K) : m_X7_needClass n S (nI i) = some (.inl ()) := by
  unfold m_X7_needClass
  rw [q_isClass n hK hK4 h, Option.bind_some, if_pos one_ne]
theorem q_needClass0 (n : Nat) {S : CSt} {K : Nat} (hK : S.1 0 0 0 = nI K) {x : Int32} (h : x < 0 ∨ nI K ≤ x) : m_X7_needClass n S x = some (.inr (1, S)) := by
  unfold m_X7_needClass
  rw [q_isClass0 n hK h, Option.bind_some, if_neg (fun h => h rfl)]
/-! ===== a record by its id ===== -/
theorem tr_m1 (σ : Nat → Nat) (s13 : Nat → Nat → Int32) : tr σ s13 (-1) = 0 := if_pos m1_lt
theorem tr_nI (σ : Nat → Nat) (s13 : Nat → Nat → Int32) {p : Nat} (h : p < 24) : tr σ s13 (nI p) = s13 (σ p) 0 := by
  unfold tr
  rw [if_neg (nI_pos (by omega)), nI_clamp (by omega)]
theorem q_first {n : Nat} {S : CSt} {x : Int32} (hn : 24 < n) : m_X6_firstWithId n S x = some none ∧ (∀ e, e < 24 → S.1 13 e 0 ≠ x) ∨ ∃ e, e < 24 ∧ S.1 13 e 0 = x ∧ (∀ e', e' < e → S.1 13 e' 0 ≠ x) ∧ m_X6_firstWithId n S x = some (some e) := by
  have h : Ok (lpO (b_X6_firstWithId_2 n S x) n 0) (sumE (fun w => ∃ e, e < 24 ∧ w = nI e ∧ S.1 13 e 0 = x ∧ ∀ e', e' < e → S.1 13 e' 0 ≠ x) (fun _ => ∀ e, e < 24 → S.1 13 e 0 ≠ x)) := by
    refine ok_for1 (N := 24) hn (I := fun k => ∀ e, e < k → S.1 13 e 0 ≠ x) (fun k hk hi => ?_) (fun e he => absurd he (Nat.not_lt_zero _))
    unfold b_X6_firstWithId_2
    rw [Ok_ite]
    refine ⟨fun h => ?_, fun h => ?_⟩
    · rw [Ok_some]
      have hk2 : k = 24 := by
        have := (nI_leI (a := 24) (b := k) (by decide) (by omega)).mp h
        omega
      intro e he
      exact hi e (by omega)
    · have hk2 : k < 24 := Nat.not_le.mp (fun q => h (nI_le q (by omega)))
      rw [Ok_bif, nI_clamp (by omega), Ok_ite]
      refine ⟨inB_nI hk2 (by omega), fun h2 => ?_, fun h2 => ?_⟩
      · rw [Ok_nm, Ok_some, nI_1]
        refine ⟨hk2, rfl, fun e he => ?_⟩
        rcases Nat.lt_succ_iff_lt_or_eq.mp he with h4 | h4
        · exact hi e h4
        · rw [h4]; exact h2
      · rw [Ok_some]
        exact ⟨k, hk2, rfl, Decidable.not_not.mp h2, hi⟩
  obtain ⟨o, ho, hq⟩ := h
  unfold m_X6_firstWithId
  rw [ho]
  cases o with
  | inl w =>
    obtain ⟨e, h1, h2, h3, h4⟩ := hq
    refine Or.inr ⟨e, h1, h3, h4, ?_⟩
    show (bif inB w 24 then some (some w.toNatClampNeg) else none) = _
    rw [h2, inB_nI h1 (by omega), nI_clamp (by omega)]
    rfl
  | inr w => exact Or.inl ⟨rfl, hq⟩
theorem q_find0 {n : Nat} {S : CSt} : m_X6_find n S 0 = some none := if_neg (fun h => h rfl)
theorem q_findN {n : Nat} {S : CSt} {x : Int32} (hn : 24 < n) (h : ∀ e, e < 24 → S.1 13 e 0 ≠ 0 → S.1 13 e 0 ≠ x) : m_X6_find n S x = some none := by
  by_cases h0 : x = 0
  · rw [h0]; exact q_find0
  · unfold m_X6_find
    rw [if_pos h0]
    rcases q_first (n := n) (S := S) (x := x) hn with ⟨h1, h2⟩ | ⟨e, h1, h2, h3, h4⟩
    · rw [h1]; rfl
    · exact absurd h2 (h e h1 (fun h5 => h0 (h2.symm.trans h5)))
theorem q_findS {n : Nat} {S : CSt} {e : Nat} (hn : 24 < n) (he : e < 24) (h0 : S.1 13 e 0 ≠ 0) (hd : ∀ e', e' < 24 → S.1 13 e' 0 ≠ 0 → ∀ e'', e'' < 24 → S.1 13 e' 0 = S.1 13 e'' 0 → e' = e'') : m_X6_find n S (S.1 13 e 0) = some (some e) := by
  unfold m_X6_find
  rw [if_pos h0]
  rcases q_first (n := n) (S := S) (x := S.1 13 e 0) hn with ⟨h1, h2⟩ | ⟨e2, h1, h2, h3, h4⟩
  · exact absurd rfl (h2 e he)
  · have h5 : e = e2 := hd e he h0 e2 h1 h2.symm
    subst h5
    rw [h4]
    show (bif decide (e < 24) then some (some e) else none) = _
    rw [decide_eq_true he]
    rfl
/-! ===== the reference's code ===== -/
theorem code0 {α : Type} {M : MSt} {A B : MSt → Option α} : nm (mI M 0 0 0) (fun S => if S.1 0 0 ≤ 0 then A S else B S) = A (mI M 0 0 0) := if_pos (e := B (mI M 0 0 0)) (show (0 : Int32) ≤ 0 by decide)
theorem codeX {α : Type} {M : MSt} {A B : MSt → Option α} {y : Int32} (hy : ¬ y ≤ 0) : nm (mI M 0 0 y) (fun S => if S.1 0 0 ≤ 0 then A S else B S) = B (mI M 0 0 y) := if_neg (show ¬ y ≤ 0 from hy)
theorem code0e {α : Type} {M : MSt} {A B : MSt → Option α} : nm (mI M 0 0 0) (fun S => if ¬ S.1 0 0 = 0 then A S else B S) = B (mI M 0 0 0) := if_neg (t := A (mI M 0 0 0)) (show ¬ ¬ (0 : Int32) = 0 by decide)
theorem codeXe {α : Type} {M : MSt} {A B : MSt → Option α} {y : Int32} (hy : ¬ y = 0) : nm (mI M 0 0 y) (fun S => if ¬ S.1 0 0 = 0 then A S else B S) = A (mI M 0 0 y) := if_pos (show ¬ y = 0 from hy)
