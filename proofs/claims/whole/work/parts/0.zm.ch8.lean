theorem DE_frV {S S' : CSt} {T : MSt} {m : Nat} (hDE : DE S T m) (hF : FrV S S') : DE S' T m := by
  refine ⟨hDE.1, by rw [hF 5 (by omega) (by omega)]; exact hDE.2.1, hDE.2.2.1, fun k hk => ?_⟩
  rw [hF 6 (by omega) (by omega), hF 7 (by omega) (by omega), hF 8 (by omega) (by omega), hF 9 (by omega) (by omega), hF 10 (by omega) (by omega)]
  exact hDE.2.2.2 k hk
def cA (S : CSt) (m : Nat) (x1 x2 x3 x4 : Int32) : CSt := sI (sI (sI (sI (sI (sI S 6 8 m x1) 7 8 m x2) 8 8 m x3) 9 8 m x4) 10 8 m (-1)) 5 8 0 (nI (m + 1))
theorem DE_app {S : CSt} {T T' : MSt} {m : Nat} {x1 x2 x3 x4 : Int32} (h : DE S T m) (hm : m < 6) (e28 : T'.1 28 0 = nI (m + 1)) (e29 : ∀ k, T'.1 29 k = if k = m then x1 else T.1 29 k) (e30 : ∀ k, T'.1 30 k = if k = m then x2 else T.1 30 k) (e31 : ∀ k, T'.1 31 k = if k = m then x3 else T.1 31 k) (e32 : ∀ k, T'.1 32 k = if k = m then x4 else T.1 32 k) (e33 : ∀ k, T'.1 33 k = if k = m then -1 else T.1 33 k) : DE (cA S m x1 x2 x3 x4) T' (m + 1) ∧ FrD S (cA S m x1 x2 x3 x4) := by
  refine ⟨⟨by omega, sI_eq _ _ _ _ _, e28, fun k hk => ?_⟩, fun g hg => ?_, fun g j hg1 hg2 hj => ?_⟩
  · rw [e29, e30, e31, e32, e33]
    have c6 : (cA S m x1 x2 x3 x4).1 6 8 k = if k = m then x1 else S.1 6 8 k := by
      show (sI S 6 8 m x1).1 6 8 k = _
      rw [sI_at]; by_cases e : k = m <;> simp [e]
    have c7 : (cA S m x1 x2 x3 x4).1 7 8 k = if k = m then x2 else S.1 7 8 k := by
      show (sI (sI S 6 8 m x1) 7 8 m x2).1 7 8 k = _
      rw [sI_at]; by_cases e : k = m
      · simp [e]
      · simp [e]; rfl
    have c8 : (cA S m x1 x2 x3 x4).1 8 8 k = if k = m then x3 else S.1 8 8 k := by
      show (sI (sI (sI S 6 8 m x1) 7 8 m x2) 8 8 m x3).1 8 8 k = _
      rw [sI_at]; by_cases e : k = m
      · simp [e]
      · simp [e]; rfl
    have c9 : (cA S m x1 x2 x3 x4).1 9 8 k = if k = m then x4 else S.1 9 8 k := by
      show (sI (sI (sI (sI S 6 8 m x1) 7 8 m x2) 8 8 m x3) 9 8 m x4).1 9 8 k = _
      rw [sI_at]; by_cases e : k = m
      · simp [e]
      · simp [e]; rfl
    have c10 : (cA S m x1 x2 x3 x4).1 10 8 k = if k = m then -1 else S.1 10 8 k := by
      show (sI (sI (sI (sI (sI S 6 8 m x1) 7 8 m x2) 8 8 m x3) 9 8 m x4) 10 8 m (-1)).1 10 8 k = _
      rw [sI_at]; by_cases e : k = m
      · simp [e]
      · simp [e]; rfl
    rw [c6, c7, c8, c9, c10]
    by_cases e : k = m
    · simp [e]
    · rw [if_neg e, if_neg e, if_neg e, if_neg e, if_neg e, if_neg e, if_neg e, if_neg e, if_neg e, if_neg e]
      exact h.2.2.2 k (by omega)
  · funext j l
    unfold cA
    rw [sI_at, if_neg (by omega), sI_at, if_neg (by omega), sI_at, if_neg (by omega), sI_at, if_neg (by omega), sI_at, if_neg (by omega), sI_at, if_neg (by omega)]
  · funext l
    unfold cA
    rw [sI_at, if_neg (fun h => hj h.2.1), sI_at, if_neg (fun h => hj h.2.1), sI_at, if_neg (fun h => hj h.2.1), sI_at, if_neg (fun h => hj h.2.1), sI_at, if_neg (fun h => hj h.2.1), sI_at, if_neg (fun h => hj h.2.1)]
theorem q_put {n : Nat} {S : CSt} {e k : Nat} {v : Int32} (hk : k < 6) : m_X0_put n S e (nI k) v = some (sI S 17 e k v) := by
  unfold m_X0_put
  rw [if_neg (nI_pos (by omega)), if_neg (show ¬ 6 ≤ nI k from nI_ge hk (by decide)), inB_nI hk (by omega), nI_clamp (by omega)]
  rfl
/-! references -/
theorem B_ref {n i m K : Nat} {S : CSt} {T : MSt} {xc rec : Int32} (hn : 6 < n) (h : DE S T m) (hSh : Sh K m (T.1 29) (T.1 30) (T.1 31) (T.1 32)) (h22 : S.1 22 i 0 = 4) : (((∀ k, k < m → T.1 29 k ≠ S.1 23 i 0) ∧ m < 6) → m_X7_canDo n S i xc rec = some (1, S)) ∧ (¬ ((∀ k, k < m → T.1 29 k ≠ S.1 23 i 0) ∧ m < 6) → m_X7_canDo n S i xc rec = some (0, S)) := by
  unfold m_X7_canDo
  have hm6 := h.1
  rw [q_place8 hn h hSh, Option.bind_some, h22, if_neg (by decide), if_neg (by decide), if_neg (by decide), if_neg (by decide), if_pos rfl]
  rcases plc_nn (f := T.1 29) (x := S.1 23 i 0) h.1 with ⟨h1, h2⟩ | ⟨k0, hk0, h1, h2, h3, h4⟩
  · rw [h1, if_neg (fun h => h rfl), h.2.1]
    by_cases h6 : m < 6
    · rw [if_neg (show ¬ 6 ≤ nI m from nI_ge h6 (by decide))]
      exact ⟨fun _ => rfl, fun hno => absurd ⟨h2, h6⟩ hno⟩
    · have e : m = 6 := by omega
      subst e
      rw [if_pos (show (6 : Int32) ≤ nI 6 by decide)]
      exact ⟨fun hy => absurd hy.2 h6, fun _ => rfl⟩
  · rw [if_pos h3]
    exact ⟨fun hy => absurd h2 (hy.1 k0 hk0), fun _ => rfl⟩
theorem R_ref {n i m K : Nat} {S : CSt} {T T' : MSt} (hn : 6 < n) (h : DE S T m) (hSh : Sh K m (T.1 29) (T.1 30) (T.1 31) (T.1 32)) (hm : m < 6) (h22 : S.1 22 i 0 = 4) (e28 : T'.1 28 0 = nI (m + 1)) (e29 : ∀ k, T'.1 29 k = if k = m then S.1 23 i 0 else T.1 29 k) (e30 : ∀ k, T'.1 30 k = if k = m then 1 else T.1 30 k) (e31 : ∀ k, T'.1 31 k = if k = m then S.1 24 i 0 else T.1 31 k) (e32 : ∀ k, T'.1 32 k = if k = m then S.1 24 i 0 else T.1 32 k) (e33 : ∀ k, T'.1 33 k = if k = m then -1 else T.1 33 k) : Ok (m_X7_reshape n S i) (fun S' => DE S' T' (m + 1) ∧ FrD S S') := by
  unfold m_X7_reshape
  rw [q_place8 hn h hSh, Ok_bind, Ok_some, h22, if_neg (by decide), if_neg (by decide), if_neg (by decide), if_neg (by decide), if_pos rfl, q_append hm h.2.1, Ok_bind, Ok_some, Ok_some]
  exact DE_app h hm e28 e29 e30 e31 e32 e33
theorem C_ref {n i j K : Nat} {B T T' : MSt} {D S : CSt} {σ : Nat → Nat} {c m0 m L1 : Nat} (hn : 24 < n) (hM : JM K B T c m0 m) (h : JC j K B D σ c m0 S T m L1) (hc : c < 4) (hm : m < 6) (h22 : S.1 22 i 0 = 4) (fr : ∀ g, g < 28 ∨ (34 < g ∧ g < 40) → T'.1 g = T.1 g) (e28 : T'.1 28 0 = nI (m + 1)) (e29 : ∀ k, T'.1 29 k = if k = m then S.1 23 i 0 else T.1 29 k) (e30 : ∀ k, T'.1 30 k = if k = m then 1 else T.1 30 k) (e31 : ∀ k, T'.1 31 k = if k = m then S.1 24 i 0 else T.1 31 k) (e32 : ∀ k, T'.1 32 k = if k = m then S.1 24 i 0 else T.1 32 k) (e33 : ∀ k, T'.1 33 k = if k = m then -1 else T.1 33 k) (e34 : ∀ r k, r < 24 → k < 6 → r6 (T'.1 34) r k = if k = m then -1 else r6 (T.1 34) r k) : Ok (m_X7_moveAll n S i (nI c)) (fun S1 => Ok (m_X7_reshape n S1 i) (fun S' => JC j K B D σ c m0 S' T' (m + 1) L1)) := by
  have hSh := JM_sh hM hc
  have hDE : DE S T m := h.choose_spec.choose_spec.choose_spec.2.2.1
  refine ok_mono (q_moveAll (P := fun e row => ∀ k, row k = if k = m then 0 else S.1 17 e k) hn (fun S' e he hC hF h17 => ?_)) (fun S1 hS1 => ?_)
  · unfold m_X7_move
    have hDE' := DE_frV hDE hF
    rw [q_place8 (by omega) hDE' hSh, Ok_bind, Ok_some, hF 22 (by omega) (by omega), h22, if_neg (by decide), if_neg (by decide), if_neg (by decide), if_neg (by decide), if_pos rfl, hDE'.2.1, q_put hm, Ok_bind, Ok_some, Ok_some]
    refine ⟨fun g g1 g2 => ?_, fun e' he' => ?_, fun k => ?_⟩
    · have : (sI S' 17 e m 0).1 g = S'.1 g := by
        funext j l
        rw [sI_at, if_neg (fun h => g1 h.1)]
      rw [this]
      exact hF g g1 g2
    · rw [sI_ne _ _ _ _ _ he']
    · rw [sI_at]
      by_cases e1 : k = m
      · rw [if_pos ⟨rfl, rfl, e1⟩, if_pos e1]
      · rw [if_neg (fun h => e1 h.2.2), if_neg e1, h17]
  · obtain ⟨hF, hP, h17⟩ := hS1
    have hDE' := DE_frV hDE hF
    have g23 := hF 23 (by omega) (by omega)
    have g24 := hF 24 (by omega) (by omega)
    refine ok_mono (R_ref (T' := T') (by omega) hDE' hSh hm (by rw [hF 22 (by omega) (by omega)]; exact h22) e28 (by rw [g23]; exact e29) e30 (by rw [g24]; exact e31) (by rw [g24]; exact e32) e33) (fun S' hS' => ?_)
    obtain ⟨hd', hfr'⟩ := hS'
    refine JC_reshape hM h hc fr hd' (fun g hg g1 g2 => by rw [hfr'.1 g hg]; exact hF g g1 g2) (fun g i hg1 hg2 hi => by rw [hfr'.2 g i hg1 hg2 hi, hF g (by omega) (by omega)]) (fun e he => by rw [hfr'.1 17 (by omega)]; exact h17 e he) (fun r k hr h14 hk hnum f hf0 hf => ?_)
    obtain ⟨q1, q2⟩ := JC_isC hM h hc hr h14
    rw [hfr'.1 17 (by omega), hP (σ r) q1 q2 k, e30 k, e34 r k hr (by omega)]
    by_cases e1 : k = m
    · rw [if_pos e1, if_pos e1, if_pos e1, if_neg (by decide), hf0]
    · rw [if_neg e1, if_neg e1, if_neg e1]
      by_cases e0 : T.1 30 k = 0
      · rw [if_pos e0]
        have := hnum k (by omega)
        rw [if_pos e0] at this
        exact this
      · rw [if_neg e0]
        exact hf k (by omega) e0
/-! ranges -/
theorem near_cut {v b d : Int32} (h : b ≤ d) : (if b < (if v < d then v else d) then (if v < d then v else d) else b) = cut v b d := by
  unfold cut
  by_cases h1 : v < d
  · rw [if_pos h1]
    by_cases h2 : b < v
    · rw [if_pos h2, if_pos (Int32.le_of_lt h2), if_pos (Int32.le_of_lt h1)]
    · rw [if_neg h2]
      by_cases h3 : b ≤ v
      · rw [if_pos h3, if_pos (Int32.le_of_lt h1)]
        exact Int32.le_antisymm h3 (Int32.not_lt.mp h2)
      · rw [if_neg h3]
  · rw [if_neg h1]
    have hdv := Int32.not_lt.mp h1
    rw [if_pos (Int32.le_trans h hdv)]
    by_cases h2 : b < d
    · rw [if_pos h2]
      by_cases h3 : v ≤ d
      · rw [if_pos h3]; exact Int32.le_antisymm hdv h3
      · rw [if_neg h3]
    · rw [if_neg h2]
      have e : b = d := Int32.le_antisymm h (Int32.not_lt.mp h2)
      by_cases h3 : v ≤ d
      · rw [if_pos h3, e]; exact Int32.le_antisymm hdv h3
      · rw [if_neg h3]; exact e
theorem q_within {n : Nat} {S : CSt} {m k : Nat} {b d : Int32} (h6 : m ≤ 6) (hm : S.1 5 8 0 = nI m) (hk : k < m) : m_X4_rangeIsWithin n S 8 (nI k) b d = some (if b ≤ S.1 8 8 k ∧ S.1 9 8 k ≤ d then 1 else 0) := by
  unfold m_X4_rangeIsWithin
  rw [q_isThere h6 hm hk, Option.bind_some, if_neg one_ne, inB_nI (by omega : k < 6) (by omega), nI_clamp (by omega), cond_true, cond_true]
  by_cases h1 : S.1 8 8 k < b
  · rw [if_pos h1, if_neg (fun h => Int32.not_lt.mpr h.1 h1)]
  · rw [if_neg h1]
    by_cases h2 : d < S.1 9 8 k
    · rw [if_pos h2, if_neg (fun h => Int32.not_lt.mpr h.2 h2)]
    · rw [if_neg h2, if_pos ⟨Int32.not_lt.mp h1, Int32.not_lt.mp h2⟩]
theorem B_range {n i m K : Nat} {S : CSt} {T : MSt} {xc rec : Int32} (hn : 6 < n) (h : DE S T m) (hSh : Sh K m (T.1 29) (T.1 30) (T.1 31) (T.1 32)) (h22 : S.1 22 i 0 = 3) : ((∃ k0, k0 < m ∧ T.1 29 k0 = S.1 23 i 0 ∧ T.1 30 k0 = 0 ∧ (S.1 26 i 0 = 1 ∨ (S.1 24 i 0 ≤ T.1 31 k0 ∧ T.1 32 k0 ≤ S.1 25 i 0))) → m_X7_canDo n S i xc rec = some (1, S)) ∧ ((¬ ∃ k0, k0 < m ∧ T.1 29 k0 = S.1 23 i 0 ∧ T.1 30 k0 = 0 ∧ (S.1 26 i 0 = 1 ∨ (S.1 24 i 0 ≤ T.1 31 k0 ∧ T.1 32 k0 ≤ S.1 25 i 0))) → m_X7_canDo n S i xc rec = some (0, S)) := by
  unfold m_X7_canDo
  have hm6 := h.1
  rw [q_place8 hn h hSh, Option.bind_some, h22, if_neg (by decide), if_neg (by decide), if_neg (by decide), if_pos rfl]
  rcases plc_nn (f := T.1 29) (x := S.1 23 i 0) h.1 with ⟨h1, h2⟩ | ⟨k0, hk0, h1, h2, h3, h4⟩
  · rw [h1, q_isNumber0]
    exact ⟨fun ⟨k, k1, k2, _⟩ => absurd k2 (h2 k k1), fun _ => rfl⟩
  · obtain ⟨a1, a2, a3, a4, a5⟩ := h.2.2.2 k0 hk0
    have uq : ∀ {k}, k < m → T.1 29 k = S.1 23 i 0 → k = k0 := fun {k} hk e => hSh.2.1 k hk k0 hk0 (e.trans h2.symm)
    rw [h1, q_isNumber hm6 h.2.1 hk0, Option.bind_some, a2, q_within hm6 h.2.1 hk0, Option.bind_some, a3, a4]
    by_cases h5 : T.1 30 k0 = 0
    · rw [if_pos h5, if_neg one_ne]
      by_cases h6 : S.1 26 i 0 = 1
      · rw [if_pos h6]
        exact ⟨fun _ => rfl, fun hno => absurd ⟨k0, hk0, h2, h5, Or.inl h6⟩ hno⟩
      · rw [if_neg h6]
        by_cases h7 : S.1 24 i 0 ≤ T.1 31 k0 ∧ T.1 32 k0 ≤ S.1 25 i 0
        · rw [if_pos h7, if_neg one_ne]
          exact ⟨fun _ => rfl, fun hno => absurd ⟨k0, hk0, h2, h5, Or.inr h7⟩ hno⟩
        · rw [if_neg h7, if_pos rfl]
          refine ⟨fun ⟨k, k1, k2, k3, k4⟩ => ?_, fun _ => rfl⟩
          rw [uq k1 k2] at k4
          rcases k4 with k4 | k4
          · exact absurd k4 h6
          · exact absurd k4 h7
    · rw [if_neg h5, if_pos rfl]
      refine ⟨fun ⟨k, k1, k2, k3, k4⟩ => ?_, fun _ => rfl⟩
      rw [uq k1 k2] at k3
      exact absurd k3 h5
theorem R_range {n i m K k0 : Nat} {S : CSt} {T T' : MSt} (hn : 6 < n) (h : DE S T m) (hSh : Sh K m (T.1 29) (T.1 30) (T.1 31) (T.1 32)) (h22 : S.1 22 i 0 = 3) (hk0 : k0 < m) (ha : T.1 29 k0 = S.1 23 i 0) (e28 : T'.1 28 0 = nI m) (e29 : T'.1 29 = T.1 29) (e30 : T'.1 30 = T.1 30) (e31 : ∀ k, T'.1 31 k = if k = k0 then S.1 24 i 0 else T.1 31 k) (e32 : ∀ k, T'.1 32 k = if k = k0 then S.1 25 i 0 else T.1 32 k) (e33 : T'.1 33 = T.1 33) : Ok (m_X7_reshape n S i) (fun S' => DE S' T' m ∧ FrD S S') := by
  unfold m_X7_reshape
  have hm6 := h.1
  rw [q_place8 hn h hSh, Ok_bind, Ok_some, plc_eq hSh.2.1 hk0 ha, h22, if_neg (by decide), if_neg (by decide), if_neg (by decide), if_pos rfl]
  have hr : m_X4_setRange n S 8 (nI k0) (S.1 24 i 0) (S.1 25 i 0) = some (sI (sI S 8 8 k0 (S.1 24 i 0)) 9 8 k0 (S.1 25 i 0)) := by
    unfold m_X4_setRange
    rw [q_isThere h.1 h.2.1 hk0, Option.bind_some, if_neg one_ne, inB_nI (by omega : k0 < 6) (by omega), nI_clamp (by omega)]
    rfl
  rw [hr, Ok_bind, Ok_some, Ok_some]
  refine ⟨⟨h.1, h.2.1, e28, fun k hk => ?_⟩, fun g hg => ?_, fun g j hg1 hg2 hj => ?_⟩
  · obtain ⟨a1, a2, a3, a4, a5⟩ := h.2.2.2 k hk
    rw [e29, e30, e31, e32, e33]
    refine ⟨a1, a2, ?_, ?_, a5⟩
    · show (sI S 8 8 k0 (S.1 24 i 0)).1 8 8 k = _
      rw [sI_at]
      by_cases e : k = k0
      · rw [if_pos ⟨rfl, rfl, e⟩, if_pos e]
      · rw [if_neg (fun h => e h.2.2), if_neg e]; exact a3
    · rw [sI_at]
      by_cases e : k = k0
      · rw [if_pos ⟨rfl, rfl, e⟩, if_pos e]
      · rw [if_neg (fun h => e h.2.2), if_neg e]; exact a4
  · funext j l
    rw [sI_at, if_neg (by omega), sI_at, if_neg (by omega)]
  · funext l
    rw [sI_at, if_neg (fun h => hj h.2.1), sI_at, if_neg (fun h => hj h.2.1)]
theorem C_range {n i j K k0 : Nat} {B T : MSt} {D S : CSt} {σ : Nat → Nat} {c m0 m L1 : Nat} (hn : 24 < n) (hM : JM K B T c m0 m) (h : JC j K B D σ c m0 S T m L1) (hc : c < 4) (h22 : S.1 22 i 0 = 3) (hk0 : k0 < m) (ha : T.1 29 k0 = S.1 23 i 0) (hk : T.1 30 k0 = 0) (hbd : S.1 24 i 0 ≤ S.1 25 i 0) : Ok (m_X7_moveAll n S i (nI c)) (fun S1 => Ok (m_X7_reshape n S1 i) (fun S' => JC j K B D σ c m0 S' (rgM T c k0 (S.1 24 i 0) (S.1 25 i 0)) m L1)) := by
  have hSh := JM_sh hM hc
  have hDE : DE S T m := h.choose_spec.choose_spec.choose_spec.2.2.1
  have hm6 := hDE.1
  refine ok_mono (q_moveAll (P := fun e row => ∀ k, row k = if k = k0 then cut (S.1 17 e k0) (S.1 24 i 0) (S.1 25 i 0) else S.1 17 e k) hn (fun S' e he hC hF h17 => ?_)) (fun S1 hS1 => ?_)
  · unfold m_X7_move
    have hDE' := DE_frV hDE hF
    rw [q_place8 (by omega) hDE' hSh, Ok_bind, Ok_some, hF 23 (by omega) (by omega), plc_eq hSh.2.1 hk0 ha, hF 22 (by omega) (by omega), h22, if_neg (by decide), if_neg (by decide), if_neg (by decide), if_pos rfl, if_neg (nI_ne_m1 (by omega)), Ok_bif, nI_clamp (by omega)]
    refine ⟨inB_nI (by omega) (by omega), ?_⟩
    unfold m_X7_nearest
    rw [Ok_bind, Ok_some, q_put (by omega), Ok_bind, Ok_some, Ok_some, hF 24 (by omega) (by omega), hF 25 (by omega) (by omega), near_cut hbd, h17]
    refine ⟨fun g g1 g2 => ?_, fun e' he' => ?_, fun k => ?_⟩
    · have : (sI S' 17 e k0 (cut (S.1 17 e k0) (S.1 24 i 0) (S.1 25 i 0))).1 g = S'.1 g := by
        funext j l
        rw [sI_at, if_neg (fun h => g1 h.1)]
      rw [this]
      exact hF g g1 g2
    · rw [sI_ne _ _ _ _ _ he']
    · rw [sI_at]
      by_cases e1 : k = k0
      · rw [if_pos ⟨rfl, rfl, e1⟩, if_pos e1]
      · rw [if_neg (fun h => e1 h.2.2), if_neg e1, h17]
  · obtain ⟨hF, hP, h17⟩ := hS1
    have hDE' := DE_frV hDE hF
    have g24 := hF 24 (by omega) (by omega)
    have g25 := hF 25 (by omega) (by omega)
    have r31 : ∀ k, (rgM T c k0 (S.1 24 i 0) (S.1 25 i 0)).1 31 k = if k = k0 then S.1 24 i 0 else T.1 31 k := fun k => by
      show (mI T 31 k0 (S.1 24 i 0)).1 31 k = _
      rw [mI_at]
      by_cases e : k = k0
      · rw [if_pos ⟨rfl, e⟩, if_pos e]
      · rw [if_neg (fun h => e h.2), if_neg e]
    have r32 : ∀ k, (rgM T c k0 (S.1 24 i 0) (S.1 25 i 0)).1 32 k = if k = k0 then S.1 25 i 0 else T.1 32 k := fun k => by
      show (mI (mI T 31 k0 (S.1 24 i 0)) 32 k0 (S.1 25 i 0)).1 32 k = _
      rw [mI_at]
      by_cases e : k = k0
      · rw [if_pos ⟨rfl, e⟩, if_pos e]
      · rw [if_neg (fun h => e h.2), if_neg e]; rfl
    refine ok_mono (R_range (T' := rgM T c k0 (S.1 24 i 0) (S.1 25 i 0)) (by omega) hDE' hSh (by rw [hF 22 (by omega) (by omega)]; exact h22) hk0 (by rw [hF 23 (by omega) (by omega)]; exact ha) hDE.2.2.1 rfl rfl (by rw [g24]; exact r31) (by rw [g25]; exact r32) rfl) (fun S' hS' => ?_)
    obtain ⟨hd', hfr'⟩ := hS'
    refine JC_reshape hM h hc (fun g hg => ?_) hd' (fun g hg g1 g2 => by rw [hfr'.1 g hg]; exact hF g g1 g2) (fun g i hg1 hg2 hi => by rw [hfr'.2 g i hg1 hg2 hi, hF g (by omega) (by omega)]) (fun e he => by rw [hfr'.1 17 (by omega)]; exact h17 e he) (fun r k hr h14 hk1 hnum f hf0 hf => ?_)
    · funext l
      unfold rgM
      rw [mR_at2, if_neg (by omega), mI_at, if_neg (by omega), mI_at, if_neg (by omega)]
    · obtain ⟨q1, q2⟩ := JC_isC hM h hc hr h14
      have hT14 : T.1 14 r = nI c := (hM.2.2.2.2.2.2.1 r hr).mpr h14
      have r34 : r6 ((rgM T c k0 (S.1 24 i 0) (S.1 25 i 0)).1 34) r k = if k = k0 then cut (r6 (T.1 34) r k) (S.1 24 i 0) (S.1 25 i 0) else r6 (T.1 34) r k := by
        show (if 6 * r + k < 144 ∧ (6 * r + k) % 6 = k0 ∧ T.1 14 ((6 * r + k) / 6) = nI c then cut (T.1 34 (6 * r + k)) (S.1 24 i 0) (S.1 25 i 0) else T.1 34 (6 * r + k)) = _
        rw [show (6 * r + k) / 6 = r by omega, show (6 * r + k) % 6 = k by omega]
        by_cases e : k = k0
        · rw [if_pos e, if_pos ⟨by omega, e, hT14⟩]; rfl
        · rw [if_neg e, if_neg (fun h => e h.2.1)]; rfl
      rw [hfr'.1 17 (by omega), hP (σ r) q1 q2 k, r34]
      show _ = if T.1 30 k = 0 then _ else _
      by_cases e1 : k = k0
      · have hn0 := hnum k0 hk0
        rw [if_pos hk] at hn0
        rw [if_pos e1, if_pos e1, e1, if_pos hk, hn0]
      · rw [if_neg e1, if_neg e1]
        by_cases e0 : T.1 30 k = 0
        · rw [if_pos e0]
          have := hnum k hk1
          rw [if_pos e0] at this
          exact this
        · rw [if_neg e0]
          exact hf k hk1 e0
