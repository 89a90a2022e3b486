/-! ===== change: four kinds of step of the reference's ===== -/
theorem plc_nn {f : Nat → Int32} {x : Int32} {m : Nat} (h6 : m ≤ 6) : (plc f m x = -1 ∧ ∀ k, k < m → f k ≠ x) ∨ ∃ k, k < m ∧ plc f m x = nI k ∧ f k = x ∧ ¬ plc f m x = -1 ∧ ¬ plc f m x < 0 := by
  rcases plc_spec f x m with h | ⟨k, h1, h2, h3⟩
  · exact Or.inl h
  · exact Or.inr ⟨k, h1, h2, h3, by rw [h2]; exact nI_ne_m1 (by omega), by rw [h2]; exact nI_pos (by omega)⟩
theorem A_drop {n : Nat} {K : Nat} {B T : MSt} {c m0 m : Nat} {a : Int32} (hn : 24 < n) (h : JM K B T c m0 m) (hc : c < 4) (hm0 : m0 ≤ 6) : (m_X8_dropField n T a = some (0, T) ∧ ¬ ∃ k0, k0 < m ∧ T.1 29 k0 = a ∧ T.1 30 k0 ≠ 2) ∨ ∃ k0, k0 < m ∧ T.1 29 k0 = a ∧ T.1 30 k0 ≠ 2 ∧ m_X8_dropField n T a = some (1, tkF T k0 m (m - 1)) ∧ JM K B (tkF T k0 m (m - 1)) c m0 (m - 1) := by
  have hSh := JM_sh h hc
  obtain ⟨hM, hm6, hm, -⟩ := id h
  unfold m_X8_dropField
  rw [p_findDraft (by omega) hm6 hm, Option.bind_some]
  rcases plc_nn (f := T.1 29) (x := a) hm6 with ⟨h1, h2⟩ | ⟨k0, hk0, h1, h2, h3, h4⟩
  · rw [h1, if_pos m1_lt]
    exact Or.inl ⟨rfl, fun ⟨k, k1, k2, _⟩ => h2 k k1 k2⟩
  · rw [h1, if_neg (nI_pos (by omega)), inB_nI (by omega : k0 < 6) (by omega), nI_clamp (by omega)]
    by_cases h5 : T.1 30 k0 = 2
    · refine Or.inl ⟨?_, fun ⟨k, k1, k2, k3⟩ => ?_⟩
      · show (if ¬ T.1 30 k0 = 2 then _ else _) = _
        rw [if_neg (fun h => h h5)]
      · rw [hSh.2.1 k k1 k0 hk0 (k2.trans h2.symm)] at k3
        exact k3 h5
    · refine Or.inr ⟨k0, hk0, h2, h5, ?_, ?_⟩
      · show (if ¬ T.1 30 k0 = 2 then _ else _) = _
        rw [if_pos h5, p_takeField hn hm6 hm hk0]
        rfl
      · have rem := tkF_rem (T := T) hm6 hk0
        have rd : ∀ g k, 29 ≤ g → g ≤ 33 → k < m - 1 → (tkF T k0 m (m - 1)).1 g k = T.1 g (if k < k0 then k else k + 1) := fun g k hg1 hg2 hk => by
          rw [tkF_a _ _ _ _ _ _ hg1 hg2]
          by_cases e : k < k0
          · rw [if_pos e, if_neg (by omega)]
          · rw [if_neg e, if_pos (by omega)]
        have rv : ∀ r k, r < 24 → k < m - 1 → r6 ((tkF T k0 m (m - 1)).1 34) r k = r6 (T.1 34) r (if k < k0 then k else k + 1) := fun r k hr hk => by
          unfold r6
          show (if 6 * r + k < 144 ∧ k0 ≤ (6 * r + k) % 6 ∧ (6 * r + k) % 6 < m - 1 then T.1 34 (6 * r + k + 1) else T.1 34 (6 * r + k)) = _
          by_cases e : k < k0
          · rw [if_pos e, if_neg (by omega)]
          · rw [if_neg e, if_pos (by omega)]; rfl
        have hlt : ∀ {k}, k < m - 1 → (if k < k0 then k else k + 1) < m := fun {k} hk => by split <;> omega
        refine JM_reshape h hc hm0 (fun g hg => tkF_o _ _ _ _ _ (by omega)) rfl ⟨by omega, fun i hi i' hi' e => ?_, fun i hi => ?_⟩ (ψ := fun k => if k < k0 then k else k + 1) (fs := fun _ => False) (fun k hk => Or.inr ⟨fun h => h, hlt hk, rd 30 k (by omega) (by omega) hk, rd 33 k (by omega) (by omega) hk, fun _ => ⟨rd 31 k (by omega) (by omega) hk, fun r hr _ => rv r k hr hk⟩⟩) (fun k hk _ k2 hk2 _ e => ?_) (fun k r hk h0 hr h14 => ?_) (fun k hk h2' => ?_)
        · rw [rd 29 i (by omega) (by omega) hi, rd 29 i' (by omega) (by omega) hi'] at e
          have := hSh.2.1 _ (hlt hi) _ (hlt hi') e
          split at this <;> split at this <;> omega
        · rw [rd 29 i (by omega) (by omega) hi, rd 30 i (by omega) (by omega) hi, rd 31 i (by omega) (by omega) hi, rd 32 i (by omega) (by omega) hi]
          exact hSh.2.2 _ (hlt hi)
        · have e : (if k < k0 then k else k + 1) = (if k2 < k0 then k2 else k2 + 1) := e
          split at e <;> split at e <;> omega
        · rw [rd 30 k (by omega) (by omega) hk] at h0
          rw [rd 31 k (by omega) (by omega) hk, rd 32 k (by omega) (by omega) hk, rv r k hr hk]
          exact (JM_val h hc hr h14 (hlt hk)).1 h0
        · have hne : k ≠ k0 := fun e => h5 (by rw [← e]; exact h2')
          by_cases e : k < k0
          · exact ⟨k, by omega, fun h => h, if_pos e⟩
          · refine ⟨k - 1, by omega, fun h => h, ?_⟩
            show (if k - 1 < k0 then k - 1 else k - 1 + 1) = k
            rw [if_neg (by omega)]
            omega
theorem A_name {n : Nat} {K : Nat} {B T : MSt} {c m0 m y : Nat} {a : Int32} (hn : 24 < n) (h : JM K B T c m0 m) (hc : c < 4) (hm0 : m0 ≤ 6) (hy : y < 10) : (m_X8_nameField n T a (nI y) = some (0, T) ∧ ¬ ((∃ k0, k0 < m ∧ T.1 29 k0 = a) ∧ ∀ k, k < m → T.1 29 k ≠ nI y)) ∨ ∃ k0, k0 < m ∧ T.1 29 k0 = a ∧ (∀ k, k < m → T.1 29 k ≠ nI y) ∧ m_X8_nameField n T a (nI y) = some (1, mI T 29 k0 (nI y)) ∧ JM K B (mI T 29 k0 (nI y)) c m0 m := by
  have hSh := JM_sh h hc
  obtain ⟨hM, hm6, hm, -⟩ := id h
  unfold m_X8_nameField
  rw [p_findDraft (by omega) hm6 hm, Option.bind_some, p_findDraft (by omega) hm6 hm, Option.bind_some]
  rcases plc_nn (f := T.1 29) (x := a) hm6 with ⟨h1, h2⟩ | ⟨k0, hk0, h1, h2, h3, h4⟩
  · rw [h1, if_pos m1_lt]
    exact Or.inl ⟨rfl, fun ⟨⟨k, k1, k2⟩, _⟩ => h2 k k1 k2⟩
  · rw [h1, if_neg (nI_pos (by omega))]
    rcases plc_nn (f := T.1 29) (x := nI y) hm6 with ⟨g1, g2⟩ | ⟨k1, hk1, g1, g2, g3, g4⟩
    · rw [g1, if_pos m1_lt, inB_nI (by omega : k0 < 6) (by omega), nI_clamp (by omega)]
      refine Or.inr ⟨k0, hk0, h2, g2, rfl, ?_⟩
      have r29 : ∀ k, (mI T 29 k0 (nI y)).1 29 k = if k = k0 then nI y else T.1 29 k := fun k => by
        rw [mI_at]
        by_cases e : k = k0
        · rw [if_pos ⟨rfl, e⟩, if_pos e]
        · rw [if_neg (fun h => e h.2), if_neg e]
      have ro : ∀ g, g ≠ 29 → (mI T 29 k0 (nI y)).1 g = T.1 g := fun g hg => by
        funext l
        rw [mI_at, if_neg (fun h => hg h.1)]
      refine JM_reshape h hc hm0 (fun g hg => ro g (by omega)) hm ⟨hm6, fun i hi i' hi' e => ?_, fun i hi => ?_⟩ (ψ := fun k => k) (fs := fun _ => False) (fun k hk => Or.inr ⟨fun h => h, hk, rfl, rfl, fun _ => ⟨rfl, fun r hr _ => rfl⟩⟩) (fun k hk _ k2 hk2 _ e => e) (fun k r hk h0 hr h14 => (JM_val h hc hr h14 hk).1 h0) (fun k hk h2' => ⟨k, hk, fun h => h, rfl⟩)
      · rw [r29, r29] at e
        by_cases e1 : i = k0
        · by_cases e2 : i' = k0
          · rw [e1, e2]
          · rw [if_pos e1, if_neg e2] at e
            exact absurd e.symm (g2 i' hi')
        · by_cases e2 : i' = k0
          · rw [if_neg e1, if_pos e2] at e
            exact absurd e (g2 i hi)
          · rw [if_neg e1, if_neg e2] at e
            exact hSh.2.1 i hi i' hi' e
      · refine ⟨?_, (hSh.2.2 i hi).2⟩
        rw [r29]
        by_cases e1 : i = k0
        · rw [if_pos e1]; exact ⟨y, hy, rfl⟩
        · rw [if_neg e1]; exact (hSh.2.2 i hi).1
    · rw [g1, if_neg (nI_pos (by omega))]
      exact Or.inl ⟨rfl, fun ⟨_, q⟩ => q k1 hk1 g2⟩
/-! a column of the draft -/
theorem p_refCol {n : Nat} {T : MSt} {m : Nat} (hn : 24 < n) (h6 : m < 6) (hm : T.1 28 0 = nI (m + 1)) : lpO (b_X8_referenceField_15 n) n (T, 0) = some (mR T 34 (fun l => if l < 144 ∧ l % 6 = m then -1 else T.1 34 l)) := by
  refine ok_get (ok_for2 (N := 24) hn (I := fun r S => S = mR T 34 (fun l => if l < 6 * r ∧ l % 6 = m then -1 else T.1 34 l)) (fun r S hr hS => ?_) (mR_self T 34 (funext fun l => if_neg (fun h => by omega))))
  have e28 : S.1 28 0 = nI (m + 1) := by rw [hS]; exact hm
  unfold b_X8_referenceField_15
  dsimp only
  rw [e28, ix6, show 6 * r + (m + 1) = (6 * r + m) + 1 by omega, nI_pred, Ok_ite]
  refine ⟨fun h => ?_, fun h => ?_⟩
  · have e : r = 24 := ge_eq (by decide) hr h
    rw [Ok_some]
    subst e
    exact hS
  · have hr2 : r < 24 := nge_lt (by decide) hr h
    rw [Ok_bif, Ok_nm, Ok_nm, Ok_some, nI_clamp (by omega)]
    refine ⟨inB_nI (by omega) (by omega), hr2, nI_1 r, ?_⟩
    show mI S 34 (6 * r + m) (-1) = _
    rw [hS]
    refine mI_mR _ _ _ _ _ _ (fun l => ?_)
    by_cases e : l = 6 * r + m
    · rw [if_pos e, if_pos (by omega)]
    · rw [if_neg e]
      have : (l < 6 * (r + 1) ∧ l % 6 = m) ↔ (l < 6 * r ∧ l % 6 = m) := by omega
      simp only [this]
theorem dA_at {T : MSt} {m : Nat} {x1 x2 x3 x4 : Int32} : (∀ k, (dA T m x1 x2 x3 x4).1 29 k = if k = m then x1 else T.1 29 k) ∧ (∀ k, (dA T m x1 x2 x3 x4).1 30 k = if k = m then x2 else T.1 30 k) ∧ (∀ k, (dA T m x1 x2 x3 x4).1 31 k = if k = m then x3 else T.1 31 k) ∧ (∀ k, (dA T m x1 x2 x3 x4).1 32 k = if k = m then x4 else T.1 32 k) ∧ (∀ k, (dA T m x1 x2 x3 x4).1 33 k = if k = m then -1 else T.1 33 k) ∧ (dA T m x1 x2 x3 x4).1 28 0 = nI (m + 1) ∧ ∀ g, g < 28 ∨ 33 < g → (dA T m x1 x2 x3 x4).1 g = T.1 g := by
  refine ⟨fun k => ?_, fun k => ?_, fun k => ?_, fun k => ?_, fun k => ?_, mI_eq _ _ _ _, fun g hg => ?_⟩
  · show (mI T 29 m x1).1 29 k = _
    rw [mI_at]; by_cases e : k = m <;> simp [e]
  · show (mI (mI T 29 m x1) 30 m x2).1 30 k = _
    rw [mI_at]; by_cases e : k = m
    · simp [e]
    · simp [e]; rfl
  · show (mI (mI (mI T 29 m x1) 30 m x2) 31 m x3).1 31 k = _
    rw [mI_at]; by_cases e : k = m
    · simp [e]
    · simp [e]; rfl
  · show (mI (mI (mI (mI T 29 m x1) 30 m x2) 31 m x3) 32 m x4).1 32 k = _
    rw [mI_at]; by_cases e : k = m
    · simp [e]
    · simp [e]; rfl
  · show (mI (mI (mI (mI (mI T 29 m x1) 30 m x2) 31 m x3) 32 m x4) 33 m (-1)).1 33 k = _
    rw [mI_at]; by_cases e : k = m
    · simp [e]
    · simp [e]; rfl
  · funext l
    unfold dA
    rw [mI_at, if_neg (by omega), mI_at, if_neg (by omega), mI_at, if_neg (by omega), mI_at, if_neg (by omega), mI_at, if_neg (by omega), mI_at, if_neg (by omega)]
theorem Sh_snoc {K m : Nat} {na kd lo hi na' kd' lo' hi' : Nat → Int32} {x : Nat} {x2 x3 x4 : Int32} (h : Sh K m na kd lo hi) (hm : m < 6) (hx : x < 10) (hne : ∀ k, k < m → na k ≠ nI x) (e1 : ∀ k, na' k = if k = m then nI x else na k) (e2 : ∀ k, kd' k = if k = m then x2 else kd k) (e3 : ∀ k, lo' k = if k = m then x3 else lo k) (e4 : ∀ k, hi' k = if k = m then x4 else hi k) (hnew : (x2 = 0 ∧ x3 ≤ x4 ∧ (-1000000) ≤ x3 ∧ x4 ≤ 1000000) ∨ ((x2 = 1 ∨ x2 = 2) ∧ ∃ d, d < K ∧ x3 = nI d ∧ x4 = nI d)) : Sh K (m + 1) na' kd' lo' hi' := by
  refine ⟨by omega, fun i hi i' hi' e => ?_, fun i hi => ?_⟩
  · rw [e1, e1] at e
    by_cases a : i = m
    · by_cases b : i' = m
      · omega
      · rw [if_pos a, if_neg b] at e
        exact absurd e.symm (hne i' (by omega))
    · by_cases b : i' = m
      · rw [if_neg a, if_pos b] at e
        exact absurd e (hne i (by omega))
      · rw [if_neg a, if_neg b] at e
        exact h.2.1 i (by omega) i' (by omega) e
  · rw [e1, e2, e3, e4]
    by_cases a : i = m
    · rw [if_pos a, if_pos a, if_pos a, if_pos a]
      exact ⟨⟨x, hx, rfl⟩, hnew⟩
    · rw [if_neg a, if_neg a, if_neg a, if_neg a]
      exact h.2.2 i (by omega)
theorem A_ref {n : Nat} {K : Nat} {B T : MSt} {c m0 m x d : Nat} (hn : 24 < n) (h : JM K B T c m0 m) (hc : c < 4) (hm0 : m0 ≤ 6) (hx : x < 10) (hd : d < K) : (m_X8_referenceField n T (nI x) (nI d) = some (0, T) ∧ ¬ ((∀ k, k < m → T.1 29 k ≠ nI x) ∧ m < 6)) ∨ ((∀ k, k < m → T.1 29 k ≠ nI x) ∧ m < 6 ∧ m_X8_referenceField n T (nI x) (nI d) = some (1, mR (dA T m (nI x) 1 (nI d) (nI d)) 34 (fun l => if l < 144 ∧ l % 6 = m then -1 else T.1 34 l)) ∧ JM K B (mR (dA T m (nI x) 1 (nI d) (nI d)) 34 (fun l => if l < 144 ∧ l % 6 = m then -1 else T.1 34 l)) c m0 (m + 1)) := by
  have hSh := JM_sh h hc
  obtain ⟨hM, hm6, hm, -⟩ := id h
  unfold m_X8_referenceField
  rw [p_append (by omega) hm6 hm]
  by_cases hok : plc (T.1 29) m (nI x) = -1 ∧ m < 6
  · have hne : ∀ k, k < m → T.1 29 k ≠ nI x := by
      rcases plc_nn (f := T.1 29) (x := nI x) hm6 with ⟨h1, h2⟩ | ⟨k0, hk0, h1, h2, h3, h4⟩
      · exact h2
      · exact absurd hok.1 h3
    obtain ⟨d29, d30, d31, d32, d33, d28, dfr⟩ := dA_at (T := T) (m := m) (x1 := nI x) (x2 := 1) (x3 := nI d) (x4 := nI d)
    refine Or.inr ⟨hne, hok.2, ?_, ?_⟩
    · rw [if_pos hok, Option.bind_some, if_pos one_ne]
      show (lpO (b_X8_referenceField_15 n) n (dA T m (nI x) 1 (nI d) (nI d), 0)).bind _ = _
      rw [p_refCol hn hok.2 d28]
      rfl
    · have r34 : ∀ r k, r < 24 → k < 6 → r6 ((mR (dA T m (nI x) 1 (nI d) (nI d)) 34 (fun l => if l < 144 ∧ l % 6 = m then -1 else T.1 34 l)).1 34) r k = if k = m then -1 else r6 (T.1 34) r k := fun r k hr hk => by
        show (if 6 * r + k < 144 ∧ (6 * r + k) % 6 = m then -1 else T.1 34 (6 * r + k)) = _
        by_cases e : k = m
        · rw [if_pos e, if_pos (by omega)]
        · rw [if_neg e, if_neg (by omega)]; rfl
      refine JM_reshape h hc hm0 (fun g hg => ?_) d28 (Sh_snoc hSh hok.2 hx hne d29 d30 d31 d32 (Or.inr ⟨Or.inl rfl, d, hd, rfl, rfl⟩)) (ψ := fun k => k) (fs := fun k => k = m) (fun k hk => ?_) (fun k hk _ k2 hk2 _ e => e) (fun k r hk h0 hr h14 => ?_) (fun k hk h2' => ⟨k, by omega, by omega, rfl⟩)
      · rw [mR_at, if_neg (by omega)]
        exact dfr g (by omega)
      · by_cases e : k = m
        · refine Or.inl ⟨e, (d33 k).trans (if_pos e), ?_, fun _ r hr h14 => ?_⟩
          · show (dA T m (nI x) 1 (nI d) (nI d)).1 30 k ≠ 2
            rw [d30 k, if_pos e]; decide
          · rw [r34 r k hr (by omega), if_pos e]
        · refine Or.inr ⟨e, by omega, (d30 k).trans (if_neg e), (d33 k).trans (if_neg e), fun _ => ⟨(d31 k).trans (if_neg e), fun r hr h14 => ?_⟩⟩
          rw [r34 r k hr (by omega), if_neg e]
      · have e : k ≠ m := fun e => by
          have h0' : (dA T m (nI x) 1 (nI d) (nI d)).1 30 k = 0 := h0
          rw [d30 k, if_pos e] at h0'
          exact absurd h0' (by decide)
        have h0' : (dA T m (nI x) 1 (nI d) (nI d)).1 30 k = 0 := h0
        rw [d30 k, if_neg e] at h0'
        show (dA T m (nI x) 1 (nI d) (nI d)).1 31 k ≤ _ ∧ _ ≤ (dA T m (nI x) 1 (nI d) (nI d)).1 32 k
        rw [d31 k, d32 k, if_neg e, if_neg e, r34 r k hr (by omega), if_neg e]
        exact (JM_val h hc hr h14 (by omega)).1 h0'
  · refine Or.inl ⟨?_, fun ⟨q1, q2⟩ => hok ⟨plc_none q1, q2⟩⟩
    rw [if_neg hok]
    rfl
/-! ranges -/
def cut (v b c : Int32) : Int32 := if b ≤ v then (if v ≤ c then v else c) else b
theorem p_cutCol {n : Nat} {T : MSt} {k c : Nat} {b d : Int32} (hn : 24 < n) (hk : k < 6) (h27 : T.1 27 0 = nI c) : lpO (b_X8_rangeField_70 n b d (nI k)) n (T, 0) = some (mR T 34 (fun l => if l < 144 ∧ l % 6 = k ∧ T.1 14 (l / 6) = nI c then cut (T.1 34 l) b d else T.1 34 l)) := by
  refine ok_get (ok_for2 (N := 24) hn (I := fun r S => S = mR T 34 (fun l => if l < 6 * r ∧ l % 6 = k ∧ T.1 14 (l / 6) = nI c then cut (T.1 34 l) b d else T.1 34 l)) (fun r S hr hS => ?_) (mR_self T 34 (funext fun l => if_neg (fun h => by omega))))
  have e14 : S.1 14 = T.1 14 := by rw [hS]; rfl
  have e27 : S.1 27 0 = nI c := by rw [hS]; exact h27
  unfold b_X8_rangeField_70
  dsimp only
  rw [e14, e27, ix6, Ok_ite]
  refine ⟨fun h => ?_, fun h => ?_⟩
  · have e : r = 24 := ge_eq (by decide) hr h
    rw [Ok_some]
    subst e
    exact hS
  · have hr2 : r < 24 := nge_lt (by decide) hr h
    have e34 : S.1 34 (6 * r + k) = T.1 34 (6 * r + k) := by
      rw [hS]
      exact if_neg (fun h => by omega)
    have fin : ∀ y : Int32, y = (if T.1 14 r = nI c then cut (T.1 34 (6 * r + k)) b d else T.1 34 (6 * r + k)) → Ok (m_X8_rangeField_J145 n S b d (nI k) (nI r) (nI (6 * r + k)) y) (sumE (fun y => r < 24 ∧ y.2 = nI (r + 1) ∧ y.1 = mR T 34 (fun l => if l < 6 * (r + 1) ∧ l % 6 = k ∧ T.1 14 (l / 6) = nI c then cut (T.1 34 l) b d else T.1 34 l)) (fun w => w = mR T 34 (fun l => if l < 144 ∧ l % 6 = k ∧ T.1 14 (l / 6) = nI c then cut (T.1 34 l) b d else T.1 34 l))) := fun y hy => by
      unfold m_X8_rangeField_J145
      rw [Ok_bif, Ok_nm, Ok_nm, Ok_some, nI_clamp (by omega)]
      refine ⟨inB_nI (by omega) (by omega), hr2, nI_1 r, ?_⟩
      show mI S 34 (6 * r + k) y = _
      rw [hS]
      refine mI_mR _ _ _ _ _ _ (fun l => ?_)
      by_cases e : l = 6 * r + k
      · rw [if_pos e, hy, e, show (6 * r + k) / 6 = r by omega, show (6 * r + k) % 6 = k by omega]
        by_cases h14 : T.1 14 r = nI c
        · rw [if_pos ⟨by omega, rfl, h14⟩, if_pos h14]
        · rw [if_neg (fun h => h14 h.2.2), if_neg h14]
      · rw [if_neg e]
        have : (l < 6 * (r + 1) ∧ l % 6 = k ∧ T.1 14 (l / 6) = nI c) ↔ (l < 6 * r ∧ l % 6 = k ∧ T.1 14 (l / 6) = nI c) := ⟨fun h => ⟨by omega, h.2⟩, fun h => ⟨by omega, h.2⟩⟩
        simp only [this]
    rw [Ok_bif, Ok_nm, Ok_bif, nI_clamp (by omega), nI_clamp (by omega), e34, Ok_ite]
    refine ⟨inB_nI (by omega) (by omega), inB_nI hr2 (by omega), fun h1 => ?_, fun h1 => ?_⟩
    · rw [Ok_ite]
      refine ⟨fun h2 => ?_, fun h2 => fin _ ?_⟩
      · rw [Ok_ite]
        refine ⟨fun h3 => fin _ ?_, fun h3 => fin _ ?_⟩
        · rw [if_pos h1]; unfold cut; rw [if_pos h2, if_pos h3]
        · rw [if_pos h1]; unfold cut; rw [if_pos h2, if_neg h3]
      · rw [if_pos h1]; unfold cut; rw [if_neg h2]
    · exact fin _ (by rw [if_neg h1])
theorem cut_in {v b c : Int32} (h : b ≤ c) : b ≤ cut v b c ∧ cut v b c ≤ c := by
  unfold cut
  by_cases h1 : b ≤ v
  · rw [if_pos h1]
    by_cases h2 : v ≤ c
    · rw [if_pos h2]; exact ⟨h1, h2⟩
    · rw [if_neg h2]; exact ⟨h, Int32.le_refl _⟩
  · rw [if_neg h1]; exact ⟨Int32.le_refl _, h⟩
def rgM (T : MSt) (c k : Nat) (b d : Int32) : MSt := mR (mI (mI T 31 k b) 32 k d) 34 (fun l => if l < 144 ∧ l % 6 = k ∧ T.1 14 (l / 6) = nI c then cut (T.1 34 l) b d else T.1 34 l)
theorem A_range {n : Nat} {K : Nat} {B T : MSt} {c m0 m : Nat} {a b d y : Int32} (hn : 24 < n) (h : JM K B T c m0 m) (hc : c < 4) (hm0 : m0 ≤ 6) (hbd : b ≤ d ∧ (-1000000) ≤ b ∧ d ≤ 1000000) : (m_X8_rangeField n T a b d y = some (0, T) ∧ ¬ ∃ k0, k0 < m ∧ T.1 29 k0 = a ∧ T.1 30 k0 = 0 ∧ (y ≠ 0 ∨ (b ≤ T.1 31 k0 ∧ T.1 32 k0 ≤ d))) ∨ ∃ k0, k0 < m ∧ T.1 29 k0 = a ∧ T.1 30 k0 = 0 ∧ (y ≠ 0 ∨ (b ≤ T.1 31 k0 ∧ T.1 32 k0 ≤ d)) ∧ m_X8_rangeField n T a b d y = some (1, rgM T c k0 b d) ∧ JM K B (rgM T c k0 b d) c m0 m := by
  have hSh := JM_sh h hc
  obtain ⟨hM, hm6, hm, h27, h26, hfr, hcl, -⟩ := id h
  unfold m_X8_rangeField
  rw [p_findDraft (by omega) hm6 hm, Option.bind_some]
  rcases plc_nn (f := T.1 29) (x := a) hm6 with ⟨h1, h2⟩ | ⟨k0, hk0, h1, h2, h3, h4⟩
  · rw [h1, if_pos m1_lt]
    exact Or.inl ⟨rfl, fun ⟨k, k1, k2, _⟩ => h2 k k1 k2⟩
  · rw [h1, if_neg (nI_pos (by omega)), inB_nI (by omega : k0 < 6) (by omega), nI_clamp (by omega), cond_true, cond_true, cond_true]
    have uq : ∀ {k}, k < m → T.1 29 k = a → k = k0 := fun {k} hk e => hSh.2.1 k hk k0 hk0 (e.trans h2.symm)
    by_cases h5 : T.1 30 k0 = 0
    · rw [if_neg (fun h => h h5)]
      have hj : m_X8_rangeField_J51 n T b d (nI k0) = some (1, rgM T c k0 b d) := by
        unfold m_X8_rangeField_J51
        rw [inB_nI (by omega : k0 < 6) (by omega), nI_clamp (by omega)]
        show (lpO (b_X8_rangeField_70 n b d (nI k0)) n (mI (mI T 31 k0 b) 32 k0 d, 0)).bind _ = _
        rw [p_cutCol hn (by omega) (by exact h27)]
        rfl
      have hJ : JM K B (rgM T c k0 b d) c m0 m := by
        have r31 : ∀ k, (rgM T c k0 b d).1 31 k = if k = k0 then b else T.1 31 k := fun k => by
          show (mI T 31 k0 b).1 31 k = _
          rw [mI_at]
          by_cases e : k = k0
          · rw [if_pos ⟨rfl, e⟩, if_pos e]
          · rw [if_neg (fun h => e h.2), if_neg e]
        have r32 : ∀ k, (rgM T c k0 b d).1 32 k = if k = k0 then d else T.1 32 k := fun k => by
          show (mI (mI T 31 k0 b) 32 k0 d).1 32 k = _
          rw [mI_at]
          by_cases e : k = k0
          · rw [if_pos ⟨rfl, e⟩, if_pos e]
          · rw [if_neg (fun h => e h.2), if_neg e]; rfl
        have r34 : ∀ r k, r < 24 → k < 6 → B.1 14 r = nI c → r6 ((rgM T c k0 b d).1 34) r k = if k = k0 then cut (r6 (T.1 34) r k) b d else r6 (T.1 34) r k := fun r k hr hk h14 => by
          show (if 6 * r + k < 144 ∧ (6 * r + k) % 6 = k0 ∧ T.1 14 ((6 * r + k) / 6) = nI c then cut (T.1 34 (6 * r + k)) b d else T.1 34 (6 * r + k)) = _
          rw [show (6 * r + k) / 6 = r by omega, show (6 * r + k) % 6 = k by omega]
          by_cases e : k = k0
          · rw [if_pos e, if_pos ⟨by omega, e, (hcl r hr).mpr h14⟩]; rfl
          · rw [if_neg e, if_neg (fun h => e h.2.1)]; rfl
        have ro : ∀ g, g ≠ 31 → g ≠ 32 → g ≠ 34 → (rgM T c k0 b d).1 g = T.1 g := fun g g1 g2 g3 => by
          funext l
          unfold rgM
          rw [mR_at2, if_neg g3, mI_at, if_neg (fun h => g2 h.1), mI_at, if_neg (fun h => g1 h.1)]
        refine JM_reshape h hc hm0 (fun g hg => ro g (by omega) (by omega) (by omega)) hm ⟨hm6, hSh.2.1, fun i hi => ⟨(hSh.2.2 i hi).1, ?_⟩⟩ (ψ := fun k => k) (fs := fun _ => False) (fun k hk => Or.inr ⟨fun h => h, hk, rfl, rfl, fun hne => ?_⟩) (fun k hk _ k2 hk2 _ e => e) (fun k r hk h0 hr h14 => ?_) (fun k hk h2' => ⟨k, hk, fun h => h, rfl⟩)
        · rw [r31, r32]
          by_cases e : i = k0
          · rw [if_pos e, if_pos e]
            exact Or.inl ⟨by rw [e]; exact h5, hbd⟩
          · rw [if_neg e, if_neg e]
            exact (hSh.2.2 i hi).2
        · have e : k ≠ k0 := fun e => hne (by rw [e]; exact h5)
          exact ⟨(r31 k).trans (if_neg e), fun r hr h14 => (r34 r k hr (by omega) h14).trans (if_neg e)⟩
        · rw [r31, r32, r34 r k hr (by omega) h14]
          by_cases e : k = k0
          · rw [if_pos e, if_pos e, if_pos e]
            exact cut_in hbd.1
          · rw [if_neg e, if_neg e, if_neg e]
            exact (JM_val h hc hr h14 hk).1 h0
      by_cases hy : y = 0
      · rw [if_neg (fun h => h hy)]
        by_cases h6 : T.1 31 k0 < b
        · rw [if_pos h6]
          refine Or.inl ⟨rfl, fun ⟨k, k1, k2, k3, k4⟩ => ?_⟩
          rw [uq k1 k2] at k4
          rcases k4 with k4 | k4
          · exact k4 hy
          · exact Int32.not_lt.mpr k4.1 h6
        · rw [if_neg h6]
          by_cases h7 : T.1 32 k0 ≤ d
          · rw [if_pos h7, hj]
            exact Or.inr ⟨k0, hk0, h2, h5, Or.inr ⟨Int32.not_lt.mp h6, h7⟩, rfl, hJ⟩
          · rw [if_neg h7]
            refine Or.inl ⟨rfl, fun ⟨k, k1, k2, k3, k4⟩ => ?_⟩
            rw [uq k1 k2] at k4
            rcases k4 with k4 | k4
            · exact k4 hy
            · exact h7 k4.2
      · rw [if_pos hy, hj]
        exact Or.inr ⟨k0, hk0, h2, h5, Or.inl hy, rfl, hJ⟩
    · rw [if_pos h5]
      refine Or.inl ⟨rfl, fun ⟨k, k1, k2, k3, k4⟩ => ?_⟩
      rw [uq k1 k2] at k3
      exact h5 k3
