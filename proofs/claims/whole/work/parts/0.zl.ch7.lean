theorem q_place8 {n m : Nat} {S : CSt} {T : MSt} {K : Nat} {x : Int32} (hn : 6 < n) (h : DE S T m) (hSh : Sh K m (T.1 29) (T.1 30) (T.1 31) (T.1 32)) : m_X4_placeOf n S 8 x = some (plc (T.1 29) m x) := q_placeOf hn h.1 h.2.1 (fun k hk => (h.2.2.2 k hk).1) hSh.2.1
theorem JC_isC {j K : Nat} {B T : MSt} {D S : CSt} {σ : Nat → Nat} {c m0 m L1 : Nat} (hM : JM K B T c m0 m) (h : JC j K B D σ c m0 S T m L1) (hc : c < 4) {r : Nat} (hr : r < 24) (h14 : B.1 14 r = nI c) : σ r < 24 ∧ isC S (σ r) c := by
  obtain ⟨σ', τ', L', hL, hCR, hDE, hσ, -⟩ := h
  have hT : T.1 14 r = nI c := (hM.2.2.2.2.2.2.1 r hr).mpr h14
  have hl : (vS T c).1 14 r ≠ -1 := by
    show T.1 14 r ≠ -1
    rw [hT]; exact nI_ne_m1 (by omega)
  obtain ⟨g1, g2, g3, g4, g5⟩ := hCR.2.2.2.1.1 r hr hl
  rw [hσ r hr h14] at g1 g3 g4
  exact ⟨g1, g3, g4.trans hT⟩
theorem RemC_cong {S T : CSt} {m : Nat} {p q : Nat → Bool} (h : RemC S T m p) (he : ∀ i, i < m → p i = q i) : RemC S T m q := by
  have hc : ∀ i, i ≤ m → cn p i = cn q i := fun i hi => cn_cong (fun k hk => he k (by omega))
  obtain ⟨h1, h2, h3, h4, h5⟩ := h
  refine ⟨h1, h2, by rw [← hc m (Nat.le_refl _)]; exact h3, fun g i hg1 hg2 hi hp => ?_, h5⟩
  rw [← hc i (by omega)]
  exact h4 g i hg1 hg2 hi (by rw [he i hi]; exact hp)
theorem RemC_fr {S T : CSt} {m : Nat} {p : Nat → Bool} (h : RemC S T m p) : FrD S T := ⟨h.1, h.2.1⟩
/-- the set of one name takes one field -/
theorem kp_one {S : CSt} {T : MSt} {m K x k0 : Nat} (h : DE S T m) (hSh : Sh K m (T.1 29) (T.1 30) (T.1 31) (T.1 32)) (hx : x < 10) (hk0 : k0 < m) (ha : T.1 29 k0 = nI x) : ∀ i, i < m → kp S 8 (2 ^ x) i = !decide (i = k0) := fun i hi => by
  obtain ⟨b, hb, eb⟩ := (hSh.2.2 i hi).1
  unfold kp
  rw [(h.2.2.2 i hi).1, eb, nI_clamp (by omega), bt_one x hx b hb]
  congr 1
  rw [decide_eq_decide]
  constructor
  · intro e
    exact hSh.2.1 i hi k0 hk0 (by rw [eb, ha, e])
  · intro e
    rw [e, ha] at eb
    exact ((nI_eq (by omega) (by omega)).mp eb).symm
theorem R_drop {n i m K x k0 : Nat} {S : CSt} {T : MSt} (hn : 6 < n) (h : DE S T m) (hSh : Sh K m (T.1 29) (T.1 30) (T.1 31) (T.1 32)) (h22 : S.1 22 i 0 = 0) (h23 : S.1 23 i 0 = nI x) (hx : x < 10) (hk0 : k0 < m) (ha : T.1 29 k0 = nI x) : Ok (m_X7_reshape n S i) (fun S' => DE S' (tkF T k0 m (m - 1)) (m - 1) ∧ FrD S S') := by
  unfold m_X7_reshape
  rw [q_place8 hn h hSh, Ok_bind, Ok_some, if_pos h22, h23, one_shl x hx]
  refine ok_seq (q_removeAll (S := S) hn h.1 h.2.1 (fun k hk => ?_) (by have := pow_lt x hx; omega)) (fun S' hS => ?_)
  · rw [(h.2.2.2 k hk).1]
    exact (hSh.2.2 k hk).1
  · rw [Ok_some]
    have hr := RemC_cong hS (kp_one h hSh hx hk0 ha)
    have hd := DE_rem h hr (tkF_rem h.1 hk0)
    rw [cn_ne, if_neg (by omega)] at hd
    exact ⟨hd, RemC_fr hr⟩
theorem B_drop {n i m K : Nat} {S : CSt} {T : MSt} {xc rec : Int32} (hn : 6 < n) (h : DE S T m) (hSh : Sh K m (T.1 29) (T.1 30) (T.1 31) (T.1 32)) (h22 : S.1 22 i 0 = 0) : ((∃ k0, k0 < m ∧ T.1 29 k0 = S.1 23 i 0 ∧ T.1 30 k0 ≠ 2) → m_X7_canDo n S i xc rec = some (1, S)) ∧ ((¬ ∃ k0, k0 < m ∧ T.1 29 k0 = S.1 23 i 0 ∧ T.1 30 k0 ≠ 2) → m_X7_canDo n S i xc rec = some (0, S)) := by
  unfold m_X7_canDo
  rw [q_place8 hn h hSh, Option.bind_some, if_pos h22]
  rcases plc_nn (f := T.1 29) (x := S.1 23 i 0) h.1 with ⟨h1, h2⟩ | ⟨k0, hk0, h1, h2, h3, h4⟩
  · rw [h1, if_pos rfl]
    exact ⟨fun ⟨k, k1, k2, _⟩ => absurd k2 (h2 k k1), fun _ => rfl⟩
  · rw [h1, if_neg (nI_ne_m1 (by have := h.1; omega)), q_isOwn h.1 h.2.1 hk0, Option.bind_some, (h.2.2.2 k0 hk0).2.1]
    by_cases h5 : T.1 30 k0 = 2
    · rw [if_pos h5, if_pos one_ne]
      refine ⟨fun ⟨k, k1, k2, k3⟩ => ?_, fun _ => rfl⟩
      rw [hSh.2.1 k k1 k0 hk0 (k2.trans h2.symm)] at k3
      exact absurd h5 k3
    · rw [if_neg h5, if_neg (fun h => h rfl)]
      exact ⟨fun _ => rfl, fun hno => absurd ⟨k0, hk0, h2, h5⟩ hno⟩
theorem C_drop {n i j K x k0 : Nat} {B T : MSt} {D S : CSt} {σ : Nat → Nat} {c m0 m L1 : Nat} (hn : 24 < n) (hM : JM K B T c m0 m) (h : JC j K B D σ c m0 S T m L1) (hc : c < 4) (h22 : S.1 22 i 0 = 0) (h23 : S.1 23 i 0 = nI x) (hx : x < 10) (hk0 : k0 < m) (ha : T.1 29 k0 = nI x) : Ok (m_X7_moveAll n S i (nI c)) (fun S1 => Ok (m_X7_reshape n S1 i) (fun S' => JC j K B D σ c m0 S' (tkF T k0 m (m - 1)) (m - 1) L1)) := by
  have hSh := JM_sh hM hc
  have hDE : DE S T m := h.choose_spec.choose_spec.choose_spec.2.2.1
  have hna : ∀ k, k < m → ∃ a, a < 10 ∧ S.1 6 8 k = nI a := fun k hk => by rw [(hDE.2.2.2 k hk).1]; exact (hSh.2.2 k hk).1
  refine ok_mono (q_moveAll (P := fun e row => ∀ k, k < m → k ≠ k0 → row (if k ≤ k0 then k else k - 1) = S.1 17 e k) hn (fun S' e he hC hF h17 => ?_)) (fun S1 hS1 => ?_)
  · unfold m_X7_move
    have d6 : S'.1 6 = S.1 6 := hF 6 (by omega) (by omega)
    have d5 : S'.1 5 = S.1 5 := hF 5 (by omega) (by omega)
    have hDE' : DE S' T m := by
      refine ⟨hDE.1, by rw [d5]; exact hDE.2.1, hDE.2.2.1, fun k hk => ?_⟩
      rw [d6, hF 7 (by omega) (by omega), hF 8 (by omega) (by omega), hF 9 (by omega) (by omega), hF 10 (by omega) (by omega)]
      exact hDE.2.2.2 k hk
    rw [q_place8 (by omega) hDE' hSh, Ok_bind, Ok_some, hF 22 (by omega) (by omega), if_pos h22, hF 23 (by omega) (by omega), h23, one_shl x hx]
    have hq := q_sqz (n := n) (f := 17) (x0 := 8) (x1 := e) (m := m) (s := 2 ^ x) (S := S') (by omega) hDE.1 (by rw [d5]; exact hDE.2.1) (by decide) (fun k hk => by rw [d6]; exact hna k hk) (by have := pow_lt x hx; omega)
    obtain ⟨w, hw, w1, row, w2, w3, w4, -⟩ := hq
    have ek : m_X4_squeeze_a17 n S' 8 e (nI (2 ^ x)) = some (w.2, w.1) := by
      show (lpO (sqB 17 n 8 e (nI (2 ^ x))) n (S', 0, 0)).bind _ = _
      rw [hw]
      rfl
    rw [ek, Ok_bind, Ok_some, Ok_some]
    have t17 : w.1.1 17 = row := by rw [w2, sF_at, if_pos rfl]
    refine ⟨fun g g1 g2 => ?_, fun e' he' => ?_, fun k hk hne => ?_⟩
    · show w.1.1 g = _
      rw [w2, sF_at, if_neg g1]
      exact hF g g1 g2
    · show w.1.1 17 e' = _
      rw [t17]
      exact w3 e' he'
    · show w.1.1 17 e _ = _
      rw [t17, ← h17]
      have hkp : kp S' 8 (2 ^ x) k = true := by
        rw [kp_one hDE' hSh hx hk0 ha k hk]
        simp [hne]
      have hcn : cn (kp S' 8 (2 ^ x)) k = if k ≤ k0 then k else k - 1 := by
        rw [← cn_ne k0 k]
        exact cn_cong (fun i hi => kp_one hDE' hSh hx hk0 ha i (by omega))
      rw [← hcn]
      exact w4 k hk hkp
  · obtain ⟨hF, hP, h17⟩ := hS1
    have hDE' : DE S1 T m := by
      refine ⟨hDE.1, by rw [hF 5 (by omega) (by omega)]; exact hDE.2.1, hDE.2.2.1, fun k hk => ?_⟩
      rw [hF 6 (by omega) (by omega), hF 7 (by omega) (by omega), hF 8 (by omega) (by omega), hF 9 (by omega) (by omega), hF 10 (by omega) (by omega)]
      exact hDE.2.2.2 k hk
    refine ok_mono (R_drop (by omega) hDE' hSh (by rw [hF 22 (by omega) (by omega)]; exact h22) (by rw [hF 23 (by omega) (by omega)]; exact h23) hx hk0 ha) (fun S' hS' => ?_)
    obtain ⟨hd', hfr'⟩ := hS'
    have hm6 := hDE.1
    have rd : ∀ g k, 29 ≤ g → g ≤ 33 → k < m - 1 → (tkF T k0 m (m - 1)).1 g k = T.1 g (if k < k0 then k else k + 1) := fun g k hg1 hg2 hk => by
      rw [tkF_a _ _ _ _ _ _ hg1 hg2]
      by_cases e : k < k0
      · rw [if_pos e, if_neg (by omega)]
      · rw [if_neg e, if_pos (by omega)]
    have rv : ∀ r k, r < 24 → k < m - 1 → r6 ((tkF T k0 m (m - 1)).1 34) r k = r6 (T.1 34) r (if k < k0 then k else k + 1) := fun r k hr hk => by
      unfold r6
      show (if 6 * r + k < 144 ∧ k0 ≤ (6 * r + k) % 6 ∧ (6 * r + k) % 6 < m - 1 then T.1 34 (6 * r + k + 1) else T.1 34 (6 * r + k)) = _
      by_cases e : k < k0
      · rw [if_pos e, if_neg (by omega)]
      · rw [if_neg e, if_pos (by omega)]; rfl
    refine JC_reshape hM h hc (fun g hg => tkF_o _ _ _ _ _ (by omega)) hd' (fun g hg g1 g2 => by rw [hfr'.1 g hg]; exact hF g g1 g2) (fun g i hg1 hg2 hi => by rw [hfr'.2 g i hg1 hg2 hi, hF g (by omega) (by omega)]) (fun e he => by rw [hfr'.1 17 (by omega)]; exact h17 e he) (fun r k hr h14 hk hnum f hf0 hf => ?_)
    obtain ⟨q1, q2⟩ := JC_isC hM h hc hr h14
    have hp := hP (σ r) q1 q2
    have hlt : (if k < k0 then k else k + 1) < m := by split <;> omega
    have hv : S'.1 17 (σ r) k = S.1 17 (σ r) (if k < k0 then k else k + 1) := by
      rw [hfr'.1 17 (by omega)]
      by_cases e : k < k0
      · have := hp k (by omega) (by omega)
        rw [if_pos (by omega)] at this
        rw [if_pos e]
        exact this
      · have := hp (k + 1) (by omega) (by omega)
        rw [if_neg (by omega), Nat.add_sub_cancel] at this
        rw [if_neg e]
        exact this
    rw [hv, rd 30 k (by omega) (by omega) hk, rv r k hr hk]
    by_cases e0 : T.1 30 (if k < k0 then k else k + 1) = 0
    · rw [if_pos e0]
      have := hnum _ hlt
      rw [if_pos e0] at this
      exact this
    · rw [if_neg e0]
      exact hf _ hlt e0
/-! names -/
theorem R_name {n i m K y k0 : Nat} {S : CSt} {T : MSt} (hn : 6 < n) (h : DE S T m) (hSh : Sh K m (T.1 29) (T.1 30) (T.1 31) (T.1 32)) (h22 : S.1 22 i 0 = 1) (h24 : S.1 24 i 0 = nI y) (hk0 : k0 < m) (ha : T.1 29 k0 = S.1 23 i 0) : Ok (m_X7_reshape n S i) (fun S' => DE S' (mI T 29 k0 (nI y)) m ∧ FrD S S') := by
  unfold m_X7_reshape
  rw [q_place8 hn h hSh, Ok_bind, Ok_some, plc_eq hSh.2.1 hk0 ha, if_neg (by rw [h22]; decide), if_pos h22, h24]
  have hm6 := h.1
  have hr : m_X4_rename n S 8 (nI k0) (nI y) = some (sI S 6 8 k0 (nI y)) := by
    unfold m_X4_rename
    rw [q_isThere h.1 h.2.1 hk0, Option.bind_some, if_neg one_ne, inB_nI (by omega : k0 < 6) (by omega), nI_clamp (by omega)]
    rfl
  rw [hr, Ok_bind, Ok_some, Ok_some]
  refine ⟨⟨h.1, h.2.1, h.2.2.1, fun k hk => ?_⟩, fun g hg => ?_, fun g j hg1 hg2 hj => ?_⟩
  · obtain ⟨a1, a2, a3, a4, a5⟩ := h.2.2.2 k hk
    refine ⟨?_, a2, a3, a4, a5⟩
    rw [sI_at, mI_at]
    by_cases e : k = k0
    · rw [if_pos ⟨rfl, rfl, e⟩, if_pos ⟨rfl, e⟩]
    · rw [if_neg (fun h => e h.2.2), if_neg (fun h => e h.2)]
      exact a1
  · funext j l
    rw [sI_at, if_neg (by omega)]
  · funext l
    rw [sI_at, if_neg (fun h => hj h.2.1)]
theorem B_name {n i m K : Nat} {S : CSt} {T : MSt} {xc rec : Int32} (hn : 6 < n) (h : DE S T m) (hSh : Sh K m (T.1 29) (T.1 30) (T.1 31) (T.1 32)) (h22 : S.1 22 i 0 = 1) : (((∃ k0, k0 < m ∧ T.1 29 k0 = S.1 23 i 0) ∧ ∀ k, k < m → T.1 29 k ≠ S.1 24 i 0) → m_X7_canDo n S i xc rec = some (1, S)) ∧ (¬ ((∃ k0, k0 < m ∧ T.1 29 k0 = S.1 23 i 0) ∧ ∀ k, k < m → T.1 29 k ≠ S.1 24 i 0) → m_X7_canDo n S i xc rec = some (0, S)) := by
  unfold m_X7_canDo
  have hm6 := h.1
  rw [q_place8 hn h hSh, Option.bind_some, if_neg (by rw [h22]; decide), if_pos h22, q_place8 hn h hSh, Option.bind_some]
  rcases plc_nn (f := T.1 29) (x := S.1 23 i 0) h.1 with ⟨h1, h2⟩ | ⟨k0, hk0, h1, h2, h3, h4⟩
  · rw [h1, if_pos rfl]
    exact ⟨fun ⟨⟨k, k1, k2⟩, _⟩ => absurd k2 (h2 k k1), fun _ => rfl⟩
  · rw [h1, if_neg (nI_ne_m1 (by omega))]
    rcases plc_nn (f := T.1 29) (x := S.1 24 i 0) h.1 with ⟨g1, g2⟩ | ⟨k1, hk1, g1, g2, g3, g4⟩
    · rw [g1, if_neg (fun h => h rfl)]
      exact ⟨fun _ => rfl, fun hno => absurd ⟨⟨k0, hk0, h2⟩, g2⟩ hno⟩
    · rw [if_pos g3]
      exact ⟨fun ⟨_, q⟩ => absurd g2 (q k1 hk1), fun _ => rfl⟩
theorem C_name {n i j K y k0 : Nat} {B T : MSt} {D S : CSt} {σ : Nat → Nat} {c m0 m L1 : Nat} (hn : 24 < n) (hM : JM K B T c m0 m) (h : JC j K B D σ c m0 S T m L1) (hc : c < 4) (h22 : S.1 22 i 0 = 1) (h24 : S.1 24 i 0 = nI y) (hk0 : k0 < m) (ha : T.1 29 k0 = S.1 23 i 0) : Ok (m_X7_moveAll n S i (nI c)) (fun S1 => Ok (m_X7_reshape n S1 i) (fun S' => JC j K B D σ c m0 S' (mI T 29 k0 (nI y)) m L1)) := by
  have hSh := JM_sh hM hc
  have hDE : DE S T m := h.choose_spec.choose_spec.choose_spec.2.2.1
  have hm6 := hDE.1
  refine ok_mono (q_moveAll (P := fun e row => row = S.1 17 e) hn (fun S' e he hC hF h17 => ?_)) (fun S1 hS1 => ?_)
  · unfold m_X7_move
    have hDE' : DE S' T m := by
      refine ⟨hDE.1, by rw [hF 5 (by omega) (by omega)]; exact hDE.2.1, hDE.2.2.1, fun k hk => ?_⟩
      rw [hF 6 (by omega) (by omega), hF 7 (by omega) (by omega), hF 8 (by omega) (by omega), hF 9 (by omega) (by omega), hF 10 (by omega) (by omega)]
      exact hDE.2.2.2 k hk
    rw [q_place8 (by omega) hDE' hSh, Ok_bind, Ok_some, hF 22 (by omega) (by omega), if_neg (by rw [h22]; decide), if_pos h22, Ok_some]
    exact ⟨hF, fun _ _ => rfl, h17⟩
  · obtain ⟨hF, hP, h17⟩ := hS1
    have hDE' : DE S1 T m := by
      refine ⟨hDE.1, by rw [hF 5 (by omega) (by omega)]; exact hDE.2.1, hDE.2.2.1, fun k hk => ?_⟩
      rw [hF 6 (by omega) (by omega), hF 7 (by omega) (by omega), hF 8 (by omega) (by omega), hF 9 (by omega) (by omega), hF 10 (by omega) (by omega)]
      exact hDE.2.2.2 k hk
    refine ok_mono (R_name (y := y) (by omega) hDE' hSh (by rw [hF 22 (by omega) (by omega)]; exact h22) (by rw [hF 24 (by omega) (by omega)]; exact h24) hk0 (by rw [hF 23 (by omega) (by omega)]; exact ha)) (fun S' hS' => ?_)
    obtain ⟨hd', hfr'⟩ := hS'
    refine JC_reshape hM h hc (fun g hg => ?_) hd' (fun g hg g1 g2 => by rw [hfr'.1 g hg]; exact hF g g1 g2) (fun g i hg1 hg2 hi => by rw [hfr'.2 g i hg1 hg2 hi, hF g (by omega) (by omega)]) (fun e he => by rw [hfr'.1 17 (by omega)]; exact h17 e he) (fun r k hr h14 hk hnum f hf0 hf => ?_)
    · funext l
      rw [mI_at, if_neg (by omega)]
    · obtain ⟨q1, q2⟩ := JC_isC hM h hc hr h14
      rw [hfr'.1 17 (by omega), hP (σ r) q1 q2]
      show _ = if T.1 30 k = 0 then r6 (T.1 34) r k else f (r6 (T.1 34) r k)
      by_cases e0 : T.1 30 k = 0
      · rw [if_pos e0]
        have := hnum k hk
        rw [if_pos e0] at this
        exact this
      · rw [if_neg e0]
        exact hf k hk e0
