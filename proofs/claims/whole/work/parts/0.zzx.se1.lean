/-! ===== change: the reference settles ===== -/
theorem nI_div6 : ∀ k, k < 144 → nI k / 6 = nI (k / 6) := by decide +kernel
theorem p_settle1 {n : Nat} {T : MSt} {c : Nat} (hn : 200 < n) (hc : c < 4) : Ok (lpO (b_X8_settle_2 n (nI c)) n (T, 0)) (fun W => (∀ g, g < 5 ∨ g = 9 ∨ 13 < g → W.1 g = T.1 g) ∧ (∀ g l, 5 ≤ g → g ≤ 8 → W.1 g l = if 6 * c ≤ l ∧ l < 6 * c + 6 then T.1 (g + 24) (l - 6 * c) else T.1 g l) ∧ ∀ g l, 10 ≤ g → g ≤ 13 → W.1 g l = if 6 * c ≤ l ∧ l < 6 * c + 6 then T.1 (g - 5) l else T.1 g l) := by
  refine ok_for2 (N := 6) (by omega) (I := fun q W => (∀ g, g < 5 ∨ g = 9 ∨ 13 < g → W.1 g = T.1 g) ∧ (∀ g l, 5 ≤ g → g ≤ 8 → W.1 g l = if 6 * c ≤ l ∧ l < 6 * c + q then T.1 (g + 24) (l - 6 * c) else T.1 g l) ∧ ∀ g l, 10 ≤ g → g ≤ 13 → W.1 g l = if 6 * c ≤ l ∧ l < 6 * c + q then T.1 (g - 5) l else T.1 g l) (fun k W hk hI => ?_) ⟨fun _ _ => rfl, fun g l _ _ => by rw [if_neg (by omega)], fun g l _ _ => by rw [if_neg (by omega)]⟩
  obtain ⟨a1, a2, a3⟩ := hI
  unfold b_X8_settle_2
  dsimp only
  rw [Ok_ite]
  refine ⟨fun h3 => ?_, fun h3 => ?_⟩
  · rw [Ok_some]
    have ek : k = 6 := ge_eq (by decide) hk h3
    subst ek
    exact ⟨a1, a2, a3⟩
  · have hk2 : k < 6 := nge_lt (by decide) hk h3
    have b24 : inB (nI (6 * c + k)) 24 = true := inB_nI (by omega) (by omega)
    have b6 : inB (nI k) 6 = true := inB_nI (by omega) (by omega)
    rw [ix6, b24, b6, nI_clamp (by omega), nI_clamp (by omega)]
    show Ok (some (Sum.inl (mI (mI (mI (mI (mI (mI (mI (mI W 10 (6 * c + k) (W.1 5 (6 * c + k))) 11 (6 * c + k) (W.1 6 (6 * c + k))) 12 (6 * c + k) (W.1 7 (6 * c + k))) 13 (6 * c + k) (W.1 8 (6 * c + k))) 5 (6 * c + k) (W.1 29 k)) 6 (6 * c + k) (W.1 30 k)) 7 (6 * c + k) (W.1 31 k)) 8 (6 * c + k) (W.1 32 k), nI k + 1))) _
    rw [Ok_some, nI_1]
    generalize hX : mI (mI (mI (mI (mI (mI (mI (mI W 10 (6 * c + k) (W.1 5 (6 * c + k))) 11 (6 * c + k) (W.1 6 (6 * c + k))) 12 (6 * c + k) (W.1 7 (6 * c + k))) 13 (6 * c + k) (W.1 8 (6 * c + k))) 5 (6 * c + k) (W.1 29 k)) 6 (6 * c + k) (W.1 30 k)) 7 (6 * c + k) (W.1 31 k)) 8 (6 * c + k) (W.1 32 k) = X
    have xo : ∀ g, g < 5 ∨ g = 9 ∨ 13 < g → X.1 g = W.1 g := fun g hg => by
      funext l
      rw [← hX, mI_at, if_neg (by omega), mI_at, if_neg (by omega), mI_at, if_neg (by omega), mI_at, if_neg (by omega), mI_at, if_neg (by omega), mI_at, if_neg (by omega), mI_at, if_neg (by omega), mI_at, if_neg (by omega)]
    have xne : ∀ g l, l ≠ 6 * c + k → X.1 g l = W.1 g l := fun g l hl => by
      rw [← hX, mI_at, if_neg (fun h => hl h.2), mI_at, if_neg (fun h => hl h.2), mI_at, if_neg (fun h => hl h.2), mI_at, if_neg (fun h => hl h.2), mI_at, if_neg (fun h => hl h.2), mI_at, if_neg (fun h => hl h.2), mI_at, if_neg (fun h => hl h.2), mI_at, if_neg (fun h => hl h.2)]
    have x8 : X.1 8 (6 * c + k) = W.1 32 k := by rw [← hX, mI_eq]
    have x7 : X.1 7 (6 * c + k) = W.1 31 k := by rw [← hX, mI_at, if_neg (by omega), mI_eq]
    have x6 : X.1 6 (6 * c + k) = W.1 30 k := by rw [← hX, mI_at, if_neg (by omega), mI_at, if_neg (by omega), mI_eq]
    have x5 : X.1 5 (6 * c + k) = W.1 29 k := by rw [← hX, mI_at, if_neg (by omega), mI_at, if_neg (by omega), mI_at, if_neg (by omega), mI_eq]
    have x13 : X.1 13 (6 * c + k) = W.1 8 (6 * c + k) := by rw [← hX, mI_at, if_neg (by omega), mI_at, if_neg (by omega), mI_at, if_neg (by omega), mI_at, if_neg (by omega), mI_eq]
    have x12 : X.1 12 (6 * c + k) = W.1 7 (6 * c + k) := by rw [← hX, mI_at, if_neg (by omega), mI_at, if_neg (by omega), mI_at, if_neg (by omega), mI_at, if_neg (by omega), mI_at, if_neg (by omega), mI_eq]
    have x11 : X.1 11 (6 * c + k) = W.1 6 (6 * c + k) := by rw [← hX, mI_at, if_neg (by omega), mI_at, if_neg (by omega), mI_at, if_neg (by omega), mI_at, if_neg (by omega), mI_at, if_neg (by omega), mI_at, if_neg (by omega), mI_eq]
    have x10 : X.1 10 (6 * c + k) = W.1 5 (6 * c + k) := by rw [← hX, mI_at, if_neg (by omega), mI_at, if_neg (by omega), mI_at, if_neg (by omega), mI_at, if_neg (by omega), mI_at, if_neg (by omega), mI_at, if_neg (by omega), mI_at, if_neg (by omega), mI_eq]
    refine ⟨hk2, rfl, fun g hg => by rw [xo g hg, a1 g hg], fun g l g1 g2 => ?_, fun g l g1 g2 => ?_⟩
    · by_cases el : l = 6 * c + k
      · have e : X.1 g l = W.1 (g + 24) k := by
          rw [el]
          rcases (show g = 5 ∨ g = 6 ∨ g = 7 ∨ g = 8 by omega) with e | e | e | e
          · subst e; exact x5
          · subst e; exact x6
          · subst e; exact x7
          · subst e; exact x8
        rw [e, a1 (g + 24) (by omega), if_pos (by omega), show l - 6 * c = k by omega]
      · rw [xne g l el, a2 g l g1 g2]
        have : (6 * c ≤ l ∧ l < 6 * c + k) ↔ (6 * c ≤ l ∧ l < 6 * c + (k + 1)) := by omega
        simp only [this]
    · by_cases el : l = 6 * c + k
      · have e : X.1 g l = W.1 (g - 5) l := by
          rw [el]
          rcases (show g = 10 ∨ g = 11 ∨ g = 12 ∨ g = 13 by omega) with e | e | e | e
          · subst e; exact x10
          · subst e; exact x11
          · subst e; exact x12
          · subst e; exact x13
        rw [e, a2 (g - 5) l (by omega) (by omega), if_neg (by omega), if_pos (by omega)]
      · rw [xne g l el, a3 g l g1 g2]
        have : (6 * c ≤ l ∧ l < 6 * c + k) ↔ (6 * c ≤ l ∧ l < 6 * c + (k + 1)) := by omega
        simp only [this]
theorem p_settle2 {n : Nat} {T : MSt} {c : Nat} (hn : 200 < n) (hc : c < 4) : Ok (lpO (b_X8_settle_194 n (nI c)) n (T, 0)) (fun W => (∀ g, g ≠ 16 → g ≠ 17 → W.1 g = T.1 g) ∧ ∀ l, l < 144 → W.1 17 l = (if T.1 14 (l / 6) = nI c then T.1 16 l else T.1 17 l) ∧ W.1 16 l = if T.1 14 (l / 6) = nI c then T.1 34 l else T.1 16 l) := by
  refine ok_for2 (N := 144) (by omega) (I := fun q W => (∀ g, g ≠ 16 → g ≠ 17 → W.1 g = T.1 g) ∧ (∀ l, l < q → W.1 17 l = (if T.1 14 (l / 6) = nI c then T.1 16 l else T.1 17 l) ∧ W.1 16 l = if T.1 14 (l / 6) = nI c then T.1 34 l else T.1 16 l) ∧ ∀ l, q ≤ l → W.1 16 l = T.1 16 l ∧ W.1 17 l = T.1 17 l) (fun k W hk hI => ?_) ⟨fun _ _ _ => rfl, fun l hl => absurd hl (Nat.not_lt_zero _), fun _ _ => ⟨rfl, rfl⟩⟩
  obtain ⟨a1, a2, a3⟩ := hI
  unfold b_X8_settle_194
  dsimp only
  rw [Ok_ite]
  refine ⟨fun h3 => ?_, fun h3 => ?_⟩
  · rw [Ok_some]
    have ek : k = 144 := ge_eq (by decide) hk h3
    subst ek
    exact ⟨a1, a2⟩
  · have hk2 : k < 144 := nge_lt (by decide) hk h3
    have b144 : inB (nI k) 144 = true := inB_nI hk2 (by omega)
    obtain ⟨v1, v2⟩ := a3 k (Nat.le_refl _)
    rw [nI_div6 k hk2, Ok_bif, nI_clamp (by omega), a1 14 (by omega) (by omega)]
    refine ⟨inB_nI (by omega) (by omega), ?_⟩
    have fin : ∀ u w, u = (if T.1 14 (k / 6) = nI c then T.1 16 k else T.1 17 k) → w = (if T.1 14 (k / 6) = nI c then T.1 34 k else T.1 16 k) → Ok (some (Sum.inl (mI (mI W 17 k u) 16 k w, nI k + 1))) (sumE (fun y => k < 144 ∧ y.2 = nI (k + 1) ∧ (∀ g, g ≠ 16 → g ≠ 17 → y.1.1 g = T.1 g) ∧ (∀ l, l < k + 1 → y.1.1 17 l = (if T.1 14 (l / 6) = nI c then T.1 16 l else T.1 17 l) ∧ y.1.1 16 l = if T.1 14 (l / 6) = nI c then T.1 34 l else T.1 16 l) ∧ ∀ l, k + 1 ≤ l → y.1.1 16 l = T.1 16 l ∧ y.1.1 17 l = T.1 17 l) (fun W : MSt => (∀ g, g ≠ 16 → g ≠ 17 → W.1 g = T.1 g) ∧ ∀ l, l < 144 → W.1 17 l = (if T.1 14 (l / 6) = nI c then T.1 16 l else T.1 17 l) ∧ W.1 16 l = if T.1 14 (l / 6) = nI c then T.1 34 l else T.1 16 l)) := fun u w hu hw => by
      rw [Ok_some, nI_1]
      have ne : ∀ g l, l ≠ k → (mI (mI W 17 k u) 16 k w).1 g l = W.1 g l := fun g l hl => by rw [mI_at, if_neg (fun h => hl h.2), mI_at, if_neg (fun h => hl h.2)]
      refine ⟨hk2, rfl, fun g g1 g2 => ?_, fun l hl => ?_, fun l hl => ?_⟩
      · funext l
        rw [mI_at, if_neg (fun h => g1 h.1), mI_at, if_neg (fun h => g2 h.1), a1 g g1 g2]
      · by_cases e : l = k
        · subst e
          rw [mI_at, if_neg (by omega), mI_eq, mI_eq]
          exact ⟨hu, hw⟩
        · rw [ne 17 l e, ne 16 l e]
          exact a2 l (by omega)
      · rw [ne 17 l (by omega), ne 16 l (by omega)]
        exact a3 l (by omega)
    by_cases h14 : T.1 14 (k / 6) = nI c
    · rw [if_neg (fun h => h h14)]
      unfold m_X8_settle_J219 m_X8_settle_J244 m_X8_settle_J269
      rw [if_neg one_ne, b144, nI_clamp (by omega)]
      show Ok (if (1 : Int32) = 0 then some (Sum.inl (mI (mI W 17 k (W.1 16 k)) 16 k (W.1 16 k), nI k + 1)) else some (Sum.inl (mI (mI W 17 k (W.1 16 k)) 16 k (W.1 34 k), nI k + 1))) _
      rw [if_neg one_ne]
      refine fin _ _ ?_ ?_
      · rw [if_pos h14, v1]
      · rw [if_pos h14, a1 34 (by omega) (by omega)]
    · rw [if_pos h14]
      unfold m_X8_settle_J219 m_X8_settle_J244 m_X8_settle_J269
      rw [if_pos rfl, b144, nI_clamp (by omega)]
      show Ok (if (0 : Int32) = 0 then some (Sum.inl (mI (mI W 17 k (W.1 17 k)) 16 k (W.1 16 k), nI k + 1)) else some (Sum.inl (mI (mI W 17 k (W.1 17 k)) 16 k (W.1 34 k), nI k + 1))) _
      rw [if_pos rfl]
      refine fin _ _ ?_ ?_
      · rw [if_neg h14, v2]
      · rw [if_neg h14, v1]
theorem p_settle3 {n K : Nat} {T : MSt} (hn : 200 < n) (hK : K ≤ 4) (h1 : T.1 1 0 = nI K) (h3 : ∀ d, d < 4 → T.1 3 d = 0 ∨ T.1 3 d = 1) : Ok (lpO (b_X8_settle_306 n) n (T, 0)) (fun W => (∀ g, g ≠ 3 → W.1 g = T.1 g) ∧ ∀ d, d < 4 → W.1 3 d = if d < K ∧ dsB (T.1 36 0) d = true then 0 else T.1 3 d) := by
  refine ok_for2 (N := K) (by omega) (I := fun q W => (∀ g, g ≠ 3 → W.1 g = T.1 g) ∧ ∀ d, d < 4 → W.1 3 d = if d < q ∧ dsB (T.1 36 0) d = true then 0 else T.1 3 d) (fun k W hk hI => ?_) ⟨fun _ _ => rfl, fun d _ => by rw [if_neg (by omega)]⟩
  obtain ⟨a1, a2⟩ := hI
  unfold b_X8_settle_306
  dsimp only
  rw [a1 1 (by omega), h1, Ok_ite]
  refine ⟨fun h => ?_, fun h => ?_⟩
  · rw [Ok_some]
    have ek := ge_eq (by omega) hk h
    subst ek
    exact ⟨a1, a2⟩
  · have hk2 := nge_lt (by omega) hk h
    have b4 : inB (nI k) 4 = true := inB_nI (by omega) (by omega)
    have e3 : W.1 3 k = T.1 3 k := by rw [a2 k (by omega), if_neg (by omega)]
    rw [Ok_bif, nI_clamp (by omega), e3, a1 36 (by omega)]
    refine ⟨b4, ?_⟩
    have fin : ∀ u, u = (if dsB (T.1 36 0) k = true then 0 else T.1 3 k) → Ok (some (Sum.inl (mI W 3 k u, nI k + 1))) (sumE (fun y => k < K ∧ y.2 = nI (k + 1) ∧ (∀ g, g ≠ 3 → y.1.1 g = T.1 g) ∧ ∀ d, d < 4 → y.1.1 3 d = if d < k + 1 ∧ dsB (T.1 36 0) d = true then 0 else T.1 3 d) (fun W : MSt => (∀ g, g ≠ 3 → W.1 g = T.1 g) ∧ ∀ d, d < 4 → W.1 3 d = if d < K ∧ dsB (T.1 36 0) d = true then 0 else T.1 3 d)) := fun u hu => by
      rw [Ok_some, nI_1]
      refine ⟨hk2, rfl, fun g hg => ?_, fun d hd => ?_⟩
      · funext l
        rw [mI_at, if_neg (fun h => hg h.1), a1 g hg]
      · by_cases e : d = k
        · subst e
          rw [mI_eq, hu]
          have : (d < d + 1 ∧ dsB (T.1 36 0) d = true) ↔ dsB (T.1 36 0) d = true := ⟨fun h => h.2, fun h => ⟨by omega, h⟩⟩
          simp only [this]
        · rw [mI_at, if_neg (by omega), a2 d hd]
          have : (d < k ∧ dsB (T.1 36 0) d = true) ↔ (d < k + 1 ∧ dsB (T.1 36 0) d = true) := ⟨fun h => ⟨by omega, h.2⟩, fun h => ⟨by omega, h.2⟩⟩
          simp only [this]
    by_cases z : T.1 3 k = 0
    · rw [if_pos z]
      unfold m_X8_settle_J343 m_X8_settle_J344
      rw [b4, nI_clamp (by omega)]
      refine fin 0 ?_
      rw [z]
      split <;> rfl
    · rw [if_neg z]
      have z1 := (h3 k (by omega)).resolve_left z
      by_cases b : ((T.1 36 0 >>> (nI k &&& 31)) &&& 1) = 0
      · rw [if_neg (fun h => h b)]
        unfold m_X8_settle_J344
        rw [b4, nI_clamp (by omega)]
        refine fin 1 ?_
        rw [if_neg (by unfold dsB; simp [b]), z1]
      · rw [if_pos b]
        unfold m_X8_settle_J343 m_X8_settle_J344
        rw [b4, nI_clamp (by omega)]
        refine fin 0 ?_
        rw [if_pos (by unfold dsB; simp [b])]
/-- the reference behind a change -/
def SetM (T W : MSt) (c : Nat) : Prop :=
  (∀ g, g < 2 ∨ g = 14 ∨ g = 15 ∨ 17 < g → W.1 g = T.1 g) ∧ (∀ d, W.1 2 d = if d = c then T.1 2 c + 1 else T.1 2 d) ∧
  (∀ d, d < 4 → W.1 3 d = if d = c then (if T.1 35 0 = 0 then 1 else 0) else if dsB (T.1 36 0) d = true then 0 else T.1 3 d) ∧
  (∀ d, W.1 4 d = if d = c then T.1 28 0 else T.1 4 d) ∧ (∀ d, W.1 9 d = if d = c then T.1 4 c else T.1 9 d) ∧
  (∀ g d k, 5 ≤ g → g ≤ 8 → k < 6 → r6 (W.1 g) d k = if d = c then T.1 (g + 24) k else r6 (T.1 g) d k) ∧
  (∀ g d k, 10 ≤ g → g ≤ 13 → k < 6 → r6 (W.1 g) d k = if d = c then r6 (T.1 (g - 5)) c k else r6 (T.1 g) d k) ∧
  (∀ r k, r < 24 → k < 6 → r6 (W.1 16) r k = (if T.1 14 r = nI c then r6 (T.1 34) r k else r6 (T.1 16) r k) ∧ r6 (W.1 17) r k = if T.1 14 r = nI c then r6 (T.1 16) r k else r6 (T.1 17) r k)
theorem p_settle {n K : Nat} {T : MSt} {c : Nat} (hn : 200 < n) (hK : K ≤ 4) (hc : c < K) (h1 : T.1 1 0 = nI K) (h3 : ∀ d, d < 4 → T.1 3 d = 0 ∨ T.1 3 d = 1) (h36 : ∀ d, d < 4 → dsB (T.1 36 0) d = true → d < K) (h35 : T.1 35 0 = 0 → T.1 36 0 = 0) : Ok (m_X8_settle n T (nI c)) (fun W => SetM T W c) := by
  have hc4 : c < 4 := by omega
  have b4 : inB (nI c) 4 = true := inB_nI hc4 (by omega)
  unfold m_X8_settle
  refine ok_seq (p_settle1 hn hc4) (fun W1 q1 => ?_)
  obtain ⟨a1, a2, a3⟩ := q1
  rw [b4, nI_clamp (by omega)]
  show Ok ((lpO (b_X8_settle_194 n (nI c)) n (mI (mI W1 9 c (W1.1 4 c)) 4 c (W1.1 28 0), 0)).bind _) _
  generalize hX : mI (mI W1 9 c (W1.1 4 c)) 4 c (W1.1 28 0) = X
  have xo : ∀ g, g ≠ 4 → g ≠ 9 → X.1 g = W1.1 g := fun g g1 g2 => by
    funext l
    rw [← hX, mI_at, if_neg (fun h => g1 h.1), mI_at, if_neg (fun h => g2 h.1)]
  have x4 : ∀ d, X.1 4 d = if d = c then T.1 28 0 else T.1 4 d := fun d => by
    rw [← hX, mI_at, a1 28 (by omega), mI_at, if_neg (show ¬ ((4 : Nat) = 9 ∧ d = c) by omega), a1 4 (by omega)]
    by_cases e : d = c
    · rw [if_pos ⟨rfl, e⟩, if_pos e]
    · rw [if_neg (fun h => e h.2), if_neg e]
  have x9 : ∀ d, X.1 9 d = if d = c then T.1 4 c else T.1 9 d := fun d => by
    rw [← hX, mI_at, if_neg (show ¬ ((9 : Nat) = 4 ∧ d = c) by omega), mI_at, a1 4 (by omega), a1 9 (by omega)]
    by_cases e : d = c
    · rw [if_pos ⟨rfl, e⟩, if_pos e]
    · rw [if_neg (fun h => e h.2), if_neg e]
  refine ok_seq (p_settle2 hn hc4) (fun W2 q2 => ?_)
  obtain ⟨b1, b2⟩ := q2
  have e35 : (mI W2 2 c (W2.1 2 c + 1)).1 35 0 = T.1 35 0 := by
    rw [mI_at, if_neg (by omega), b1 35 (by omega) (by omega), xo 35 (by omega) (by omega), a1 35 (by omega)]
  have key : ∀ f : Int32, f = (if T.1 35 0 = 0 then 1 else 0) → Ok (m_X8_settle_J303 n (mI W2 2 c (W2.1 2 c + 1)) (nI c) f) (fun W => SetM T W c) := fun f hf => by
    have z : isZ f = true := by rw [hf]; split <;> rfl
    unfold m_X8_settle_J303
    rw [b4, z, nI_clamp (by omega)]
    show Ok ((lpO (b_X8_settle_306 n) n (mI (mI W2 2 c (W2.1 2 c + 1)) 3 c f, 0)).bind _) _
    generalize hY : mI (mI W2 2 c (W2.1 2 c + 1)) 3 c f = Y
    have yo : ∀ g, g ≠ 2 → g ≠ 3 → Y.1 g = W2.1 g := fun g g1 g2 => by
      funext l
      rw [← hY, mI_at, if_neg (fun h => g2 h.1), mI_at, if_neg (fun h => g1 h.1)]
    have y2 : ∀ d, Y.1 2 d = if d = c then T.1 2 c + 1 else T.1 2 d := fun d => by
      rw [← hY, mI_at, if_neg (show ¬ ((2 : Nat) = 3 ∧ d = c) by omega), mI_at, b1 2 (by omega) (by omega), xo 2 (by omega) (by omega), a1 2 (by omega)]
      by_cases e : d = c
      · rw [if_pos ⟨rfl, e⟩, if_pos e]
      · rw [if_neg (fun h => e h.2), if_neg e]
    have y3 : ∀ d, Y.1 3 d = if d = c then f else T.1 3 d := fun d => by
      rw [← hY, mI_at, mI_at, if_neg (fun h => by omega : ¬ ((3 : Nat) = 2 ∧ d = c)), b1 3 (by omega) (by omega), xo 3 (by omega) (by omega), a1 3 (by omega)]
      by_cases e : d = c
      · rw [if_pos ⟨rfl, e⟩, if_pos e]
      · rw [if_neg (fun h => e h.2), if_neg e]
    have yT : ∀ g, g ≠ 2 → g ≠ 3 → g ≠ 4 → g ≠ 9 → g ≠ 16 → g ≠ 17 → Y.1 g = W1.1 g := fun g c1 c2 c3 c4 c5 c6 => by rw [yo g c1 c2, b1 g c5 c6, xo g c3 c4]
    refine ok_seq (p_settle3 (K := K) hn hK (by rw [yT 1 (by omega) (by omega) (by omega) (by omega) (by omega) (by omega), a1 1 (by omega)]; exact h1) (fun d hd => ?_)) (fun W q3 => ?_)
    · rw [y3 d]
      split
      · rw [hf]
        split
        · exact Or.inr rfl
        · exact Or.inl rfl
      · exact h3 d hd
    · obtain ⟨d1, d2⟩ := q3
      rw [Ok_some]
      refine ⟨fun g hg => ?_, fun d => ?_, fun d hd => ?_, fun d => ?_, fun d => ?_, fun g d k g1 g2 hk => ?_, fun g d k g1 g2 hk => ?_, fun r k hr hk => ?_⟩
      · rw [d1 g (by omega), yT g (by omega) (by omega) (by omega) (by omega) (by omega) (by omega), a1 g (by omega)]
      · rw [d1 2 (by omega)]
        exact y2 d
      · rw [d2 d hd, y3 d, yT 36 (by omega) (by omega) (by omega) (by omega) (by omega) (by omega), a1 36 (by omega)]
        by_cases e : d = c
        · rw [if_pos e, if_pos e]
          subst e
          by_cases e35 : T.1 35 0 = 0
          · rw [if_neg (fun h => ?_), hf]
            have h0 : ∀ d, d < 4 → dsB 0 d = false := by decide
            rw [h35 e35, h0 d hd] at h
            exact absurd h.2 (by decide)
          · rw [hf, if_neg e35]
            split <;> rfl
        · rw [if_neg e, if_neg e]
          by_cases b : dsB (T.1 36 0) d = true
          · rw [if_pos ⟨h36 d hd b, b⟩, if_pos b]
          · rw [if_neg (fun h => b h.2), if_neg b]
      · rw [d1 4 (by omega), yo 4 (by omega) (by omega), b1 4 (by omega) (by omega)]
        exact x4 d
      · rw [d1 9 (by omega), yo 9 (by omega) (by omega), b1 9 (by omega) (by omega)]
        exact x9 d
      · unfold r6
        rw [d1 g (by omega), yT g (by omega) (by omega) (by omega) (by omega) (by omega) (by omega), a2 g _ g1 g2]
        by_cases e : d = c
        · rw [if_pos (by omega), if_pos e, show 6 * d + k - 6 * c = k by omega]
        · rw [if_neg (by omega), if_neg e]
      · unfold r6
        rw [d1 g (by omega), yT g (by omega) (by omega) (by omega) (by omega) (by omega) (by omega), a3 g _ g1 g2]
        by_cases e : d = c
        · rw [if_pos (by omega), if_pos e, e]
        · rw [if_neg (by omega), if_neg e]
      · unfold r6
        obtain ⟨u1, u2⟩ := b2 (6 * r + k) (by omega)
        rw [d1 16 (by omega), d1 17 (by omega), yo 16 (by omega) (by omega), yo 17 (by omega) (by omega), u1, u2, show (6 * r + k) / 6 = r by omega, xo 14 (by omega) (by omega), xo 16 (by omega) (by omega), xo 17 (by omega) (by omega), xo 34 (by omega) (by omega), a1 14 (by omega), a1 16 (by omega), a1 17 (by omega), a1 34 (by omega)]
        exact ⟨rfl, rfl⟩
  show Ok (if ¬ (mI W2 2 c (W2.1 2 c + 1)).1 35 0 = 0 then m_X8_settle_J303 n (mI W2 2 c (W2.1 2 c + 1)) (nI c) 0 else m_X8_settle_J303 n (mI W2 2 c (W2.1 2 c + 1)) (nI c) 1) _
  rw [e35]
  by_cases e : T.1 35 0 = 0
  · rw [if_neg (fun h => h e)]
    exact key 1 (by rw [if_pos e])
  · rw [if_pos e]
    exact key 0 (by rw [if_neg e])
