/-! ===== how all begins; the simulation ===== -/
theorem p_init {n : Nat} (hn : 200 < n) : Ok (m_X8_initT n M0) (fun W => (∀ r, r < 24 → W.1 14 r = -1) ∧ (∀ i, i < 8 → W.1 19 i = -1) ∧ ∀ g, g ≠ 14 → g ≠ 19 → W.1 g = M0.1 g) := by
  unfold m_X8_initT
  have l1 : Ok (lpO (b_X8_initT_283 n) n (M0, 0)) (fun W => (∀ r, r < 24 → W.1 14 r = -1) ∧ ∀ g, g ≠ 14 → W.1 g = M0.1 g) := by
    refine ok_for2 (N := 24) (by omega) (I := fun q W => (∀ r, r < q → W.1 14 r = -1) ∧ ∀ g, g ≠ 14 → W.1 g = M0.1 g) (fun k W hk hI => ?_) ⟨fun l hl => absurd hl (Nat.not_lt_zero _), fun _ _ => rfl⟩
    obtain ⟨a1, a2⟩ := hI
    unfold b_X8_initT_283
    dsimp only
    rw [Ok_ite]
    refine ⟨fun h3 => ?_, fun h3 => ?_⟩
    · rw [Ok_some]
      have ek : k = 24 := ge_eq (by decide) hk h3
      subst ek
      exact ⟨a1, a2⟩
    · have hk2 : k < 24 := nge_lt (by decide) hk h3
      rw [Ok_bif, Ok_nm, Ok_nm, Ok_some, nI_1, nI_clamp (by omega)]
      refine ⟨inB_nI hk2 (by omega), hk2, rfl, fun l hl => ?_, fun g hg => ?_⟩
      · by_cases e : l = k
        · rw [e, mI_eq]
        · rw [mI_at, if_neg (fun h => e h.2)]
          exact a1 l (by omega)
      · funext l
        rw [mI_at, if_neg (fun h => hg h.1), a2 g hg]
  refine ok_seq l1 (fun W1 q1 => ?_)
  obtain ⟨a1, a2⟩ := q1
  have l2 : Ok (lpO (b_X8_initT_304 n) n (W1, 0)) (fun W => (∀ r, r < 8 → W.1 19 r = -1) ∧ ∀ g, g ≠ 19 → W.1 g = W1.1 g) := by
    refine ok_for2 (N := 8) (by omega) (I := fun q W => (∀ r, r < q → W.1 19 r = -1) ∧ ∀ g, g ≠ 19 → W.1 g = W1.1 g) (fun k W hk hI => ?_) ⟨fun l hl => absurd hl (Nat.not_lt_zero _), fun _ _ => rfl⟩
    obtain ⟨b1, b2⟩ := hI
    unfold b_X8_initT_304
    dsimp only
    rw [Ok_ite]
    refine ⟨fun h3 => ?_, fun h3 => ?_⟩
    · rw [Ok_some]
      have ek : k = 8 := ge_eq (by decide) hk h3
      subst ek
      exact ⟨b1, b2⟩
    · have hk2 : k < 8 := nge_lt (by decide) hk h3
      rw [Ok_bif, Ok_nm, Ok_nm, Ok_some, nI_1, nI_clamp (by omega)]
      refine ⟨inB_nI hk2 (by omega), hk2, rfl, fun l hl => ?_, fun g hg => ?_⟩
      · by_cases e : l = k
        · rw [e, mI_eq]
        · rw [mI_at, if_neg (fun h => e h.2)]
          exact b1 l (by omega)
      · funext l
        rw [mI_at, if_neg (fun h => hg h.1), b2 g hg]
  refine ok_seq l2 (fun W q2 => ?_)
  obtain ⟨b1, b2⟩ := q2
  rw [Ok_some]
  exact ⟨fun r hr => by rw [b2 14 (by omega)]; exact a1 r hr, b1, fun g g1 g2 => by rw [b2 g g2, a2 g g1]⟩
theorem M0_at (g l : Nat) (h : g ≠ 26) : M0.1 g l = 0 := by
  unfold M0
  rw [mI_at, if_neg (fun h' => h h'.1)]
  rfl
theorem C0_at (g i l : Nat) (h : g ≠ 2) : C0.1 g i l = 0 := by
  unfold C0
  rw [sI_at, if_neg (fun h' => h h'.1)]
  rfl
theorem cn_zero {f : Nat → Bool} : ∀ (k : Nat), (∀ i, i < k → f i = false) → cn f k = 0
  | 0, _ => rfl
  | k + 1, h => by
    have h1 := cn_zero k (fun i hi => h i (by omega))
    show cn f k + (if f k = true then 1 else 0) = 0
    rw [h1, h k (by omega)]
    rfl
theorem rel0 {W : MSt} (h14 : ∀ r, r < 24 → W.1 14 r = -1) (h19 : ∀ i, i < 8 → W.1 19 i = -1) (ho : ∀ g, g ≠ 14 → g ≠ 19 → W.1 g = M0.1 g) : Rel 0 C0 W := by
  have z : ∀ g l, g ≠ 14 → g ≠ 19 → g ≠ 26 → W.1 g l = 0 := fun g l x1 x2 x3 => by rw [ho g x1 x2]; exact M0_at g l x3
  have n0 : ∀ m, m ≤ 12 → (0 : Int32) = nI m → m = 0 := fun m hm h => ((nI_eq (a := 0) (b := m) (by omega) (by omega)).mp h).symm
  have nF : ∀ r c k q, ¬ Fld (W.1 4) (W.1 6) (W.1 14) r c k q := fun r c k q h => by
    obtain ⟨hr, hc, x, -⟩ := h
    rw [h14 r hr] at x
    exact nI_ne_m1 (by omega) x.symm
  have z3 : ∀ c, ¬ W.1 3 c = 1 := fun c h => by
    rw [z 3 c (by omega) (by omega) (by omega)] at h
    exact one_ne h.symm
  refine ⟨0, 0, id, id, ⟨⟨by omega, z 1 0 (by omega) (by omega) (by omega), fun c hc => ⟨⟨0, by omega, z 2 c (by omega) (by omega) (by omega), fun h => absurd h (z3 c)⟩, Or.inl (z 3 c (by omega) (by omega) (by omega))⟩⟩, fun c hc => ⟨0, z 4 c (by omega) (by omega) (by omega), by omega, fun i hi => absurd hi (Nat.not_lt_zero _), fun i hi => absurd hi (Nat.not_lt_zero _)⟩, fun r hr => Or.inl (h14 r hr), ⟨fun r c k h => absurd h (nF _ _ _ _), fun r c k h => absurd h (nF _ _ _ _), fun r c k h => absurd h (nF _ _ _ _), fun r k r' k' p h => absurd h.choose_spec.1 (nF _ _ _ _)⟩, fun i hi => Or.inl (h19 i hi), ⟨id, fun c hc => hc, fun c _ d _ h => h, fun c m k d hc hm h4 hk => ?_⟩, fun c hc => ⟨0, by omega, z 9 c (by omega) (by omega) (by omega), fun h => absurd h (z3 c)⟩, ⟨0, by omega, z 20 0 (by omega) (by omega) (by omega), fun i hi => absurd hi (Nat.not_lt_zero _)⟩, ⟨0, by omega, z 22 0 (by omega) (by omega) (by omega), fun i hi => absurd hi (Nat.not_lt_zero _)⟩⟩, ⟨⟨C0_at 0 0 0 (by omega), fun c hc => ⟨?_, ?_⟩⟩, fun c m hc hm h4 => ?_, fun c m hc hm h9 h3 => absurd h3 (z3 c), ⟨fun r hr h => absurd (h14 r hr) h, fun e he h => absurd (C0_at 13 e 0 (by omega)) h⟩, ⟨by omega, C0_at 12 0 0 (by omega), fun e he h => absurd (C0_at 13 e 0 (by omega)) h, fun e he h => absurd (C0_at 13 e 0 (by omega)) h⟩, ?_, fun r c k q h => absurd h (nF _ _ _ _), fun i hi => ?_, fun c mo r k hc h3 => absurd h3 (z3 c), ⟨?_, fun w k hw h20 hk => ?_⟩, ⟨?_, fun q i hq h22 hi => ?_⟩, ?_⟩⟩
  · rw [z 4 c (by omega) (by omega) (by omega)] at h4
    have := n0 m (by omega) h4
    omega
  · rw [C0_at 3 c 0 (by omega), z 2 c (by omega) (by omega) (by omega)]
  · rw [C0_at 4 c 0 (by omega), z 3 c (by omega) (by omega) (by omega)]
  · rw [z 4 c (by omega) (by omega) (by omega)] at h4
    have e := n0 m (by omega) h4
    subst e
    exact ⟨C0_at 5 _ 0 (by omega), fun k hk => absurd hk (Nat.not_lt_zero _)⟩
  · show C0.1 11 0 0 = nI (cn (fun r => !decide (W.1 14 r = -1)) 24)
    rw [C0_at 11 0 0 (by omega), cn_zero 24 (fun i hi => by rw [h14 i hi]; rfl)]
    rfl
  · rw [C0_at 19 0 i (by omega), h19 i hi, tr_m1]
  · rw [C0_at 20 6 0 (by omega), z 20 0 (by omega) (by omega) (by omega)]
  · rw [z 20 0 (by omega) (by omega) (by omega)] at h20
    have := n0 w hw h20
    omega
  · rw [C0_at 1 0 0 (by omega), z 22 0 (by omega) (by omega) (by omega)]
  · rw [z 22 0 (by omega) (by omega) (by omega)] at h22
    have := n0 q (by omega) h22
    omega
  · rw [ho 26 (by omega) (by omega)]
    rfl
theorem sim : Sim := by
  obtain ⟨W, eW, h1, h2, h3⟩ := p_init (n := 2000) (by omega)
  exact ⟨2000, Rel, W, eW, rel0 h1 h2 h3, fun j C M _ h => Rel_up h, do_newClass 2000, do_make 2000 (by omega), do_get 2000 (by omega), do_set 2000 (by omega), do_link 2000 (by omega), do_follow 2000 (by omega), do_drop 2000, do_same 2000, do_word 2000, do_step 2000 (by omega), do_change 2000 (by omega), do_takeBack 2000 (by omega), do_versionOf 2000 (by omega), do_touch 2000 (by omega), do_sweep 2000 (by omega), do_collect 2000 (by omega), do_about 2000 (by omega), do_field 2000, do_fault 2000⟩
