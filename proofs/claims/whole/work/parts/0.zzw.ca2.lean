/-! ===== change: the class carries out ===== -/
theorem q_carryL {n j K L q : Nat} {σ τ : Nat → Nat} {D S0 : CSt} {B : MSt} {c m0 : Nat} {Ts : Nat → MSt} {ms : Nat → Nat} (hn : 200 < n) (hb : Base j K L q σ τ D B c m0) (h35 : B.1 35 0 = 0) (hC : ChnP n j K B D σ c m0 q Ts ms) (hL : L + 144 ≤ 200 * j) (hL2 : L + 144 < 2 ^ 30) (h0 : JC j K B D σ c m0 S0 B m0 L) : Ok (lpO (b_X7_carryOut_43 n (nI c) (nI q) c) n (S0, 1, 0)) (fun w => JC j K B D σ c m0 w.1 (Ts q) (ms q) (L + 144) ∧ w.2 = if (Ts q).1 35 0 = 0 then 1 else 0) := by
  have hq6 : q ≤ 6 := hb.2.2.2.2.2.1
  refine ok_for3 (N := q) (by omega) (I := fun k S f => JC j K B D σ c m0 S (Ts k) (ms k) (L + 24 * k) ∧ f = if (Ts k).1 35 0 = 0 then (1 : Int32) else 0) (fun k S f hk hI => ?_) ⟨by rw [hC.1, hC.2.1]; exact h0, by rw [hC.1, if_pos h35]⟩
  obtain ⟨hJ, hf⟩ := hI
  unfold b_X7_carryOut_43
  dsimp only
  rw [Ok_ite]
  refine ⟨fun h3 => ?_, fun h3 => ?_⟩
  · rw [Ok_some]
    have ek := ge_eq (by omega) hk h3
    subst ek
    exact ⟨JC_mono hJ (by omega), hf⟩
  · have hk2 := nge_lt (by omega) hk h3
    rw [if_neg (show ¬ (6 : Int32) ≤ nI k from nI_ge (b := 6) (by omega) (by decide)), Ok_bif, nI_clamp (by omega), JC_row hJ 22 (by omega)]
    refine ⟨inB_nI (by omega) (by omega), ?_⟩
    obtain ⟨-, -, -, hA, h5, h6⟩ := hC.2.2 k hk2
    have hcar := hA S (L + 24 * k) hJ (by omega) (by omega)
    have bar : (D.1 22 k 0 = 5 ∨ D.1 22 k 0 = 6) → Ok (m_X7_carryOut_J84 n S (nI c) (nI q) c (nI k) k) (sumE (fun y => k < q ∧ y.2.2 = nI (k + 1) ∧ JC j K B D σ c m0 y.1 (Ts (k + 1)) (ms (k + 1)) (L + 24 * (k + 1)) ∧ y.2.1 = if (Ts (k + 1)).1 35 0 = 0 then 1 else 0) (fun w => JC j K B D σ c m0 w.1 (Ts q) (ms q) (L + 144) ∧ w.2 = if (Ts q).1 35 0 = 0 then 1 else 0)) := fun h => by
      unfold m_X7_carryOut_J84
      refine ok_seq (hcar.1 h) (fun S1 h1 => ?_)
      unfold m_X7_carryOut_J93
      refine ok_seq h1 (fun S2 h2 => ok_seq h2 (fun S3 h3 => ?_))
      rw [Ok_nm, Ok_some, nI_1]
      refine ⟨hk2, rfl, JC_mono h3 (by omega), ?_⟩
      rw [h5 h, if_neg one_ne]
    by_cases k5 : D.1 22 k 0 = 5
    · rw [if_pos k5]
      exact bar (Or.inl k5)
    · rw [if_neg k5]
      by_cases k6 : D.1 22 k 0 = 6
      · rw [if_neg (fun h => h k6)]
        exact bar (Or.inr k6)
      · rw [if_pos k6]
        have hno : ¬ (D.1 22 k 0 = 5 ∨ D.1 22 k 0 = 6) := fun h => h.elim k5 k6
        unfold m_X7_carryOut_J93
        refine ok_seq (hcar.2 hno) (fun S2 h2 => ok_seq h2 (fun S3 h3 => ?_))
        rw [Ok_nm, Ok_some, nI_1]
        refine ⟨hk2, rfl, JC_mono h3 (by omega), ?_⟩
        rw [h6 hno]
        exact hf
/-- the class when all is carried out -/
def fS (S : CSt) (c m : Nat) (f : Int32) : CSt := sI (sI (cpS S (2 * c) 8 m) 3 c 0 (S.1 3 c 0 + 1)) 4 c 0 f
theorem q_carryOut {n j K L q : Nat} {σ τ : Nat → Nat} {D S0 : CSt} {M B : MSt} {c m0 : Nat} {Ts : Nat → MSt} {ms : Nat → Nat} (hn : 200 < n) (hb : Base j K L q σ τ D B c m0) (hB : BegM M B c m0) (hA : JA D S0) (hC : ChnP n j K B D σ c m0 q Ts ms) (hL : L + 144 ≤ 200 * j) (hL2 : L + 144 < 2 ^ 30) : Ok (m_X7_carryOut n S0 (nI c) (nI q)) (fun S' => ∃ S, JC j K B D σ c m0 S (Ts q) (ms q) (L + 144) ∧ S' = fS S c (ms q) (if (Ts q).1 35 0 = 0 then 1 else 0)) := by
  have hc : c < 4 := by have := hb.1.1.1; have := hb.2.2.1; omega
  unfold m_X7_carryOut
  rw [Ok_bif, nI_clamp (by omega)]
  refine ⟨inB_nI hc (by omega), ok_seq (q_carry0 hn hb hB hA) (fun S1 h1 => ok_seq h1 (fun S2 h2 => ok_seq h2 (fun S3 h3 => ok_seq (q_carryL hn hb hB.2.2.2.1 hC hL hL2 h3) (fun w hw => ?_))))⟩
  obtain ⟨hJ, hf⟩ := hw
  obtain ⟨-, -, -, -, -, hDE, -⟩ := id hJ
  have e3 : (cpS w.1 (2 * c) 8 (ms q)).1 3 c 0 = w.1.1 3 c 0 := by rw [cpS_at _ _ _ _ _ _ _ (by omega), if_neg (by omega)]
  rw [q_copyFrom (n := n) (S := w.1) (i := 2 * c) (i2 := 8) (by omega) (by omega) hDE.1 hDE.2.1, Ok_bind, Ok_some, Ok_nm, Ok_bif, Ok_nm, Ok_some]
  refine ⟨by rw [hf]; split <;> rfl, w.1, hJ, ?_⟩
  unfold fS
  rw [e3, hf]
theorem fS_at (S : CSt) (c m : Nat) (f : Int32) (g i l : Nat) (hc : c < 4) : (fS S c m f).1 g i l = if g = 4 ∧ i = c ∧ l = 0 then f else if g = 3 ∧ i = c ∧ l = 0 then S.1 3 c 0 + 1 else (cpS S (2 * c) 8 m).1 g i l := by
  unfold fS
  rw [sI_at, sI_at]
theorem fS_o (S : CSt) (c m : Nat) (f : Int32) (g : Nat) (hc : c < 4) (h : g < 3 ∨ 10 < g) : (fS S c m f).1 g = S.1 g := by
  funext i l
  rw [fS_at _ _ _ _ _ _ _ hc, if_neg (by omega), if_neg (by omega), cpS_at _ _ _ _ _ _ _ (by omega), if_neg (by omega)]
theorem fS_ne (S : CSt) (c m : Nat) (f : Int32) (g i : Nat) (hc : c < 4) (h : 5 ≤ g) (h2 : i ≠ 2 * c) : (fS S c m f).1 g i = S.1 g i := by
  funext l
  rw [fS_at _ _ _ _ _ _ _ hc, if_neg (by omega), if_neg (by omega), cpS_ne _ (by omega) h2]
theorem fS_sh (S : CSt) (c m : Nat) (f : Int32) (hc : c < 4) : (fS S c m f).1 5 (2 * c) 0 = nI m ∧ ∀ k, k < m → (fS S c m f).1 6 (2 * c) k = S.1 6 8 k ∧ (fS S c m f).1 7 (2 * c) k = S.1 7 8 k ∧ (fS S c m f).1 8 (2 * c) k = S.1 8 8 k ∧ (fS S c m f).1 9 (2 * c) k = S.1 9 8 k := by
  obtain ⟨p1, p2⟩ := cpS_sh S (i := 2 * c) (i2 := 8) (m := m) (by omega)
  refine ⟨?_, fun k hk => ?_⟩
  · rw [fS_at _ _ _ _ _ _ _ hc, if_neg (by omega), if_neg (by omega)]
    exact p1
  · rw [fS_at _ _ _ _ 6 _ _ hc, if_neg (by omega), if_neg (by omega), fS_at _ _ _ _ 7 _ _ hc, if_neg (by omega), if_neg (by omega), fS_at _ _ _ _ 8 _ _ hc, if_neg (by omega), if_neg (by omega), fS_at _ _ _ _ 9 _ _ hc, if_neg (by omega), if_neg (by omega)]
    exact p2 k hk
