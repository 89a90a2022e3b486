/-! ===== change: one step, both sides ===== -/
/-- how a change of class c begins: q steps, class D beside reference B -/
def Base (j K L q : Nat) (σ τ : Nat → Nat) (D : CSt) (B : MSt) (c m0 : Nat) : Prop :=
  MI K B.1 ∧ CR j K L σ τ D.1 B.1 ∧ c < K ∧ B.1 4 c = nI m0 ∧ m0 ≤ 6 ∧ q ≤ 6 ∧
  (∀ i, i < q → StOk K (B.1 23 (5 * i)) (B.1 23 (5 * i + 1)) (B.1 23 (5 * i + 2)) (B.1 23 (5 * i + 3)) (B.1 23 (5 * i + 4)) ∧ (B.1 23 (5 * i) = 2 → ∃ l, l ≤ 12 ∧ B.1 24 i = nI l ∧ (∀ k, k < l → isW (B.1 25 (12 * i + k))) ∧ rgt (fun k => B.1 25 (12 * i + k)) l = some 1)) ∧
  (∀ i, i < q → D.1 22 i 0 = B.1 23 (5 * i) ∧ D.1 23 i 0 = B.1 23 (5 * i + 1) ∧ D.1 24 i 0 = B.1 23 (5 * i + 2) ∧ D.1 25 i 0 = B.1 23 (5 * i + 3) ∧ D.1 26 i 0 = B.1 23 (5 * i + 4) ∧ (B.1 23 (5 * i) = 2 → D.1 20 i 0 = B.1 24 i ∧ ∀ l k, l ≤ 12 → B.1 24 i = nI l → k < l → D.1 21 i k = B.1 25 (12 * i + k)))
/-- the class while it looks whether the script can be done -/
def JB (D S : CSt) (T : MSt) (m : Nat) (rec : Int32) : Prop := DE S T m ∧ (∀ g, g ≠ 27 → (g < 5 ∨ 10 < g) → S.1 g = D.1 g) ∧ (∀ g i, 5 ≤ g → g ≤ 10 → i ≠ 8 → S.1 g i = D.1 g i) ∧ rec = nI (cn (fun r => !decide (T.1 14 r = -1)) 24)
def Carry (n : Nat) (D : CSt) (c i : Nat) (S : CSt) (Q : CSt → Prop) : Prop := ((D.1 22 i 0 = 5 ∨ D.1 22 i 0 = 6) → Ok (m_X7_barTakeBackOfPart n S i) (fun S0 => Ok (m_X7_moveAll n S0 i (nI c)) (fun S1 => Ok (m_X7_reshape n S1 i) Q))) ∧ (¬ (D.1 22 i 0 = 5 ∨ D.1 22 i 0 = 6) → Ok (m_X7_moveAll n S i (nI c)) (fun S1 => Ok (m_X7_reshape n S1 i) Q))
def Acc (n j K : Nat) (B : MSt) (D : CSt) (σ : Nat → Nat) (c m0 i : Nat) (T : MSt) (m : Nat) (T' : MSt) (m' : Nat) : Prop :=
  JM K B T' c m0 m' ∧
  (∀ S rec, JB D S T m rec → Ok (m_X7_canDo n S i (nI c) rec) (fun o => o.1 = 1 ∧ FrP S o.2)) ∧
  (∀ S rec, JB D S T m rec → ∃ mk, m_X7_recordsMade n S i (nI c) = some mk ∧ Ok (m_X7_reshape n S i) (fun S' => JB D S' T' m' (rec + mk))) ∧
  (∀ S L1, JC j K B D σ c m0 S T m L1 → L1 + 24 ≤ 200 * j → L1 + 24 < 2 ^ 30 → Carry n D c i S (fun S' => JC j K B D σ c m0 S' T' m' (L1 + 24))) ∧
  ((D.1 22 i 0 = 5 ∨ D.1 22 i 0 = 6) → T'.1 35 0 = 1) ∧ (¬ (D.1 22 i 0 = 5 ∨ D.1 22 i 0 = 6) → T'.1 35 0 = T.1 35 0)
def Rej (n : Nat) (B : MSt) (D : CSt) (c i : Nat) (T : MSt) (m : Nat) (T' : MSt) : Prop := FrT B T' ∧ ∀ S rec, JB D S T m rec → Ok (m_X7_canDo n S i (nI c) rec) (fun o => o.1 = 0 ∧ FrP S o.2)
def StepT (n j K : Nat) (B : MSt) (D : CSt) (σ : Nat → Nat) (c m0 i : Nat) (T : MSt) (m : Nat) : Prop := ∃ T', (m_X8_act n T (nI i) = some (0, T') ∧ Rej n B D c i T m T') ∨ ∃ m', m_X8_act n T (nI i) = some (1, T') ∧ Acc n j K B D σ c m0 i T m T' m'
def chk (z : Int32 × MSt) : Option (Int32 × MSt) := bif isZ z.1 then some (z.1, z.2) else none
theorem p_act {n i : Nat} {T : MSt} (hi : i < 6) : m_X8_act n T (nI i) = (if T.1 23 (5 * i) = 0 then (m_X8_dropField n T (T.1 23 (5 * i + 1))).bind chk else if T.1 23 (5 * i) = 1 then (m_X8_nameField n T (T.1 23 (5 * i + 1)) (T.1 23 (5 * i + 2))).bind chk else if T.1 23 (5 * i) = 2 then (m_X8_numberField n T (nI i) (T.1 23 (5 * i + 1)) (T.1 23 (5 * i + 2)) (T.1 23 (5 * i + 3))).bind chk else if T.1 23 (5 * i) = 3 then (if ¬ T.1 23 (5 * i + 4) = 1 then (m_X8_rangeField n T (T.1 23 (5 * i + 1)) (T.1 23 (5 * i + 2)) (T.1 23 (5 * i + 3)) 0).bind chk else (m_X8_rangeField n T (T.1 23 (5 * i + 1)) (T.1 23 (5 * i + 2)) (T.1 23 (5 * i + 3)) 1).bind chk) else if T.1 23 (5 * i) = 4 then (m_X8_referenceField n T (T.1 23 (5 * i + 1)) (T.1 23 (5 * i + 2))).bind chk else if T.1 23 (5 * i) = 5 then (m_X8_splitField n T (T.1 23 (5 * i + 1)) (T.1 23 (5 * i + 2)) (T.1 23 (5 * i + 3))).bind chk else (m_X8_joinField n T (T.1 23 (5 * i + 1))).bind chk) := by
  have e1 : 5 * nI i + 1 = nI (5 * i + 1) := by rw [ix5]; exact nI_1 _
  have e2 : 5 * nI i + 2 = nI (5 * i + 2) := by rw [ix5]; exact nI_add _ 2
  have e3 : 5 * nI i + 3 = nI (5 * i + 3) := by rw [ix5]; exact nI_add _ 3
  have e4 : 5 * nI i + 4 = nI (5 * i + 4) := by rw [ix5]; exact nI_add _ 4
  unfold m_X8_act
  rw [e1, e2, e3, e4, ix5, inB_nI (by omega : 5 * i + 1 < 30) (by omega), inB_nI (by omega : 5 * i + 2 < 30) (by omega), inB_nI (by omega : 5 * i + 3 < 30) (by omega), inB_nI (by omega : 5 * i < 30) (by omega), inB_nI (by omega : 5 * i + 4 < 30) (by omega), nI_clamp (by omega), nI_clamp (by omega), nI_clamp (by omega), nI_clamp (by omega), nI_clamp (by omega)]
  rfl
theorem chk0 (T : MSt) : chk (0, T) = some (0, T) := rfl
theorem chk1 (T : MSt) : chk (1, T) = some (1, T) := rfl
theorem JB_step {D S S' : CSt} {T T' : MSt} {m m' : Nat} {rec : Int32} (h : JB D S T m rec) (hd : DE S' T' m') (hf : FrD S S') (h14 : T'.1 14 = T.1 14) : JB D S' T' m' (rec + 0) := by
  obtain ⟨a1, a2, a3, a4⟩ := h
  refine ⟨hd, fun g g1 g2 => by rw [hf.1 g g2, a2 g g1 g2], fun g i g1 g2 g3 => by rw [hf.2 g i g1 g2 g3, a3 g i g1 g2 g3], ?_⟩
  rw [h14, Int32.add_zero, a4]
theorem JC_mono {j K : Nat} {B T : MSt} {D S : CSt} {σ : Nat → Nat} {c m0 m L1 L2 : Nat} (h : JC j K B D σ c m0 S T m L1) (hL : L1 ≤ L2) : JC j K B D σ c m0 S T m L2 := by
  obtain ⟨σ', τ', L', h1, h2⟩ := h
  exact ⟨σ', τ', L', by omega, h2⟩
theorem JC_row {j K : Nat} {B T : MSt} {D S : CSt} {σ : Nat → Nat} {c m0 m L1 : Nat} (h : JC j K B D σ c m0 S T m L1) : ∀ g, g = 1 ∨ (20 ≤ g ∧ g ≤ 26) → S.1 g = D.1 g := h.choose_spec.choose_spec.choose_spec.2.2.2.2.2.2.1
theorem q_made0 {n i : Nat} {S : CSt} {x : Int32} (h5 : ¬ S.1 22 i 0 = 5) (h6 : ¬ S.1 22 i 0 = 6) : m_X7_recordsMade n S i x = some 0 := by
  unfold m_X7_recordsMade
  rw [if_pos h5, if_pos h6]
theorem frT_of {K : Nat} {B T : MSt} {c m0 m : Nat} (h : JM K B T c m0 m) : FrT B T := h.2.2.2.2.2.1
/-- a step that makes and takes no record -/
theorem step_plain {n j K L q : Nat} {σ τ : Nat → Nat} {D : CSt} {B T T' : MSt} {c m0 m m' i : Nat} (hb : Base j K L q σ τ D B c m0) (hi : i < q) (hk5 : ¬ D.1 22 i 0 = 5) (hk6 : ¬ D.1 22 i 0 = 6) (hM' : JM K B T' c m0 m') (fr14 : T'.1 14 = T.1 14) (fr35 : T'.1 35 = T.1 35)
    (hcan : ∀ S rec, JB D S T m rec → Ok (m_X7_canDo n S i (nI c) rec) (fun o => o.1 = 1 ∧ FrP S o.2))
    (hresh : ∀ S rec, JB D S T m rec → Ok (m_X7_reshape n S i) (fun S' => DE S' T' m' ∧ FrD S S'))
    (hcar : ∀ S L1, JC j K B D σ c m0 S T m L1 → Ok (m_X7_moveAll n S i (nI c)) (fun S1 => Ok (m_X7_reshape n S1 i) (fun S' => JC j K B D σ c m0 S' T' m' L1))) : Acc n j K B D σ c m0 i T m T' m' := by
  refine ⟨hM', hcan, fun S rec h => ⟨0, ?_, ok_mono (hresh S rec h) (fun S' hS' => JB_step h hS'.1 hS'.2 fr14)⟩, fun S L1 h _ _ => ⟨fun h56 => ?_, fun _ => ok_mono (hcar S L1 h) (fun S1 h1 => ok_mono h1 (fun S' h2 => JC_mono h2 (by omega)))⟩, fun h56 => ?_, fun _ => by rw [fr35]⟩
  · have e : S.1 22 = D.1 22 := h.2.1 22 (by omega) (by omega)
    exact q_made0 (by rw [e]; exact hk5) (by rw [e]; exact hk6)
  · rcases h56 with h | h
    · exact absurd h hk5
    · exact absurd h hk6
  · rcases h56 with h | h
    · exact absurd h hk5
    · exact absurd h hk6
