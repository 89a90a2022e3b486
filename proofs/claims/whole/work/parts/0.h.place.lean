/-! ===== fields by their names ===== -/
theorem p_find {n : Nat} {M : MSt} {c m : Nat} {x : Int32} (hn : 6 < n) (hc : c < 4) (h6 : m ≤ 6) (hm : M.1 4 c = nI m) : m_X8_find n M (nI c) x = some (plc (r6 (M.1 5) c) m x) := by
  have h : Ok (lpO (b_X8_find_5 n M (nI c) x) n (-1, 0)) (fun b => b = plc (r6 (M.1 5) c) m x) := by
    refine ok_for2 (N := m) (by omega) (I := fun k a => a = plc (r6 (M.1 5) c) k x) (fun k a hk ha => ?_) rfl
    unfold b_X8_find_5
    rw [Ok_bif, nI_clamp (by omega), hm, Ok_ite]
    refine ⟨inB_nI hc (by omega), fun h => ?_, fun h => ?_⟩
    · rw [Ok_some]
      have e : k = m := ge_eq (by omega) hk h
      rw [← e]
      exact ha
    · have hk2 : k < m := nge_lt (by omega) hk h
      show Ok (bif inB (6 * nI c + nI k) 24 then _ else none) _
      rw [Ok_bif, ix6, nI_clamp (by omega), Ok_ite]
      refine ⟨inB_nI (by omega) (by omega), fun h2 => ?_, fun h2 => ?_⟩
      · rw [Ok_nm, Ok_some]
        refine ⟨hk2, nI_1 k, ?_⟩
        show a = if r6 (M.1 5) c k = x then _ else _
        rw [if_neg (show ¬ r6 (M.1 5) c k = x from h2)]
        exact ha
      · rw [Ok_nm, Ok_some]
        refine ⟨hk2, nI_1 k, ?_⟩
        show nI k = if r6 (M.1 5) c k = x then _ else _
        rw [if_pos (show r6 (M.1 5) c k = x from Decidable.not_not.mp h2)]
  unfold m_X8_find
  rw [ok_get h]
  rfl
theorem q_placeOf {n : Nat} {S : CSt} {i m : Nat} {x : Int32} {f : Nat → Int32} (hn : 6 < n) (h6 : m ≤ 6) (hm : S.1 5 i 0 = nI m) (hf : ∀ k, k < m → S.1 6 i k = f k) (hd : ∀ a, a < m → ∀ b, b < m → f a = f b → a = b) : m_X4_placeOf n S i x = some (plc f m x) := by
  have h : Ok (lpO (b_X4_placeOf_2 n S i x) n 0) (sumE (fun w => w = plc f m x) (fun _ => plc f m x = -1)) := by
    refine ok_for1 (N := m) (by omega) (I := fun k => ∀ e, e < k → f e ≠ x) (fun k hk hi => ?_) (fun e he => absurd he (Nat.not_lt_zero _))
    unfold b_X4_placeOf_2
    rw [hm, Ok_ite]
    refine ⟨fun h => ?_, fun h => ?_⟩
    · rw [Ok_some]
      have e : k = m := ge_eq (by omega) hk h
      rw [e] at hi
      exact plc_none hi
    · have hk2 : k < m := nge_lt (by omega) hk h
      rw [Ok_bif, nI_clamp (by omega), Ok_ite, hf k hk2]
      refine ⟨inB_nI (by omega) (by omega), fun h2 => ?_, fun h2 => ?_⟩
      · rw [Ok_nm, Ok_some]
        refine ⟨hk2, nI_1 k, fun e he => ?_⟩
        rcases Nat.lt_succ_iff_lt_or_eq.mp he with h4 | h4
        · exact hi e h4
        · rw [h4]; exact h2
      · rw [Ok_some]
        exact (plc_eq hd hk2 (Decidable.not_not.mp h2)).symm
  obtain ⟨o, ho, hq⟩ := h
  unfold m_X4_placeOf
  rw [ho]
  cases o with
  | inl w => exact congrArg some hq
  | inr w => exact congrArg some (show plc f m x = -1 from hq).symm
theorem q_isThere {n : Nat} {S : CSt} {i m k : Nat} (h6 : m ≤ 6) (hm : S.1 5 i 0 = nI m) (hk : k < m) : m_X4_isThere n S i (nI k) = some 1 := by
  unfold m_X4_isThere
  rw [hm, if_neg (nI_pos (by omega)), if_neg (nI_ge hk (by omega))]
theorem q_isThere0 {n : Nat} {S : CSt} {i : Nat} : m_X4_isThere n S i (-1) = some 0 := if_pos m1_lt
theorem q_isNumber {n : Nat} {S : CSt} {i m k : Nat} (h6 : m ≤ 6) (hm : S.1 5 i 0 = nI m) (hk : k < m) : m_X4_isNumber n S i (nI k) = some (if S.1 7 i k = 0 then 1 else 0) := by
  unfold m_X4_isNumber
  rw [q_isThere h6 hm hk, Option.bind_some, if_neg one_ne, inB_nI (by omega : k < 6) (by omega), nI_clamp (by omega)]
  show (if ¬ S.1 7 i k = 0 then _ else _) = _
  by_cases h : S.1 7 i k = 0 <;> simp [h]
theorem q_isNumber0 {n : Nat} {S : CSt} {i : Nat} : m_X4_isNumber n S i (-1) = some 0 := by
  unfold m_X4_isNumber
  rw [q_isThere0]
  rfl
theorem q_isRef {n : Nat} {S : CSt} {i m k : Nat} (h6 : m ≤ 6) (hm : S.1 5 i 0 = nI m) (hk : k < m) : m_X4_isReference n S i (nI k) = some (if S.1 7 i k = 0 then 0 else 1) := by
  unfold m_X4_isReference
  rw [q_isThere h6 hm hk, Option.bind_some, if_neg one_ne, inB_nI (by omega : k < 6) (by omega), nI_clamp (by omega)]
  show (if S.1 7 i k = 0 then _ else _) = _
  by_cases h : S.1 7 i k = 0 <;> simp [h]
theorem q_isRef0 {n : Nat} {S : CSt} {i : Nat} : m_X4_isReference n S i (-1) = some 0 := by
  unfold m_X4_isReference
  rw [q_isThere0]
  rfl
theorem q_isOwn {n : Nat} {S : CSt} {i m k : Nat} (h6 : m ≤ 6) (hm : S.1 5 i 0 = nI m) (hk : k < m) : m_X4_isOwning n S i (nI k) = some (if S.1 7 i k = 2 then 1 else 0) := by
  unfold m_X4_isOwning
  rw [q_isThere h6 hm hk, Option.bind_some, if_neg one_ne, inB_nI (by omega : k < 6) (by omega), nI_clamp (by omega)]
  show (if ¬ S.1 7 i k = 2 then _ else _) = _
  by_cases h : S.1 7 i k = 2 <;> simp [h]
theorem q_isOwn0 {n : Nat} {S : CSt} {i : Nat} : m_X4_isOwning n S i (-1) = some 0 := by
  unfold m_X4_isOwning
  rw [q_isThere0]
  rfl
/-! ===== writes that meet ===== -/
theorem mI_twice (M : MSt) (f k : Nat) (a b : Int32) : mI (mI M f k a) f k b = mI M f k b := by
  refine Prod.ext (funext fun g => funext fun l => ?_) rfl
  rw [mI_at, mI_at, mI_at]
  by_cases h : g = f ∧ l = k
  · rw [if_pos h, if_pos h]
  · rw [if_neg h, if_neg h, if_neg h]
theorem mI_comm (M : MSt) {f g : Nat} (k l : Nat) (a b : Int32) (h : f ≠ g) : mI (mI M f k a) g l b = mI (mI M g l b) f k a := by
  refine Prod.ext (funext fun i => funext fun j => ?_) rfl
  rw [mI_at, mI_at, mI_at, mI_at]
  by_cases h1 : i = f ∧ j = k
  · have h2 : ¬ (i = g ∧ j = l) := fun h2 => h (h1.1.symm.trans h2.1)
    rw [if_neg h2, if_pos h1, if_pos h1]
  · rw [if_neg h1, if_neg h1]
theorem p_placeN {n : Nat} {M : MSt} {i a p c m : Nat} {y : Int32} (hn : 6 < n) (hi : i < 8) (ha : a < 10) (hp : p < 24) (hc : c < 4) (h19 : M.1 19 i = nI p) (h14 : M.1 14 p = nI c) (h6 : m ≤ 6) (hm : M.1 4 c = nI m) (hz : plc (r6 (M.1 5) c) m (nI a) = -1) : m_X8_place n M (nI i) (nI a) y = some (-1, mI M 0 0 2) := by
  unfold m_X8_place
  rw [p_isRoot n M hi, Option.bind_some, if_neg one_ne, p_isName n M ha, Option.bind_some, if_pos one_ne, inB_nI hi (by omega), nI_clamp (by omega), h19, if_pos (nI_pos' (by omega))]
  unfold m_X8_place_J33
  rw [code0, inB_nI hi (by omega), nI_clamp (by omega)]
  show (bif inB (M.1 19 i) 24 then nm (M.1 14 (M.1 19 i).toNatClampNeg) _ else none) = _
  rw [h19, inB_nI hp (by omega), nI_clamp (by omega), h14]
  show (m_X8_find n (mI M 0 0 0) (nI c) (nI a)).bind _ = _
  rw [p_find (M := mI M 0 0 0) hn hc h6 hm, Option.bind_some]
  show (if plc (r6 (M.1 5) c) m (nI a) < 0 then m_X8_place_J101 n (mI M 0 0 0) (plc (r6 (M.1 5) c) m (nI a)) else _) = _
  rw [hz, if_pos m1_lt]
  show some (-1, mI (mI M 0 0 0) 0 0 2) = _
  rw [mI_twice]
theorem p_place {n : Nat} {M : MSt} {i a p c m k : Nat} {y : Int32} (hn : 6 < n) (hi : i < 8) (ha : a < 10) (hp : p < 24) (hc : c < 4) (h19 : M.1 19 i = nI p) (h14 : M.1 14 p = nI c) (h6 : m ≤ 6) (hm : M.1 4 c = nI m) (hz : plc (r6 (M.1 5) c) m (nI a) = nI k) (hk : k < m) : m_X8_place n M (nI i) (nI a) y = if y = (if r6 (M.1 6) c k = 0 then 1 else 0) then some (nI k, mI M 0 0 0) else some (-1, mI M 0 0 2) := by
  unfold m_X8_place
  rw [p_isRoot n M hi, Option.bind_some, if_neg one_ne, p_isName n M ha, Option.bind_some, if_pos one_ne, inB_nI hi (by omega), nI_clamp (by omega), h19, if_pos (nI_pos' (by omega))]
  unfold m_X8_place_J33
  rw [code0, inB_nI hi (by omega), nI_clamp (by omega)]
  show (bif inB (M.1 19 i) 24 then nm (M.1 14 (M.1 19 i).toNatClampNeg) _ else none) = _
  rw [h19, inB_nI hp (by omega), nI_clamp (by omega), h14]
  show (m_X8_find n (mI M 0 0 0) (nI c) (nI a)).bind _ = _
  rw [p_find (M := mI M 0 0 0) hn hc h6 hm, Option.bind_some]
  show (if plc (r6 (M.1 5) c) m (nI a) < 0 then _ else (bif inB (6 * nI c + plc (r6 (M.1 5) c) m (nI a)) 24 then if ¬ M.1 6 (6 * nI c + plc (r6 (M.1 5) c) m (nI a)).toNatClampNeg = 0 then m_X8_place_J94 n (mI M 0 0 0) (plc (r6 (M.1 5) c) m (nI a)) y 0 else m_X8_place_J94 n (mI M 0 0 0) (plc (r6 (M.1 5) c) m (nI a)) y 1 else none)) = _
  rw [hz, if_neg (nI_pos (by omega)), ix6, inB_nI (by omega) (by omega), nI_clamp (by omega)]
  show (if ¬ r6 (M.1 6) c k = 0 then m_X8_place_J94 n (mI M 0 0 0) (nI k) y 0 else m_X8_place_J94 n (mI M 0 0 0) (nI k) y 1) = _
  have e : ∀ b : Int32, m_X8_place_J94 n (mI M 0 0 0) (nI k) y b = if y = b then some (nI k, mI M 0 0 0) else some (-1, mI M 0 0 2) := fun b => by
    unfold m_X8_place_J94
    by_cases h : y = b
    · rw [if_neg (fun h2 => h2 h), if_pos h]
      show some (nI k, mI (mI M 0 0 0) 0 0 0) = _
      rw [mI_twice]
    · rw [if_pos h, if_neg h]
      show some (-1, mI (mI M 0 0 0) 0 0 2) = _
      rw [mI_twice]
  by_cases h : r6 (M.1 6) c k = 0
  · rw [if_neg (fun h2 => h2 h), if_pos h, e]
  · rw [if_pos h, if_neg h, e]
/-- a class's fields: what both find -/
theorem fld_cases {j K L : Nat} {σ τ : Nat → Nat} {C : CSt} {M : MSt} (hM : MI K M.1) (hC : CR j K L σ τ C.1 M.1) {c n : Nat} (hn : 6 < n) (hc : c < 4) (x : Int32) : ∃ m, m ≤ 6 ∧ M.1 4 c = nI m ∧ C.1 5 (2 * c) 0 = nI m ∧ m_X4_placeOf n C (2 * c) x = some (plc (r6 (M.1 5) c) m x) ∧ (plc (r6 (M.1 5) c) m x = -1 ∨ ∃ k, k < m ∧ plc (r6 (M.1 5) c) m x = nI k ∧ C.1 7 (2 * c) k = r6 (M.1 6) c k ∧ C.1 8 (2 * c) k = r6 (M.1 7) c k ∧ C.1 9 (2 * c) k = r6 (M.1 8) c k) := by
  obtain ⟨m, hm, hS⟩ := hM.2.1 c hc
  obtain ⟨h1, h2⟩ := hC.2.1 c m hc hS.1 hm
  refine ⟨m, hS.1, hm, h1, q_placeOf hn hS.1 h1 (fun k hk => (h2 k hk).1) hS.2.1, ?_⟩
  rcases plc_spec (r6 (M.1 5) c) x m with ⟨h3, -⟩ | ⟨k, h3, h4, -⟩
  · exact Or.inl h3
  · exact Or.inr ⟨k, h3, h4, (h2 k h3).2.1, (h2 k h3).2.2.1, (h2 k h3).2.2.2⟩
theorem p_placeX {n : Nat} {M : MSt} {x a y : Int32} (h : x < 0 ∨ nI 8 ≤ x) : m_X8_place n M x a y = some (-1, mI M 0 0 1) := by
  unfold m_X8_place
  rw [p_isRoot0 n M h]
  rfl
theorem p_placeY {n : Nat} {M : MSt} {i : Nat} {a y : Int32} (hi : i < 8) (h : a < 0 ∨ nI 10 ≤ a) : m_X8_place n M (nI i) a y = some (-1, mI M 0 0 1) := by
  unfold m_X8_place
  rw [p_isRoot n M hi, Option.bind_some, if_neg one_ne, p_isName0 n M h]
  rfl
theorem p_place0 {n : Nat} {M : MSt} {i a : Nat} {y : Int32} (hi : i < 8) (ha : a < 10) (h19 : M.1 19 i = -1) : m_X8_place n M (nI i) (nI a) y = some (-1, mI M 0 0 2) := by
  unfold m_X8_place
  rw [p_isRoot n M hi, Option.bind_some, if_neg one_ne, p_isName n M ha, Option.bind_some, if_pos one_ne, inB_nI hi (by omega), nI_clamp (by omega), h19]
  rfl
theorem q_numPlace {n : Nat} {S : CSt} {e c m : Nat} {x : Int32} (hc : c < 4) (h14 : S.1 14 e 0 = nI c) {z : Int32} (hz : m_X4_placeOf n S (2 * c) x = some z) : m_X7_numberPlace n S e x = (m_X4_isNumber n S (2 * c) z).bind (fun z15 => if ¬ z15 = 0 then some (.inl z) else some (.inr (2, S))) := by
  unfold m_X7_numberPlace
  rw [h14, inB_nI hc (by omega), nI_clamp (by omega), hz]
  rfl
theorem q_refPlace {n : Nat} {S : CSt} {e c m : Nat} {x : Int32} (hc : c < 4) (h14 : S.1 14 e 0 = nI c) {z : Int32} (hz : m_X4_placeOf n S (2 * c) x = some z) : m_X7_referencePlace n S e x = (m_X4_isReference n S (2 * c) z).bind (fun z15 => if ¬ z15 = 0 then some (.inl z) else some (.inr (2, S))) := by
  unfold m_X7_referencePlace
  rw [h14, inB_nI hc (by omega), nI_clamp (by omega), hz]
  rfl
