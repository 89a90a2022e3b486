/-! ===== formulas: longs as whole numbers ===== -/
theorem j_add {a b : Int64} (h1 : -9223372036854775808 ≤ a.toInt + b.toInt) (h2 : a.toInt + b.toInt < 9223372036854775808) : (a + b).toInt = a.toInt + b.toInt := by
  rw [Int64.toInt_add]
  exact Int.bmod_eq_of_le (by omega) (by omega)
theorem j_sub {a b : Int64} (h1 : -9223372036854775808 ≤ a.toInt - b.toInt) (h2 : a.toInt - b.toInt < 9223372036854775808) : (a - b).toInt = a.toInt - b.toInt := by
  rw [Int64.toInt_sub]
  exact Int.bmod_eq_of_le (by omega) (by omega)
theorem j_mul {a b : Int64} (h1 : -9223372036854775808 ≤ a.toInt * b.toInt) (h2 : a.toInt * b.toInt < 9223372036854775808) : (a * b).toInt = a.toInt * b.toInt := by
  rw [Int64.toInt_mul]
  exact Int.bmod_eq_of_le (by omega) (by omega)
theorem j_neg {a : Int64} (h1 : -9223372036854775808 ≤ -a.toInt) (h2 : -a.toInt < 9223372036854775808) : (-a).toInt = -a.toInt := by
  rw [Int64.toInt_neg]
  exact Int.bmod_eq_of_le (by omega) (by omega)
theorem j_div {a b : Int64} (h : -9223372036854775808 < a.toInt) : (a / b).toInt = a.toInt.tdiv b.toInt := Int64.toInt_div_of_ne_left a b (fun e => by
  rw [e] at h
  have : (Int64.minValue).toInt = -9223372036854775808 := by decide
  omega)
/-- no farther than a million millions -/
def nf (x : Int) : Prop := -1000000000000 ≤ x ∧ x ≤ 1000000000000
def opZ (w : Int32) (x y : Int) : Int := if w = 10 then x + y else if w = 11 then x - y else if w = 12 then x * y else if w = 13 then x.tdiv y else if w = 14 then (if y ≤ x then y else x) else (if x ≤ y then y else x)
def okZ (w : Int32) (x y : Int) : Prop := (w = 13 → y ≠ 0) ∧ (w = 12 → nf (x * y))
theorem tdiv_nf {x y : Int} (hx : nf x) : nf (x.tdiv y) := by
  have h1 : (x.tdiv y).natAbs ≤ x.natAbs := by
    rw [Int.natAbs_tdiv]
    exact Nat.div_le_self _ _
  unfold nf at hx ⊢
  omega
theorem opZ_nf2 {w : Int32} {x y : Int} (hx : nf x) (hy : nf y) (h : okZ w x y) : -2000000000000 ≤ opZ w x y ∧ opZ w x y ≤ 2000000000000 := by
  unfold opZ
  by_cases h0 : w = 10
  · rw [if_pos h0]; unfold nf at hx hy; omega
  rw [if_neg h0]
  by_cases h1 : w = 11
  · rw [if_pos h1]; unfold nf at hx hy; omega
  rw [if_neg h1]
  by_cases h2 : w = 12
  · rw [if_pos h2]
    have := h.2 h2
    unfold nf at this
    omega
  rw [if_neg h2]
  by_cases h3 : w = 13
  · rw [if_pos h3]
    have := tdiv_nf (y := y) hx
    unfold nf at this
    omega
  rw [if_neg h3]
  unfold nf at hx hy
  by_cases h4 : w = 14
  · rw [if_pos h4]; split <;> omega
  · rw [if_neg h4]; split <;> omega
theorem p_reckon {n : Nat} {S : MSt} {w : Int32} {a b : Int64} (ha : nf a.toInt) (hb : nf b.toInt) (h : okZ w a.toInt b.toInt) : ∃ z, m_X8_reckon n S w a b = some z ∧ z.toInt = opZ w a.toInt b.toInt := by
  unfold m_X8_reckon opZ
  unfold nf at ha hb
  by_cases h0 : w = 10
  · rw [if_pos h0, if_pos h0]; exact ⟨_, rfl, j_add (by omega) (by omega)⟩
  rw [if_neg h0, if_neg h0]
  by_cases h1 : w = 11
  · rw [if_pos h1, if_pos h1]; exact ⟨_, rfl, j_sub (by omega) (by omega)⟩
  rw [if_neg h1, if_neg h1]
  by_cases h2 : w = 12
  · rw [if_pos h2, if_pos h2]
    have := h.2 h2
    unfold nf at this
    exact ⟨_, rfl, j_mul (by omega) (by omega)⟩
  rw [if_neg h2, if_neg h2]
  by_cases h3 : w = 13
  · rw [if_pos h3, if_pos h3]
    have hne : ¬ b = 0 := fun e => h.1 h3 (by rw [e]; rfl)
    rw [decide_eq_true hne]
    exact ⟨_, rfl, j_div (by omega)⟩
  rw [if_neg h3, if_neg h3]
  by_cases h4 : w = 14
  · rw [if_pos h4, if_pos h4]
    by_cases h5 : b.toInt ≤ a.toInt
    · rw [if_pos ((lg_cmp_ge _ _).mpr (Int64.le_iff_toInt_le.mpr h5)), if_pos h5]; exact ⟨_, rfl, rfl⟩
    · rw [if_neg (fun h6 => h5 (Int64.le_iff_toInt_le.mp ((lg_cmp_ge _ _).mp h6))), if_neg h5]; exact ⟨_, rfl, rfl⟩
  · rw [if_neg h4, if_neg h4]
    by_cases h5 : a.toInt ≤ b.toInt
    · rw [if_pos ((lg_cmp_le _ _).mpr (Int64.le_iff_toInt_le.mpr h5)), if_pos h5]; exact ⟨_, rfl, rfl⟩
    · rw [if_neg (fun h6 => h5 (Int64.le_iff_toInt_le.mp ((lg_cmp_le _ _).mp h6))), if_neg h5]; exact ⟨_, rfl, rfl⟩
def mnZ (x y : Int) : Int := if y ≤ x then y else x
def mxZ (x y : Int) : Int := if x ≤ y then y else x
theorem p_min {n : Nat} {S : MSt} {a b : Int64} : ∃ z, m_X8_reckon n S 14 a b = some z ∧ z.toInt = mnZ a.toInt b.toInt := by
  unfold m_X8_reckon mnZ
  rw [if_neg (by decide), if_neg (by decide), if_neg (by decide), if_neg (by decide), if_pos rfl]
  by_cases h5 : b.toInt ≤ a.toInt
  · rw [if_pos ((lg_cmp_ge _ _).mpr (Int64.le_iff_toInt_le.mpr h5)), if_pos h5]; exact ⟨_, rfl, rfl⟩
  · rw [if_neg (fun h6 => h5 (Int64.le_iff_toInt_le.mp ((lg_cmp_ge _ _).mp h6))), if_neg h5]; exact ⟨_, rfl, rfl⟩
theorem p_max {n : Nat} {S : MSt} {a b : Int64} : ∃ z, m_X8_reckon n S 15 a b = some z ∧ z.toInt = mxZ a.toInt b.toInt := by
  unfold m_X8_reckon mxZ
  rw [if_neg (by decide), if_neg (by decide), if_neg (by decide), if_neg (by decide), if_neg (by decide)]
  by_cases h5 : a.toInt ≤ b.toInt
  · rw [if_pos ((lg_cmp_le _ _).mpr (Int64.le_iff_toInt_le.mpr h5)), if_pos h5]; exact ⟨_, rfl, rfl⟩
  · rw [if_neg (fun h6 => h5 (Int64.le_iff_toInt_le.mp ((lg_cmp_le _ _).mp h6))), if_neg h5]; exact ⟨_, rfl, rfl⟩
theorem q_apply {n : Nat} {S : CSt} {w : Int32} {a b : Int64} (hw : w = 10 ∨ w = 11 ∨ w = 12 ∨ w = 13 ∨ w = 14 ∨ w = 15) (ha : nf a.toInt) (hb : nf b.toInt) (h : okZ w a.toInt b.toInt) : ∃ z, m_X3_apply n S w a b = some z ∧ z.toInt = opZ w a.toInt b.toInt := by
  unfold m_X3_apply opZ
  unfold nf at ha hb
  by_cases h0 : w = 10
  · rw [if_pos h0, if_pos h0]; exact ⟨_, rfl, j_add (by omega) (by omega)⟩
  rw [if_neg h0, if_neg h0]
  by_cases h1 : w = 11
  · rw [if_pos h1, if_pos h1]; exact ⟨_, rfl, j_sub (by omega) (by omega)⟩
  rw [if_neg h1, if_neg h1]
  by_cases h2 : w = 12
  · rw [if_pos h2, if_pos h2]
    have := h.2 h2
    unfold nf at this
    exact ⟨_, rfl, j_mul (by omega) (by omega)⟩
  rw [if_neg h2, if_neg h2]
  by_cases h3 : w = 13
  · rw [if_pos h3, if_pos h3]
    have hne : ¬ b = 0 := fun e => h.1 h3 (by rw [e]; rfl)
    rw [if_pos (fun h5 => hne ((lg_cmp_eq _ _).mp h5)), decide_eq_true hne]
    exact ⟨_, rfl, j_div (by omega)⟩
  rw [if_neg h3, if_neg h3]
  by_cases h4 : w = 14
  · rw [if_pos h4, if_pos h4]
    by_cases h5 : b < a
    · rw [if_pos h5, if_pos (by have := Int64.lt_iff_toInt_lt.mp h5; omega)]; exact ⟨_, rfl, rfl⟩
    · rw [if_neg h5]
      have h6 : ¬ b.toInt < a.toInt := fun h6 => h5 (Int64.lt_iff_toInt_lt.mpr h6)
      by_cases h7 : b.toInt ≤ a.toInt
      · rw [if_pos h7]; exact ⟨_, rfl, by omega⟩
      · rw [if_neg h7]; exact ⟨_, rfl, rfl⟩
  · rw [if_neg h4, if_neg h4]
    have h9 : w = 15 := by
      rcases hw with e | e | e | e | e | e
      · exact absurd e h0
      · exact absurd e h1
      · exact absurd e h2
      · exact absurd e h3
      · exact absurd e h4
      · exact e
    rw [if_pos h9]
    by_cases h5 : b < a
    · rw [if_pos h5, if_neg (by have := Int64.lt_iff_toInt_lt.mp h5; omega)]; exact ⟨_, rfl, rfl⟩
    · rw [if_neg h5]
      have h6 : ¬ b.toInt < a.toInt := fun h6 => h5 (Int64.lt_iff_toInt_lt.mpr h6)
      rw [if_pos (by omega)]; exact ⟨_, rfl, rfl⟩
/-! too far -/
theorem far_iff {x y : Int} (hx : x ≠ 0) : (1000000000000 : Int).tdiv x.natAbs < y.natAbs ↔ ¬ nf (x * y) := by
  have hpos : 0 < x.natAbs := Int.natAbs_pos.mpr hx
  have e1 : (1000000000000 : Int).tdiv (x.natAbs : Int) = ((1000000000000 / x.natAbs : Nat) : Int) := by
    rw [show (1000000000000 : Int) = ((1000000000000 : Nat) : Int) from rfl]
    exact Int.ofNat_tdiv 1000000000000 x.natAbs
  rw [e1]
  have e2 : (x * y).natAbs = x.natAbs * y.natAbs := Int.natAbs_mul x y
  have e3 : ((1000000000000 / x.natAbs : Nat) : Int) < (y.natAbs : Int) ↔ 1000000000000 < y.natAbs * x.natAbs := by
    rw [Int.ofNat_lt]
    exact Nat.div_lt_iff_lt_mul hpos
  rw [e3, Nat.mul_comm, ← e2]
  unfold nf
  omega
theorem p_size {n : Nat} {S : MSt} {a : Int64} (ha : nf a.toInt) : ∃ z, m_X8_size n S a = some z ∧ z.toInt = (a.toInt.natAbs : Int) := by
  unfold m_X8_size
  unfold nf at ha
  by_cases h : 0 ≤ lg_cmp a 0
  · rw [if_pos h]
    have h2 := Int64.le_iff_toInt_le.mp ((lg_cmp_ge _ _).mp h)
    have e0 : (0 : Int64).toInt = 0 := by decide
    exact ⟨_, rfl, by omega⟩
  · rw [if_neg h]
    have h2 : ¬ (0 : Int64).toInt ≤ a.toInt := fun h3 => h ((lg_cmp_ge _ _).mpr (Int64.le_iff_toInt_le.mpr h3))
    have e0 : (0 : Int64).toInt = 0 := by decide
    refine ⟨_, rfl, ?_⟩
    rw [j_neg (by omega) (by omega)]
    omega
theorem p_isFar {n : Nat} {S : MSt} {a b : Int64} (ha : nf a.toInt) (hb : nf b.toInt) : (m_X8_isFar n S a b = some 1 ∧ ¬ nf (a.toInt * b.toInt)) ∨ (m_X8_isFar n S a b = some 0 ∧ nf (a.toInt * b.toInt)) := by
  unfold m_X8_isFar
  have e0 : (0 : Int64).toInt = 0 := by decide
  by_cases h : lg_cmp a 0 = 0
  · rw [if_pos h]
    have h2 := (lg_cmp_eq _ _).mp h
    refine Or.inr ⟨rfl, ?_⟩
    rw [h2, e0, Int.zero_mul]
    unfold nf; omega
  · rw [if_neg h]
    obtain ⟨z, hz, z1⟩ := p_size (n := n) (S := S) hb
    obtain ⟨y, hy, y1⟩ := p_size (n := n) (S := S) ha
    have hane : a.toInt ≠ 0 := fun e => h ((lg_cmp_eq _ _).mpr (Int64.toInt_inj.mp (by rw [e, e0])))
    have hyne : ¬ y = 0 := fun e => by
      rw [e, e0] at y1
      omega
    rw [hz, Option.bind_some, hy, Option.bind_some, decide_eq_true hyne]
    have hd : ((1000000000000 : Int64) / y).toInt = (1000000000000 : Int).tdiv (a.toInt.natAbs : Int) := by
      rw [j_div (by decide), y1]
      rfl
    have key := far_iff (x := a.toInt) (y := b.toInt) hane
    show ((if lg_cmp z (1000000000000 / y) ≤ 0 then some 0 else some 1) = some 1 ∧ _) ∨ ((if lg_cmp z (1000000000000 / y) ≤ 0 then some 0 else some 1) = some 0 ∧ _)
    by_cases h5 : lg_cmp z (1000000000000 / y) ≤ 0
    · rw [if_pos h5]
      have h6 := Int64.le_iff_toInt_le.mp ((lg_cmp_le _ _).mp h5)
      rw [hd, z1] at h6
      exact Or.inr ⟨rfl, Classical.byContradiction (fun h7 => by have := key.mpr h7; omega)⟩
    · rw [if_neg h5]
      have h6 : ¬ z.toInt ≤ ((1000000000000 : Int64) / y).toInt := fun h7 => h5 ((lg_cmp_le _ _).mpr (Int64.le_iff_toInt_le.mpr h7))
      rw [hd, z1] at h6
      exact Or.inl ⟨rfl, key.mp (by omega)⟩
theorem q_isTooFar {n : Nat} {S : CSt} {a b : Int64} (ha : nf a.toInt) (hb : nf b.toInt) : (m_X3_isTooFar n S a b = some 1 ∧ ¬ nf (a.toInt * b.toInt)) ∨ (m_X3_isTooFar n S a b = some 0 ∧ nf (a.toInt * b.toInt)) := by
  unfold m_X3_isTooFar
  have e0 : (0 : Int64).toInt = 0 := by decide
  by_cases h : lg_cmp b 0 = 0
  · rw [if_pos h]
    have h2 := (lg_cmp_eq _ _).mp h
    refine Or.inr ⟨rfl, ?_⟩
    rw [h2, e0, Int.mul_zero]
    unfold nf; omega
  · rw [if_neg h]
    have ab : ∀ {x : Int64}, nf x.toInt → ((if 0 < x then x else -x) : Int64).toInt = (x.toInt.natAbs : Int) := fun {x} hx => by
      unfold nf at hx
      by_cases h1 : 0 < x
      · rw [if_pos h1]
        have := Int64.lt_iff_toInt_lt.mp h1
        omega
      · rw [if_neg h1]
        have : ¬ (0 : Int64).toInt < x.toInt := fun h2 => h1 (Int64.lt_iff_toInt_lt.mpr h2)
        rw [j_neg (by omega) (by omega)]
        omega
    have hbne : b.toInt ≠ 0 := fun e => h ((lg_cmp_eq _ _).mpr (Int64.toInt_inj.mp (by rw [e, e0])))
    have hyne : ¬ (if 0 < b then b else -b) = 0 := fun e => by
      have := ab hb
      rw [e, e0] at this
      omega
    rw [decide_eq_true hyne]
    have hd : ((1000000000000 : Int64) / (if 0 < b then b else -b)).toInt = (1000000000000 : Int).tdiv (b.toInt.natAbs : Int) := by
      rw [j_div (by decide), ab hb]
      rfl
    have key := far_iff (x := b.toInt) (y := a.toInt) hbne
    rw [Int.mul_comm] at key
    show ((if lg_cmp (if 0 < a then a else -a) (1000000000000 / (if 0 < b then b else -b)) ≤ 0 then some 0 else some 1) = some 1 ∧ _) ∨ ((if lg_cmp (if 0 < a then a else -a) (1000000000000 / (if 0 < b then b else -b)) ≤ 0 then some 0 else some 1) = some 0 ∧ _)
    by_cases h5 : lg_cmp (if 0 < a then a else -a) (1000000000000 / (if 0 < b then b else -b)) ≤ 0
    · rw [if_pos h5]
      have h6 := Int64.le_iff_toInt_le.mp ((lg_cmp_le _ _).mp h5)
      rw [hd, ab ha] at h6
      exact Or.inr ⟨rfl, Classical.byContradiction (fun h7 => by have := key.mpr h7; omega)⟩
    · rw [if_neg h5]
      have h6 : ¬ ((if 0 < a then a else -a) : Int64).toInt ≤ ((1000000000000 : Int64) / (if 0 < b then b else -b)).toInt := fun h7 => h5 ((lg_cmp_le _ _).mpr (Int64.le_iff_toInt_le.mpr h7))
      rw [hd, ab ha] at h6
      exact Or.inl ⟨rfl, key.mp (by omega)⟩
