/-! ===== sets of names ===== -/
def bt (s a : Nat) : Bool := decide (s / 2 ^ a % 2 = 1)
theorem bt_test (s a : Nat) : bt s a = s.testBit a := (Nat.testBit_eq_decide_div_mod_eq).symm
theorem sh_a : ∀ a, a < 10 → ((nI a &&& 31).toBitVec.smod 32).toNat = a := by decide +kernel
theorem isIn_bt {s a : Nat} (hs : s < 2 ^ 31) (ha : a < 10) : ((nI s >>> (nI a &&& 31)) &&& 1) = 1 ↔ bt s a = true := by
  rw [pk_shrN hs _ a (sh_a a ha), pk_andN (Nat.lt_of_le_of_lt (Nat.div_le_self _ _) (by omega)) 1 (by decide)]
  unfold bt
  rw [decide_eq_true_eq]
  have h2 : s / 2 ^ a % 2 ^ 1 < 2 := by
    have : s / 2 ^ a % 2 < 2 := Nat.mod_lt _ (by decide)
    exact this
  exact nI_eq (b := 1) (by omega) (by decide)
theorem q_isIn {n : Nat} {S : CSt} {s a : Nat} (hs : s < 2 ^ 31) (ha : a < 10) : m_X7_isIn n S (nI a) (nI s) = some (if bt s a = true then 1 else 0) := by
  unfold m_X7_isIn
  by_cases h : bt s a = true
  · rw [if_neg (fun h2 => h2 ((isIn_bt hs ha).mpr h)), if_pos h]
  · rw [if_pos (fun h2 => h ((isIn_bt hs ha).mp h2)), if_neg h]
theorem one_shl : ∀ a, a < 10 → (1 : Int32) <<< (nI a &&& 31) = nI (2 ^ a) := by decide +kernel
theorem bt_one : ∀ a, a < 10 → ∀ x, x < 10 → (bt (2 ^ a) x = decide (x = a)) := by decide +kernel
theorem pow_lt : ∀ a, a < 10 → 2 ^ a < 1024 := by decide +kernel
theorem nI_or (a b : Nat) : nI a ||| nI b = nI (a ||| b) := Int32.toBitVec_inj.mp (by
  show BitVec.ofNat 32 a ||| BitVec.ofNat 32 b = BitVec.ofNat 32 (a ||| b)
  exact (BitVec.ofNat_or).symm)
theorem bt_or (s a x : Nat) : bt (s ||| 2 ^ a) x = (bt s x || decide (a = x)) := by
  rw [bt_test, bt_test, Nat.testBit_or, Nat.testBit_two_pow]
theorem or_lt {s a : Nat} (hs : s < 1024) (ha : a < 10) : s ||| 2 ^ a < 1024 := Nat.or_lt_two_pow (n := 10) hs (pow_lt a ha)
def clr (s a : Nat) : Nat := s &&& (1023 ^^^ 2 ^ a)
theorem bt_clr {s a x : Nat} (ha : a < 10) (hx : x < 10) : bt (clr s a) x = (bt s x && !decide (a = x)) := by
  unfold clr
  rw [bt_test, bt_test, Nat.testBit_and, Nat.testBit_xor, Nat.testBit_two_pow]
  have : ∀ x, x < 10 → Nat.testBit 1023 x = true := by decide +kernel
  rw [this x hx]
  cases h : decide (a = x) <;> simp
theorem clr_lt {s a : Nat} (hs : s < 1024) : clr s a < 1024 := Nat.lt_of_le_of_lt Nat.and_le_left hs
theorem and_clr : ∀ s, s < 1024 → ∀ a, a < 10 → nI s &&& (((1 : Int32) <<< (nI a &&& 31)) ^^^ (-1)) = nI (clr s a) := by decide +kernel
theorem bt_ext {s t : Nat} (hs : s < 1024) (ht : t < 1024) (h : ∀ x, x < 10 → bt s x = bt t x) : s = t := by
  refine Nat.eq_of_testBit_eq (fun i => ?_)
  rcases Nat.lt_or_ge i 10 with h1 | h1
  · rw [← bt_test, ← bt_test]; exact h i h1
  · have h2 : 2 ^ 10 ≤ 2 ^ i := Nat.pow_le_pow_right (by decide) h1
    rw [Nat.testBit_lt_two_pow (by omega), Nat.testBit_lt_two_pow (by omega)]
/-! ===== the class's draft: fields are squeezed out ===== -/
def kp (S : CSt) (x0 s : Nat) (k : Nat) : Bool := !bt s (S.1 6 x0 k).toNatClampNeg
def sqB (f n x0 x1 : Nat) (x2 : Int32) : (CSt × Int32 × Int32) → Option ((CSt × Int32 × Int32) ⊕ (CSt × Int32)) := fun x => if (x.1.1 5 x0 0) ≤ x.2.2 then (some (.inr (x.1, x.2.1))) else (bif inB x.2.2 6 then ((m_X7_isIn n x.1 (x.1.1 6 x0 x.2.2.toNatClampNeg) x2).bind (fun z30 => if ¬ z30 = 0 then (nm (x.2.2 + 1) (fun x32 => some (.inl (x.1, x.2.1, x32)))) else (bif inB x.2.2 6 then (bif inB x.2.1 6 then (nm (sI x.1 f x1 x.2.1.toNatClampNeg (x.1.1 f x1 x.2.2.toNatClampNeg)) (fun S35 => nm (x.2.1 + 1) (fun x36 => nm (x.2.2 + 1) (fun x37 => some (.inl (S35, x36, x37)))))) else none) else none))) else none)
theorem q_sqz {n f x0 x1 m s : Nat} {S : CSt} (hn : 6 < n) (h6 : m ≤ 6) (hm : S.1 5 x0 0 = nI m) (hf : f ≠ 5) (hna : ∀ k, k < m → ∃ a, a < 10 ∧ S.1 6 x0 k = nI a) (hs : s < 2 ^ 31) : Ok (lpO (sqB f n x0 x1 (nI s)) n (S, 0, 0)) (fun w => w.2 = nI (cn (kp S x0 s) m) ∧ ∃ row, w.1 = sF S f row ∧ (∀ j, j ≠ x1 → row j = S.1 f j) ∧ (∀ i, i < m → kp S x0 s i = true → row x1 (cn (kp S x0 s) i) = S.1 f x1 i) ∧ ∀ l, m ≤ l → row x1 l = S.1 f x1 l) := by
  refine ok_for3 (N := m) (by omega) (I := fun k T a => a = nI (cn (kp S x0 s) k) ∧ ∃ row, T = sF S f row ∧ (∀ j, j ≠ x1 → row j = S.1 f j) ∧ (∀ i, i < k → kp S x0 s i = true → row x1 (cn (kp S x0 s) i) = S.1 f x1 i) ∧ ∀ l, k ≤ l → row x1 l = S.1 f x1 l) (fun k T a hk hI => ?_) ⟨rfl, S.1 f, sF_self S f rfl, fun _ _ => rfl, fun i hi => absurd hi (Nat.not_lt_zero _), fun _ _ => rfl⟩
  obtain ⟨ha, row, r1, r2, r3, r4⟩ := hI
  subst ha
  have hck := cn_le (kp S x0 s) k
  have t5 : T.1 5 = S.1 5 := by rw [r1, sF_at, if_neg (fun h => hf h.symm)]
  have t6 : T.1 6 x0 k = S.1 6 x0 k := by
    rw [r1, sF_at]
    by_cases e : 6 = f
    · rw [if_pos e]
      by_cases e2 : x0 = x1
      · rw [e2, r4 k (Nat.le_refl _), ← e]
      · rw [r2 x0 e2, ← e]
    · rw [if_neg e]
  have tf : T.1 f x1 k = S.1 f x1 k := by
    rw [r1, sF_at, if_pos rfl, r4 k (Nat.le_refl _)]
  unfold sqB
  dsimp only
  rw [t5, hm, Ok_ite]
  refine ⟨fun h => ?_, fun h => ?_⟩
  · have e : k = m := ge_eq (by omega) hk h
    rw [Ok_some]
    subst e
    exact ⟨rfl, row, r1, r2, r3, r4⟩
  · have hk2 : k < m := nge_lt (by omega) hk h
    obtain ⟨b, hb, eb⟩ := hna k hk2
    have hkp : kp S x0 s k = !bt s b := by
      unfold kp
      rw [eb, nI_clamp (by omega)]
    rw [Ok_bif, nI_clamp (by omega), t6, eb, q_isIn hs hb, Ok_bind, Ok_some, Ok_ite, tf]
    refine ⟨inB_nI (by omega) (by omega), fun h2 => ?_, fun h2 => ?_⟩
    · have hbt : bt s b = true := Decidable.byContradiction (fun h3 => h2 (if_neg h3))
      have hno : ¬ kp S x0 s k = true := by rw [hkp, hbt]; decide
      rw [Ok_nm, Ok_some]
      refine ⟨hk2, nI_1 k, by rw [cn_f hno], row, r1, r2, fun i hi hp => ?_, fun l hl => r4 l (by omega)⟩
      rcases Nat.lt_succ_iff_lt_or_eq.mp hi with h4 | h4
      · exact r3 i h4 hp
      · rw [h4] at hp; exact absurd hp hno
    · have hbt : ¬ bt s b = true := fun h3 => h2 (by rw [if_pos h3]; exact one_ne)
      have hyes : kp S x0 s k = true := by
        rw [hkp]
        cases h4 : bt s b
        · rfl
        · exact absurd h4 hbt
      rw [Ok_bif, Ok_bif, Ok_nm, Ok_nm, Ok_nm, Ok_some, nI_clamp (by omega)]
      refine ⟨inB_nI (by omega) (by omega), inB_nI (by omega) (by omega), hk2, nI_1 k, by rw [cn_t hyes, nI_1], fun j l => if j = x1 ∧ l = cn (kp S x0 s) k then S.1 f x1 k else row j l, ?_, fun j hj => ?_, fun i hi hp => ?_, fun l hl => ?_⟩
      · show sI T f x1 (cn (kp S x0 s) k) (S.1 f x1 k) = _
        rw [r1]
        exact sI_sF _ _ _ _ _ _ _ (fun j l => rfl)
      · funext l
        show (if j = x1 ∧ l = cn (kp S x0 s) k then _ else row j l) = _
        rw [if_neg (fun h => hj h.1), r2 j hj]
      · show (if x1 = x1 ∧ cn (kp S x0 s) i = cn (kp S x0 s) k then _ else row x1 (cn (kp S x0 s) i)) = _
        rcases Nat.lt_succ_iff_lt_or_eq.mp hi with h4 | h4
        · have := rk_lt h4 hp
          rw [if_neg (by omega)]
          exact r3 i h4 hp
        · rw [h4, if_pos ⟨rfl, rfl⟩]
      · show (if x1 = x1 ∧ l = cn (kp S x0 s) k then _ else row x1 l) = _
        rw [if_neg (by omega)]
        exact r4 l (by omega)
/-- of the draft's m fields those are left that are kept -/
def RemC (S T : CSt) (m : Nat) (keep : Nat → Bool) : Prop := (∀ g, g < 5 ∨ 10 < g → T.1 g = S.1 g) ∧ (∀ g j, 5 ≤ g → g ≤ 10 → j ≠ 8 → T.1 g j = S.1 g j) ∧ T.1 5 8 0 = nI (cn keep m) ∧ (∀ g i, 6 ≤ g → g ≤ 10 → i < m → keep i = true → T.1 g 8 (cn keep i) = S.1 g 8 i) ∧ T.2 = S.2
theorem q_removeAll {n m s : Nat} {S : CSt} (hn : 6 < n) (h6 : m ≤ 6) (hm : S.1 5 8 0 = nI m) (hna : ∀ k, k < m → ∃ a, a < 10 ∧ S.1 6 8 k = nI a) (hs : s < 2 ^ 31) : Ok (m_X4_removeAll n S 8 (nI s)) (fun T => RemC S T m (kp S 8 s)) := by
  unfold m_X4_removeAll
  obtain ⟨w7, hw7, v7, row7, a1, a2, a3, -⟩ := q_sqz (f := 7) (x1 := 8) hn h6 hm (by decide) hna hs
  obtain ⟨w8, hw8, v8, row8, b1, b2, b3, -⟩ := q_sqz (f := 8) (x1 := 8) (S := sF S 7 row7) hn h6 hm (by decide) hna hs
  obtain ⟨w9, hw9, v9, row9, c1, c2, c3, -⟩ := q_sqz (f := 9) (x1 := 8) (S := sF (sF S 7 row7) 8 row8) hn h6 hm (by decide) hna hs
  obtain ⟨w10, hw10, v10, row10, d1, d2, d3, -⟩ := q_sqz (f := 10) (x1 := 8) (S := sF (sF (sF S 7 row7) 8 row8) 9 row9) hn h6 hm (by decide) hna hs
  obtain ⟨w6, hw6, v6, row6, e1, e2, e3, -⟩ := q_sqz (f := 6) (x1 := 8) (S := sF (sF (sF (sF S 7 row7) 8 row8) 9 row9) 10 row10) hn h6 hm (by decide) hna hs
  have k7 : m_X4_squeeze_a7 n S 8 8 (nI s) = some (w7.2, sF S 7 row7) := by
    show (lpO (sqB 7 n 8 8 (nI s)) n (S, 0, 0)).bind _ = _
    rw [hw7, Option.bind_some, a1]
  have k8 : m_X4_squeeze_a8 n (sF S 7 row7) 8 8 (nI s) = some (w8.2, sF (sF S 7 row7) 8 row8) := by
    show (lpO (sqB 8 n 8 8 (nI s)) n (sF S 7 row7, 0, 0)).bind _ = _
    rw [hw8, Option.bind_some, b1]
  have k9 : m_X4_squeeze_a9 n (sF (sF S 7 row7) 8 row8) 8 8 (nI s) = some (w9.2, sF (sF (sF S 7 row7) 8 row8) 9 row9) := by
    show (lpO (sqB 9 n 8 8 (nI s)) n (sF (sF S 7 row7) 8 row8, 0, 0)).bind _ = _
    rw [hw9, Option.bind_some, c1]
  have k10 : m_X4_squeeze_a10 n (sF (sF (sF S 7 row7) 8 row8) 9 row9) 8 8 (nI s) = some (w10.2, sF (sF (sF (sF S 7 row7) 8 row8) 9 row9) 10 row10) := by
    show (lpO (sqB 10 n 8 8 (nI s)) n (sF (sF (sF S 7 row7) 8 row8) 9 row9, 0, 0)).bind _ = _
    rw [hw10, Option.bind_some, d1]
  have k6 : m_X4_squeeze_a6 n (sF (sF (sF (sF S 7 row7) 8 row8) 9 row9) 10 row10) 8 8 (nI s) = some (w6.2, sF (sF (sF (sF (sF S 7 row7) 8 row8) 9 row9) 10 row10) 6 row6) := by
    show (lpO (sqB 6 n 8 8 (nI s)) n (sF (sF (sF (sF S 7 row7) 8 row8) 9 row9) 10 row10, 0, 0)).bind _ = _
    rw [hw6, Option.bind_some, e1]
  rw [k7, Ok_bind, Ok_some, k8, Ok_bind, Ok_some, k9, Ok_bind, Ok_some, k10, Ok_bind, Ok_some, k6, Ok_bind, Ok_some, Ok_nm, Ok_some, v6]
  show RemC S (sI (sF (sF (sF (sF (sF S 7 row7) 8 row8) 9 row9) 10 row10) 6 row6) 5 8 0 (nI (cn (kp S 8 s) m))) m (kp S 8 s)
  refine ⟨fun g hg => ?_, fun g j hg1 hg2 hj => ?_, sI_eq _ _ _ _ _, fun g i hg1 hg2 hi hp => ?_, rfl⟩
  · funext j l
    rw [sI_at, if_neg (by omega), sF_at, if_neg (by omega), sF_at, if_neg (by omega), sF_at, if_neg (by omega), sF_at, if_neg (by omega), sF_at, if_neg (by omega)]
  · have hgs : g = 5 ∨ g = 6 ∨ g = 7 ∨ g = 8 ∨ g = 9 ∨ g = 10 := by omega
    funext l
    rw [sI_at, if_neg (fun h => hj h.2.1)]
    rcases hgs with e | e | e | e | e | e <;> subst e
    · rfl
    · show row6 j l = _
      rw [e2 j hj]; rfl
    · show row7 j l = _
      rw [a2 j hj]
    · show row8 j l = _
      rw [b2 j hj]; rfl
    · show row9 j l = _
      rw [c2 j hj]; rfl
    · show row10 j l = _
      rw [d2 j hj]; rfl
  · have hgs : g = 6 ∨ g = 7 ∨ g = 8 ∨ g = 9 ∨ g = 10 := by omega
    rw [sI_at, if_neg (by omega)]
    rcases hgs with e | e | e | e | e <;> subst e
    · exact e3 i hi hp
    · exact a3 i hi hp
    · exact b3 i hi hp
    · exact c3 i hi hp
    · exact d3 i hi hp
/-- the draft of both -/
def DE (S : CSt) (T : MSt) (m : Nat) : Prop := m ≤ 6 ∧ S.1 5 8 0 = nI m ∧ T.1 28 0 = nI m ∧ ∀ k, k < m → S.1 6 8 k = T.1 29 k ∧ S.1 7 8 k = T.1 30 k ∧ S.1 8 8 k = T.1 31 k ∧ S.1 9 8 k = T.1 32 k ∧ S.1 10 8 k = T.1 33 k
def RemM (T T' : MSt) (m : Nat) (keep : Nat → Bool) : Prop := (∀ g, g < 28 ∨ 34 < g → T'.1 g = T.1 g) ∧ T'.1 28 0 = nI (cn keep m) ∧ (∀ g i, 29 ≤ g → g ≤ 33 → i < m → keep i = true → T'.1 g (cn keep i) = T.1 g i) ∧ ∀ r i, r < 24 → i < m → keep i = true → r6 (T'.1 34) r (cn keep i) = r6 (T.1 34) r i
theorem DE_rem {S S' : CSt} {T T' : MSt} {m : Nat} {keep : Nat → Bool} (h : DE S T m) (hs : RemC S S' m keep) (ht : RemM T T' m keep) : DE S' T' (cn keep m) := by
  obtain ⟨h1, h2, h3, h4⟩ := h
  refine ⟨by have := cn_le keep m; omega, hs.2.2.1, ht.2.1, fun j hj => ?_⟩
  obtain ⟨i, i1, i2, i3⟩ := rk_sur hj
  obtain ⟨a1, a2, a3, a4, a5⟩ := h4 i i1
  subst i3
  rw [hs.2.2.2.1 6 i (by omega) (by omega) i1 i2, hs.2.2.2.1 7 i (by omega) (by omega) i1 i2, hs.2.2.2.1 8 i (by omega) (by omega) i1 i2, hs.2.2.2.1 9 i (by omega) (by omega) i1 i2, hs.2.2.2.1 10 i (by omega) (by omega) i1 i2, ht.2.2.1 29 i (by omega) (by omega) i1 i2, ht.2.2.1 30 i (by omega) (by omega) i1 i2, ht.2.2.1 31 i (by omega) (by omega) i1 i2, ht.2.2.1 32 i (by omega) (by omega) i1 i2, ht.2.2.1 33 i (by omega) (by omega) i1 i2]
  exact ⟨a1, a2, a3, a4, a5⟩
theorem cn_ne (k0 : Nat) : ∀ i, cn (fun i => !decide (i = k0)) i = if i ≤ k0 then i else i - 1
  | 0 => (if_pos (Nat.zero_le _)).symm
  | i + 1 => by
    have ih := cn_ne k0 i
    by_cases h : i = k0
    · rw [cn_f (by simp [h]), ih, if_pos (by omega), if_neg (by omega)]
      omega
    · rw [cn_t (by simp [h]), ih]
      by_cases h2 : i ≤ k0
      · rw [if_pos h2, if_pos (by omega)]
      · rw [if_neg h2, if_neg (by omega)]
        omega
theorem tkF_rem {T : MSt} {k0 m : Nat} (h6 : m ≤ 6) (hk0 : k0 < m) : RemM T (tkF T k0 m (m - 1)) m (fun i => !decide (i = k0)) := by
  refine ⟨fun g hg => tkF_o _ _ _ _ _ hg, ?_, fun g i hg1 hg2 hi hp => ?_, fun r i hr hi hp => ?_⟩
  · rw [cn_ne, if_neg (by omega)]
    rfl
  · simp only [Bool.not_eq_true', decide_eq_false_iff_not] at hp
    rw [cn_ne, tkF_a _ _ _ _ _ _ hg1 hg2]
    by_cases h : i ≤ k0
    · rw [if_pos h, if_neg (by omega)]
    · rw [if_neg h, if_pos (by omega), show i - 1 + 1 = i by omega]
  · simp only [Bool.not_eq_true', decide_eq_false_iff_not] at hp
    rw [cn_ne]
    unfold r6
    show (if 6 * r + (if i ≤ k0 then i else i - 1) < 144 ∧ k0 ≤ (6 * r + (if i ≤ k0 then i else i - 1)) % 6 ∧ (6 * r + (if i ≤ k0 then i else i - 1)) % 6 < m - 1 then T.1 34 (6 * r + (if i ≤ k0 then i else i - 1) + 1) else T.1 34 (6 * r + (if i ≤ k0 then i else i - 1))) = T.1 34 (6 * r + i)
    by_cases h : i ≤ k0
    · rw [if_pos h, if_neg (by omega)]
    · rw [if_neg h, if_pos (by omega), show 6 * r + (i - 1) + 1 = 6 * r + i by omega]
