/-! ===== families: how many records come with a new one ===== -/
def smN (f : Nat → Nat) : Nat → Nat
  | 0 => 0
  | k + 1 => smN f k + f k
theorem smN_cong {f g : Nat → Nat} : ∀ {m : Nat}, (∀ k, k < m → f k = g k) → smN f m = smN g m
  | 0, _ => rfl
  | m + 1, h => by
    show smN f m + f m = smN g m + g m
    rw [smN_cong (m := m) (fun k hk => h k (by omega)), h m (by omega)]
theorem smN_le {f : Nat → Nat} {b : Nat} : ∀ {m : Nat}, (∀ k, k < m → f k ≤ b) → smN f m ≤ m * b
  | 0, _ => by rw [Nat.zero_mul]; exact Nat.le_refl _
  | m + 1, h => by
    show smN f m + f m ≤ _
    have := smN_le (m := m) (fun k hk => h k (by omega))
    have := h m (by omega)
    rw [Nat.succ_mul]
    omega
theorem smN_z {f : Nat → Nat} : ∀ {m : Nat}, (∀ k, k < m → f k = 0) → smN f m = 0
  | 0, _ => rfl
  | m + 1, h => by
    show smN f m + f m = 0
    rw [smN_z (m := m) (fun k hk => h k (by omega)), h m (by omega)]
theorem smN_mono (f : Nat → Nat) {a : Nat} : ∀ {b : Nat}, a ≤ b → smN f a ≤ smN f b
  | 0, h => by
    have : a = 0 := by omega
    rw [this]
    exact Nat.le_refl _
  | b + 1, h => by
    rcases Nat.lt_or_ge a (b + 1) with h1 | h1
    · have := smN_mono f (a := a) (b := b) (by omega)
      show _ ≤ smN f b + f b
      omega
    · have : a = b + 1 := by omega
      rw [this]
      exact Nat.le_refl _
def fsz (m4 m6 m7 : Nat → Int32) : Nat → Nat → Nat
  | 0, _ => 1
  | d + 1, c => 1 + smN (fun k => if r6 m6 c k = 2 then fsz m4 m6 m7 d (r6 m7 c k).toNatClampNeg else 0) (m4 c).toNatClampNeg
/-- the size of a family -/
def fam (m : Nat → Nat → Int32) (c : Nat) : Nat := fsz (m 4) (m 6) (m 7) 3 c
theorem kid_of {K : Nat} {m : Nat → Nat → Int32} (hM : MI K m) {c q k : Nat} (hc : c < 4) (hq : m 4 c = nI q) (hq6 : q ≤ 6) (hk : k < q) (h2 : r6 (m 6) c k = 2) : ∃ d, d < K ∧ r6 (m 7) c k = nI d ∧ r6 (m 8) c k = nI d := by
  obtain ⟨q', h1, hS⟩ := hM.2.1 c hc
  have h6 := hS.1
  have e : q = q' := (nI_eq (by omega) (by omega)).mp (hq.symm.trans h1)
  subst e
  rcases (hS.2.2 k hk).2 with h | ⟨-, h⟩
  · exact absurd (h2.symm.trans h.1) (by decide)
  · exact h
theorem fsz_stable {K : Nat} {m : Nat → Nat → Int32} (hM : MI K m) {ρ : Nat → Nat} (h1 : ∀ c, c < 4 → ρ c < 4) (h3 : ∀ c q k d, c < 4 → q ≤ 6 → m 4 c = nI q → k < q → r6 (m 6) c k = 2 → d < 4 → r6 (m 7) c k = nI d → ρ c < ρ d) : ∀ d c, c < 4 → 3 - ρ c ≤ d → fsz (m 4) (m 6) (m 7) (d + 1) c = fsz (m 4) (m 6) (m 7) d c := by
  intro d
  have hK4 := hM.1.1
  induction d with
  | zero =>
    intro c hc hd
    obtain ⟨q, hq, hS⟩ := hM.2.1 c hc
    have h6 := hS.1
    show 1 + smN _ (m 4 c).toNatClampNeg = 1
    rw [smN_z (fun k hk => ?_)]
    rw [hq, nI_clamp (by omega)] at hk
    by_cases h2 : r6 (m 6) c k = 2
    · obtain ⟨d, hd1, hd2, -⟩ := kid_of hM hc hq h6 hk h2
      have := h3 c q k d hc h6 hq hk h2 (by omega) hd2
      have := h1 d (by omega)
      omega
    · rw [if_neg h2]
  | succ d ih =>
    intro c hc hd
    obtain ⟨q, hq, hS⟩ := hM.2.1 c hc
    have h6 := hS.1
    show 1 + smN _ (m 4 c).toNatClampNeg = 1 + smN _ (m 4 c).toNatClampNeg
    rw [smN_cong (fun k hk => ?_)]
    rw [hq, nI_clamp (by omega)] at hk
    by_cases h2 : r6 (m 6) c k = 2
    · rw [if_pos h2, if_pos h2]
      obtain ⟨e, hd1, hd2, -⟩ := kid_of hM hc hq h6 hk h2
      have := h3 c q k e hc h6 hq hk h2 (by omega) hd2
      rw [hd2, nI_clamp (by omega)]
      exact ih e (by omega) (by omega)
    · rw [if_neg h2, if_neg h2]
theorem fam_eq {K : Nat} {m : Nat → Nat → Int32} (hM : MI K m) {c q : Nat} (hc : c < 4) (hq : m 4 c = nI q) (hq6 : q ≤ 6) : fam m c = 1 + smN (fun k => if r6 (m 6) c k = 2 then fam m (r6 (m 7) c k).toNatClampNeg else 0) q := by
  obtain ⟨ρ, h1, h2, h3⟩ := hM.2.2.2.2.2.1
  have h := fsz_stable hM h1 h3 3 c hc (by omega)
  unfold fam
  rw [← h]
  show 1 + smN _ (m 4 c).toNatClampNeg = _
  rw [hq, nI_clamp (by omega)]
theorem fam_pos {m : Nat → Nat → Int32} (c : Nat) : 1 ≤ fam m c := by
  show 1 ≤ 1 + smN _ _
  omega
theorem fsz_le {K : Nat} {m : Nat → Nat → Int32} (hM : MI K m) : ∀ c, c < 4 → fam m c ≤ 259 := by
  have hK4 := hM.1.1
  have step : ∀ d b, (∀ c, c < 4 → fsz (m 4) (m 6) (m 7) d c ≤ b) → ∀ c, c < 4 → fsz (m 4) (m 6) (m 7) (d + 1) c ≤ 1 + 6 * b := fun d b h c hc => by
    obtain ⟨q, hq, hS⟩ := hM.2.1 c hc
    have h6 := hS.1
    show 1 + smN _ (m 4 c).toNatClampNeg ≤ _
    have := smN_le (f := fun k => if r6 (m 6) c k = 2 then fsz (m 4) (m 6) (m 7) d (r6 (m 7) c k).toNatClampNeg else 0) (b := b) (m := (m 4 c).toNatClampNeg) (fun k hk => by
      rw [hq, nI_clamp (by omega)] at hk
      show (if r6 (m 6) c k = 2 then _ else _) ≤ b
      by_cases h2 : r6 (m 6) c k = 2
      · rw [if_pos h2]
        obtain ⟨e, hd1, hd2, -⟩ := kid_of hM hc hq h6 hk h2
        rw [hd2, nI_clamp (by omega)]
        exact h e (by omega)
      · rw [if_neg h2]; omega)
    rw [hq, nI_clamp (by omega)] at this ⊢
    have h7 : q * b ≤ 6 * b := Nat.mul_le_mul_right b h6
    omega
  intro c hc
  exact step 2 43 (step 1 7 (step 0 1 (fun c _ => Nat.le_refl 1))) c hc
/-! ===== trees of classes ===== -/
/-- N nodes; cl: their classes; ch: the node that an owning field holds; ow: the owning fields of a class; lo: of which class -/
def Tree (ow : Nat → Nat → Prop) (lo : Nat → Nat → Nat) (c N : Nat) (cl : Nat → Nat) (ch : Nat → Nat → Nat) : Prop := 0 < N ∧ cl 0 = c ∧ (∀ i k, i < N → ow (cl i) k → i < ch i k ∧ ch i k < N ∧ cl (ch i k) = lo (cl i) k) ∧ (∀ j, 0 < j → j < N → ∃ i k, i < j ∧ ow (cl i) k ∧ ch i k = j) ∧ ∀ i k i' k', i < N → i' < N → ow (cl i) k → ow (cl i') k' → ch i k = ch i' k' → i = i' ∧ k = k'
theorem tree_map {ow : Nat → Nat → Prop} {lo : Nat → Nat → Nat} {c N N' : Nat} {cl cl' : Nat → Nat} {ch ch' : Nat → Nat → Nat} (h : Tree ow lo c N cl ch) (h' : Tree ow lo c N' cl' ch') : ∃ f : Nat → Nat, f 0 = 0 ∧ (∀ j, j < N → f j < N' ∧ cl j = cl' (f j)) ∧ ∀ i k, i < N → ow (cl i) k → f (ch i k) = ch' (f i) k := by
  obtain ⟨t1, t2, t3, t4, t5⟩ := h
  obtain ⟨s1, s2, s3, s4, s5⟩ := h'
  have step : ∀ b, b ≤ N → ∃ f : Nat → Nat, f 0 = 0 ∧ (∀ j, j < b → f j < N' ∧ cl j = cl' (f j)) ∧ ∀ i k, i < N → ow (cl i) k → ch i k < b → f (ch i k) = ch' (f i) k := by
    intro b
    induction b with
    | zero => exact fun _ => ⟨fun _ => 0, rfl, fun j hj => absurd hj (Nat.not_lt_zero _), fun i k _ _ hlt => absurd hlt (Nat.not_lt_zero _)⟩
    | succ b ih =>
      intro hb
      obtain ⟨f, f1, f2, f3⟩ := ih (by omega)
      by_cases hb0 : b = 0
      · subst hb0
        refine ⟨f, f1, fun j hj => ?_, fun i k hi ho hlt => ?_⟩
        · have : j = 0 := by omega
          rw [this, f1, t2, s2]
          exact ⟨s1, rfl⟩
        · have := (t3 i k hi ho).1
          omega
      · obtain ⟨i, k, i1, i2, i3⟩ := t4 b (by omega) (by omega)
        obtain ⟨g1, g2⟩ := f2 i i1
        have ho' : ow (cl' (f i)) k := by rw [← g2]; exact i2
        refine ⟨fun j => if j = b then ch' (f i) k else f j, ?_, fun j hj => ?_, fun i' k' hi' ho hlt => ?_⟩
        · show (if 0 = b then _ else f 0) = 0
          rw [if_neg (fun e => hb0 e.symm), f1]
        · show (if j = b then _ else f j) < N' ∧ cl j = cl' (if j = b then _ else f j)
          by_cases e : j = b
          · rw [if_pos e]
            obtain ⟨q1, q2, q3⟩ := s3 (f i) k g1 ho'
            refine ⟨q2, ?_⟩
            rw [q3, e, ← i3, (t3 i k (by omega) i2).2.2, g2]
          · rw [if_neg e]
            exact f2 j (by omega)
        · show (if ch i' k' = b then _ else f (ch i' k')) = ch' (if i' = b then _ else f i') k'
          have hlt2 := (t3 i' k' hi' ho).1
          rw [if_neg (show ¬ i' = b by omega)]
          by_cases e : ch i' k' = b
          · rw [if_pos e]
            obtain ⟨e1, e2⟩ := t5 i' k' i k hi' (by omega) ho i2 (e.trans i3.symm)
            rw [e1, e2]
          · rw [if_neg e]
            exact f3 i' k' hi' ho (by omega)
  obtain ⟨f, f1, f2, f3⟩ := step N (Nat.le_refl _)
  exact ⟨f, f1, f2, fun i k hi ho => f3 i k hi ho (t3 i k hi ho).2.1⟩
theorem tree_inv {ow : Nat → Nat → Prop} {lo : Nat → Nat → Nat} {c N N' : Nat} {cl cl' : Nat → Nat} {ch ch' : Nat → Nat → Nat} (h : Tree ow lo c N cl ch) {f g : Nat → Nat} (f0 : f 0 = 0) (g0 : g 0 = 0) (f2 : ∀ j, j < N → f j < N' ∧ cl j = cl' (f j)) (f3 : ∀ i k, i < N → ow (cl i) k → f (ch i k) = ch' (f i) k) (g3 : ∀ i k, i < N' → ow (cl' i) k → g (ch' i k) = ch (g i) k) : ∀ j, j < N → g (f j) = j := by
  obtain ⟨t1, t2, t3, t4, t5⟩ := h
  intro j
  induction j using Nat.strongRecOn with
  | ind j ih =>
    intro hj
    by_cases h0 : j = 0
    · rw [h0, f0, g0]
    · obtain ⟨i, k, i1, i2, i3⟩ := t4 j (by omega) hj
      have hi : i < N := by omega
      obtain ⟨q1, q2⟩ := f2 i hi
      rw [← i3, f3 i k hi i2, g3 (f i) k q1 (by rw [← q2]; exact i2), ih i i1 hi]
/-- a function with given values at given places -/
theorem fn_ext {ln t : Nat → Nat} (σ : Nat → Nat) : ∀ N, (∀ i, i < N → ∀ j, j < N → ln i = ln j → i = j) → ∃ σ' : Nat → Nat, (∀ i, i < N → σ' (ln i) = t i) ∧ ∀ r, (∀ i, i < N → r ≠ ln i) → σ' r = σ r
  | 0, _ => ⟨σ, fun i hi => absurd hi (Nat.not_lt_zero _), fun r _ => rfl⟩
  | N + 1, h => by
    obtain ⟨σ', h1, h2⟩ := fn_ext (t := t) σ N (fun i hi j hj e => h i (by omega) j (by omega) e)
    refine ⟨fun r => if r = ln N then t N else σ' r, fun i hi => ?_, fun r hr => ?_⟩
    · show (if ln i = ln N then t N else σ' (ln i)) = t i
      by_cases e : ln i = ln N
      · rw [if_pos e, h i hi N (by omega) e]
      · rw [if_neg e]
        rcases Nat.lt_succ_iff_lt_or_eq.mp hi with h3 | h3
        · exact h1 i h3
        · rw [h3] at e; exact absurd rfl e
    · show (if r = ln N then t N else σ' r) = σ r
      rw [if_neg (hr N (by omega))]
      exact h2 r (fun i hi => hr i (by omega))
