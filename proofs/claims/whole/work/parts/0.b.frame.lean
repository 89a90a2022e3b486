/-! ===== pure functions: what comes out ===== -/
def Ok {α : Type} (x : Option α) (Q : α → Prop) : Prop := ∃ a, x = some a ∧ Q a
theorem Ok_some {α : Type} {a : α} {Q : α → Prop} : Ok (some a) Q ↔ Q a := ⟨fun ⟨_, h, hq⟩ => by cases h; exact hq, fun h => ⟨a, rfl, h⟩⟩
theorem Ok_none {α : Type} {Q : α → Prop} : Ok none Q ↔ False := ⟨fun ⟨_, h, _⟩ => (by cases h), False.elim⟩
theorem Ok_bind {α β : Type} {x : Option α} {f : α → Option β} {Q : β → Prop} : Ok (x.bind f) Q ↔ Ok x (fun a => Ok (f a) Q) := by
  cases x
  · simp [Ok]
  · simp [Ok]
theorem Ok_nm {α β : Type} {a : α} {f : α → Option β} {Q : β → Prop} : Ok (nm a f) Q ↔ Ok (f a) Q := Iff.rfl
theorem Ok_ite {α : Type} {c : Prop} [Decidable c] {A B : Option α} {Q : α → Prop} : Ok (if c then A else B) Q ↔ (c → Ok A Q) ∧ (¬ c → Ok B Q) := by
  by_cases h : c <;> simp [h]
theorem Ok_bif {α : Type} {b : Bool} {A : Option α} {Q : α → Prop} : Ok (bif b then A else none) Q ↔ b = true ∧ Ok A Q := by
  cases b <;> simp [Ok_none]
theorem ok_mono {α : Type} {x : Option α} {P Q : α → Prop} (h : Ok x P) (hq : ∀ a, P a → Q a) : Ok x Q := by
  obtain ⟨a, h1, h2⟩ := h
  exact ⟨a, h1, hq a h2⟩
theorem ok_eq {α : Type} {x : Option α} {a : α} {Q : α → Prop} (h : x = some a) (hq : Q a) : Ok x Q := ⟨a, h, hq⟩
theorem ok_get {α : Type} {x : Option α} {a : α} (h : Ok x (fun b => b = a)) : x = some a := by
  obtain ⟨b, h1, h2⟩ := h
  rw [h1, h2]
theorem ok_seq {α β : Type} {x : Option α} {f : α → Option β} {P : α → Prop} {Q : β → Prop} (h : Ok x P) (hf : ∀ a, P a → Ok (f a) Q) : Ok (x.bind f) Q := Ok_bind.mpr (ok_mono h hf)
/-! ===== loops ===== -/
theorem ok_lp {α β : Type} {body : α → Option (α ⊕ β)} {I : α → Prop} {μ : α → Nat} {Q : β → Prop} (hb : ∀ x, I x → Ok (body x) (sumE (fun y => I y ∧ μ y < μ x) Q)) : ∀ (n : Nat) (x : α), μ x < n → I x → Ok (lpO body n x) Q
  | 0, x, hn, hx => absurd hn (Nat.not_lt_zero _)
  | n + 1, x, hn, hx => by
    obtain ⟨o, ho, hq⟩ := hb x hx
    unfold lpO
    rw [ho]
    cases o with
    | inl y =>
      have h2 : I y ∧ μ y < μ x := hq
      exact ok_lp hb n y (by have := h2.2; omega) h2.1
    | inr z => exact ⟨z, rfl, hq⟩
theorem ok_forD {X α β : Type} {body : X → Option (X ⊕ β)} (mk : Nat → α → X) {N : Nat} {I : Nat → α → Prop} {Q : β → Prop} (hb : ∀ k a, k ≤ N → I k a → Ok (body (mk k a)) (sumE (fun y => k < N ∧ ∃ a', y = mk (k + 1) a' ∧ I (k + 1) a') Q)) : ∀ (d k : Nat) (a : α) (n : Nat), N - k = d → k ≤ N → I k a → d < n → Ok (lpO body n (mk k a)) Q
  | d, k, a, 0, hd, hk, hi, hn => absurd hn (Nat.not_lt_zero _)
  | d, k, a, n + 1, hd, hk, hi, hn => by
    obtain ⟨o, ho, hq⟩ := hb k a hk hi
    unfold lpO
    rw [ho]
    cases o with
    | inl y =>
      have h2 : k < N ∧ ∃ a', y = mk (k + 1) a' ∧ I (k + 1) a' := hq
      obtain ⟨h3, a', h4, h5⟩ := h2
      subst h4
      exact ok_forD mk hb (d - 1) (k + 1) a' n (by omega) (by omega) h5 (by omega)
    | inr z => exact ⟨z, rfl, hq⟩
  termination_by _ _ _ n => n
theorem ok_for1 {β : Type} {body : Int32 → Option (Int32 ⊕ β)} {N n : Nat} (hn : N < n) {I : Nat → Prop} {Q : β → Prop} (hb : ∀ k, k ≤ N → I k → Ok (body (nI k)) (sumE (fun y => k < N ∧ y = nI (k + 1) ∧ I (k + 1)) Q)) (h0 : I 0) : Ok (lpO body n 0) Q := by
  have h := ok_forD (body := body) (fun k (_ : Unit) => nI k) (N := N) (I := fun k _ => I k) (Q := Q) (fun k a hk hi => ok_mono (hb k hk hi) (fun o ho => by
    cases o with
    | inl y => exact ⟨ho.1, (), ho.2.1, ho.2.2⟩
    | inr z => exact ho)) N 0 () n (by omega) (by omega) h0 hn
  rwa [nI_0] at h
theorem ok_for2 {α β : Type} {body : α × Int32 → Option ((α × Int32) ⊕ β)} {N n : Nat} (hn : N < n) {I : Nat → α → Prop} {Q : β → Prop} (hb : ∀ k a, k ≤ N → I k a → Ok (body (a, nI k)) (sumE (fun y => k < N ∧ y.2 = nI (k + 1) ∧ I (k + 1) y.1) Q)) {a : α} (h0 : I 0 a) : Ok (lpO body n (a, 0)) Q := by
  have h := ok_forD (body := body) (fun k (a : α) => (a, nI k)) (N := N) (I := I) (Q := Q) (fun k a hk hi => ok_mono (hb k a hk hi) (fun o ho => by
    cases o with
    | inl y => exact ⟨ho.1, y.1, Prod.ext rfl ho.2.1, ho.2.2⟩
    | inr z => exact ho)) N 0 a n (by omega) (by omega) h0 hn
  have h : Ok (lpO body n (a, nI 0)) Q := h
  rwa [nI_0] at h
theorem ok_for3 {α γ β : Type} {body : α × γ × Int32 → Option ((α × γ × Int32) ⊕ β)} {N n : Nat} (hn : N < n) {I : Nat → α → γ → Prop} {Q : β → Prop} (hb : ∀ k a c, k ≤ N → I k a c → Ok (body (a, c, nI k)) (sumE (fun y => k < N ∧ y.2.2 = nI (k + 1) ∧ I (k + 1) y.1 y.2.1) Q)) {a : α} {c : γ} (h0 : I 0 a c) : Ok (lpO body n (a, c, 0)) Q := by
  have h := ok_forD (body := body) (fun k (a : α × γ) => (a.1, a.2, nI k)) (N := N) (I := fun k a => I k a.1 a.2) (Q := Q) (fun k a hk hi => ok_mono (hb k a.1 a.2 hk hi) (fun o ho => by
    cases o with
    | inl y => exact ⟨ho.1, (y.1, y.2.1), Prod.ext rfl (Prod.ext rfl ho.2.1), ho.2.2⟩
    | inr z => exact ho)) N 0 (a, c) n (by omega) (by omega) h0 hn
  have h : Ok (lpO body n (a, c, nI 0)) Q := h
  rwa [nI_0] at h
/-! ===== numbers ===== -/
theorem nI_lit (m : Nat) : (OfNat.ofNat m : Int32) = nI m := rfl
theorem inB_nI {a N : Nat} (h : a < N) (h2 : a < 2 ^ 31) : inB (nI a) N = true := by
  unfold inB
  rw [nI_toInt h2]
  simp only [Bool.and_eq_true, decide_eq_true_eq]
  omega
theorem ix6 (c k : Nat) : 6 * nI c + nI k = nI (6 * c + k) := by rw [nI_lit 6, pk_mul, nI_add]
theorem ix5 (c : Nat) : 5 * nI c = nI (5 * c) := by rw [nI_lit 5, pk_mul]
theorem ix12 (c k : Nat) : 12 * nI c + nI k = nI (12 * c + k) := by rw [nI_lit 12, pk_mul, nI_add]
theorem nI_lit_le {m k : Nat} (hm : (OfNat.ofNat m : Nat) < 2 ^ 31) (hk : k < 2 ^ 31) : (OfNat.ofNat m : Int32) ≤ nI k ↔ (OfNat.ofNat m : Nat) ≤ k := nI_leI hm hk
theorem nI_le_lit {m k : Nat} (hm : (OfNat.ofNat m : Nat) < 2 ^ 31) (hk : k < 2 ^ 31) : nI k ≤ (OfNat.ofNat m : Int32) ↔ k ≤ (OfNat.ofNat m : Nat) := nI_leI hk hm
theorem nI_lit_lt {m k : Nat} (hm : (OfNat.ofNat m : Nat) < 2 ^ 31) (hk : k < 2 ^ 31) : (OfNat.ofNat m : Int32) < nI k ↔ (OfNat.ofNat m : Nat) < k := nI_ltI hm hk
theorem nI_lt_lit {m k : Nat} (hm : (OfNat.ofNat m : Nat) < 2 ^ 31) (hk : k < 2 ^ 31) : nI k < (OfNat.ofNat m : Int32) ↔ k < (OfNat.ofNat m : Nat) := nI_ltI hk hm
theorem nI_eq_lit {m k : Nat} (hm : (OfNat.ofNat m : Nat) < 2 ^ 31) (hk : k < 2 ^ 31) : nI k = (OfNat.ofNat m : Int32) ↔ k = (OfNat.ofNat m : Nat) := nI_eq hk hm
theorem nI_nn {k : Nat} (hk : k < 2 ^ 31) : (nI k < 0) ↔ False := ⟨fun h => nI_pos hk h, False.elim⟩
theorem nI_ne_m1 {k : Nat} (hk : k < 2 ^ 31) : ¬ nI k = -1 := fun h => by
  have h2 := congrArg Int32.toInt h
  rw [nI_toInt hk] at h2
  have h3 : (-1 : Int32).toInt = -1 := by decide
  omega
theorem m1_ne_nI {k : Nat} (hk : k < 2 ^ 31) : ¬ (-1 : Int32) = nI k := fun h => nI_ne_m1 hk h.symm
theorem m1_lt : (-1 : Int32) < 0 := by decide
theorem nI_lt3 {x : Int32} {N : Nat} (hN : N < 2 ^ 31) : (∃ j, j < N ∧ x = nI j) ∨ (¬ ∃ j, j < N ∧ x = nI j) ∧ (x < 0 ∨ nI N ≤ x) := by
  rcases pk_ix x hN with h | h | h
  · refine Or.inr ⟨fun ⟨j, hj, e⟩ => ?_, Or.inl h⟩
    rw [e] at h
    exact nI_pos (by omega) h
  · refine Or.inr ⟨fun ⟨j, hj, e⟩ => ?_, Or.inr h⟩
    rw [e] at h
    exact nI_ge hj hN h
  · exact Or.inl h
/-! ===== a place by its name ===== -/
def plc (f : Nat → Int32) : Nat → Int32 → Int32
  | 0, _ => -1
  | m + 1, x => if f m = x then nI m else plc f m x
theorem plc_spec (f : Nat → Int32) (x : Int32) : ∀ m, (plc f m x = -1 ∧ ∀ k, k < m → f k ≠ x) ∨ ∃ k, k < m ∧ plc f m x = nI k ∧ f k = x
  | 0 => Or.inl ⟨rfl, fun k h => absurd h (Nat.not_lt_zero _)⟩
  | m + 1 => by
    unfold plc
    by_cases h : f m = x
    · exact Or.inr ⟨m, by omega, by rw [if_pos h], h⟩
    · rw [if_neg h]
      rcases plc_spec f x m with ⟨h1, h2⟩ | ⟨k, h1, h2, h3⟩
      · refine Or.inl ⟨h1, fun k hk => ?_⟩
        rcases Nat.lt_succ_iff_lt_or_eq.mp hk with h4 | h4
        · exact h2 k h4
        · rw [h4]; exact h
      · exact Or.inr ⟨k, by omega, h2, h3⟩
theorem plc_eq {f : Nat → Int32} {x : Int32} {m k : Nat} (hd : ∀ i, i < m → ∀ j, j < m → f i = f j → i = j) (hk : k < m) (h : f k = x) : plc f m x = nI k := by
  rcases plc_spec f x m with ⟨h1, h2⟩ | ⟨q, h1, h2, h3⟩
  · exact absurd h (h2 k hk)
  · rw [h2, hd q h1 k hk (h3.trans h.symm)]
theorem plc_none {f : Nat → Int32} {x : Int32} {m : Nat} (h : ∀ k, k < m → f k ≠ x) : plc f m x = -1 := by
  rcases plc_spec f x m with ⟨h1, h2⟩ | ⟨q, h1, h2, h3⟩
  · exact h1
  · exact absurd h3 (h q h1)
theorem plc_cong {f g : Nat → Int32} {x : Int32} : ∀ {m : Nat}, (∀ k, k < m → f k = g k) → plc f m x = plc g m x
  | 0, _ => rfl
  | m + 1, h => by
    unfold plc
    rw [h m (by omega), plc_cong (m := m) (fun k hk => h k (by omega))]
/-! ===== counting ===== -/
def cn (p : Nat → Bool) : Nat → Nat
  | 0 => 0
  | m + 1 => cn p m + (if p m = true then 1 else 0)
theorem cn_le (p : Nat → Bool) : ∀ m, cn p m ≤ m
  | 0 => Nat.le_refl 0
  | m + 1 => by
    have := cn_le p m
    unfold cn
    split <;> omega
theorem cn_len (p : Nat → Bool) : ∀ m, cn p m = ((List.range m).filter p).length
  | 0 => rfl
  | m + 1 => by
    unfold cn
    rw [List.range_succ, List.filter_append, List.length_append, cn_len p m]
    by_cases h : p m = true <;> simp [h]
theorem cn_inj {p q : Nat → Bool} {m m' : Nat} (f : Nat → Nat) (h1 : ∀ k, k < m → p k = true → f k < m' ∧ q (f k) = true) (h2 : ∀ k, k < m → p k = true → ∀ j, j < m → p j = true → f k = f j → k = j) : cn p m ≤ cn q m' := by
  rw [cn_len, cn_len, ← List.length_map f]
  refine List.Nodup.length_le_of_subset ?_ ?_
  · rw [List.nodup_iff_pairwise_ne, List.pairwise_map]
    have hn : ((List.range m).filter p).Nodup := List.Nodup.sublist List.filter_sublist List.nodup_range
    rw [List.nodup_iff_pairwise_ne] at hn
    refine List.Pairwise.imp_of_mem (fun {a b} ha hb hab e => ?_) hn
    rw [List.mem_filter, List.mem_range] at ha hb
    exact hab (h2 a ha.1 ha.2 b hb.1 hb.2 e)
  · intro y hy
    obtain ⟨k, hk, e⟩ := List.mem_map.mp hy
    rw [List.mem_filter, List.mem_range] at hk
    subst e
    rw [List.mem_filter, List.mem_range]
    exact h1 k hk.1 hk.2
theorem cn_bij {p q : Nat → Bool} {m m' : Nat} (f g : Nat → Nat) (h1 : ∀ k, k < m → p k = true → f k < m' ∧ q (f k) = true ∧ g (f k) = k) (h2 : ∀ k, k < m' → q k = true → g k < m ∧ p (g k) = true ∧ f (g k) = k) : cn p m = cn q m' := by
  refine Nat.le_antisymm (cn_inj f (fun k hk hp => ⟨(h1 k hk hp).1, (h1 k hk hp).2.1⟩) (fun k hk hp j hj hq e => ?_)) (cn_inj g (fun k hk hp => ⟨(h2 k hk hp).1, (h2 k hk hp).2.1⟩) (fun k hk hp j hj hq e => ?_))
  · rw [← (h1 k hk hp).2.2, e, (h1 j hj hq).2.2]
  · rw [← (h2 k hk hp).2.2, e, (h2 j hj hq).2.2]
theorem cn_cong {p q : Nat → Bool} : ∀ {m : Nat}, (∀ k, k < m → p k = q k) → cn p m = cn q m
  | 0, _ => rfl
  | m + 1, h => by
    unfold cn
    rw [h m (by omega), cn_cong (m := m) (fun k hk => h k (by omega))]
theorem cn_up {p q : Nat → Bool} {i : Nat} (hi : p i = false) (hq : q i = true) (h : ∀ k, k ≠ i → q k = p k) : ∀ {m : Nat}, i < m → cn q m = cn p m + 1
  | 0, hm => absurd hm (Nat.not_lt_zero _)
  | m + 1, hm => by
    unfold cn
    by_cases e : m = i
    · subst e
      rw [cn_cong (p := q) (q := p) (m := m) (fun k hk => h k (by omega)), hi, hq]
      simp
    · rw [cn_up hi hq h (m := m) (by omega), h m e]
      omega
theorem cn_lt {p : Nat → Bool} : ∀ {m : Nat}, cn p m < m → ∃ k, k < m ∧ p k = false
  | 0, h => absurd h (Nat.not_lt_zero _)
  | m + 1, h => by
    by_cases e : p m = true
    · unfold cn at h
      rw [if_pos e] at h
      obtain ⟨k, hk, hp⟩ := cn_lt (p := p) (m := m) (by omega)
      exact ⟨k, by omega, hp⟩
    · exact ⟨m, by omega, by simpa using e⟩
theorem nge_lt {k N : Nat} (hN : N < 2 ^ 31) (hk : k ≤ N) (h : ¬ nI N ≤ nI k) : k < N := Nat.lt_of_le_of_ne hk (fun e => h (by rw [e]; exact nI_le (Nat.le_refl _) hN))
theorem ge_eq {k N : Nat} (hN : N < 2 ^ 31) (hk : k ≤ N) (h : nI N ≤ nI k) : k = N := by
  have := (nI_leI hN (by omega)).mp h
  omega
theorem cn_t {p : Nat → Bool} {k : Nat} (h : p k = true) : cn p (k + 1) = cn p k + 1 := by
  show cn p k + _ = _
  rw [if_pos h]
theorem cn_f {p : Nat → Bool} {k : Nat} (h : ¬ p k = true) : cn p (k + 1) = cn p k := by
  show cn p k + _ = _
  rw [if_neg h, Nat.add_zero]
theorem nI_a0 (a : Nat) : nI a + 0 = nI a := nI_add a 0
