/-! ===== the memory of the class: S.1 f i k: the number that field (or array) f of object i holds (at place k); S.2.1: the pile's longs; S.2.2: the line ===== -/
abbrev CSt : Type := (Nat → Nat → Nat → Int32) × (Nat → Nat → Int64) × (Nat → Option Nat)
abbrev MSt : Type := (Nat → Nat → Int32) × (Nat → Nat → Int64)
def sI (S : CSt) (f i k : Nat) (v : Int32) : CSt := (fun g => cond (Nat.beq g f) (fun j => cond (Nat.beq j i) (fun l => cond (Nat.beq l k) v (S.1 g j l)) (S.1 g j)) (S.1 g), S.2)
def sJ (S : CSt) (f k : Nat) (v : Int64) : CSt := (S.1, fun g => cond (Nat.beq g f) (fun l => cond (Nat.beq l k) v (S.2.1 g l)) (S.2.1 g), S.2.2)
def sL (S : CSt) (k : Nat) (v : Option Nat) : CSt := (S.1, S.2.1, va_up S.2.2 k v)
def mI (S : MSt) (f k : Nat) (v : Int32) : MSt := (fun g => cond (Nat.beq g f) (fun l => cond (Nat.beq l k) v (S.1 g l)) (S.1 g), S.2)
def mJ (S : MSt) (f k : Nat) (v : Int64) : MSt := (S.1, fun g => cond (Nat.beq g f) (fun l => cond (Nat.beq l k) v (S.2 g l)) (S.2 g))
theorem beq_t (n : Nat) : Nat.beq n n = true := Nat.beq_refl n
theorem beq_f {a b : Nat} (h : a ≠ b) : Nat.beq a b = false := by
  cases h2 : Nat.beq a b
  · rfl
  · exact absurd (Nat.eq_of_beq_eq_true h2) h
theorem sI_at (S : CSt) (f i k : Nat) (v : Int32) (g j l : Nat) : (sI S f i k v).1 g j l = if g = f ∧ j = i ∧ l = k then v else S.1 g j l := by
  unfold sI
  by_cases h1 : g = f
  · subst h1
    by_cases h2 : j = i
    · subst h2
      by_cases h3 : l = k
      · subst h3; simp [beq_t]
      · simp [beq_t, beq_f h3, h3]
    · simp [beq_t, beq_f h2, h2]
  · simp [beq_f h1, h1]
theorem sI_row (S : CSt) (f i k : Nat) (v : Int32) : (sI S f i k v).1 f i = upd (S.1 f i) k v := by
  funext l
  rw [sI_at]
  by_cases h : l = k <;> simp [upd, h]
theorem sI_ne (S : CSt) (f i k : Nat) (v : Int32) {j : Nat} (h : j ≠ i) : (sI S f i k v).1 f j = S.1 f j := by
  funext l
  rw [sI_at]
  simp [h]
theorem sI_eq (S : CSt) (f i k : Nat) (v : Int32) : (sI S f i k v).1 f i k = v := by rw [sI_at]; simp
theorem mI_at (S : MSt) (f k : Nat) (v : Int32) (g l : Nat) : (mI S f k v).1 g l = if g = f ∧ l = k then v else S.1 g l := by
  unfold mI
  by_cases h1 : g = f
  · subst h1
    by_cases h3 : l = k
    · subst h3; simp [beq_t]
    · simp [beq_t, beq_f h3, h3]
  · simp [beq_f h1, h1]
theorem mI_row (S : MSt) (f k : Nat) (v : Int32) : (mI S f k v).1 f = upd (S.1 f) k v := by
  funext l
  rw [mI_at]
  by_cases h : l = k <;> simp [upd, h]
theorem mI_eq (S : MSt) (f k : Nat) (v : Int32) : (mI S f k v).1 f k = v := by rw [mI_at]; simp
theorem mJ_row (S : MSt) (f k : Nat) (v : Int64) : (mJ S f k v).2 f = vp_updL (S.2 f) k v := by
  funext l
  unfold mJ vp_updL
  by_cases h : l = k
  · subst h; simp [beq_t]
  · simp [beq_t, beq_f h, h]
theorem sJ_row (S : CSt) (f k : Nat) (v : Int64) : (sJ S f k v).2.1 f = vp_updL (S.2.1 f) k v := by
  funext l
  unfold sJ vp_updL
  by_cases h : l = k
  · subst h; simp [beq_t]
  · simp [beq_t, beq_f h, h]
theorem up_fn {α : Type} {f g : Nat → α} {i : Nat} {v : α} (h1 : g i = v) (h2 : ∀ j, j ≠ i → g j = f j) : va_up f i v = g := by
  funext j
  by_cases h : j = i
  · subst h; rw [va_up_self, h1]
  · rw [va_up_ne _ _ h, h2 j h]
theorem up_0 {α : Type} {f : Nat → α} {i : Nat} {v : α} (hi : i < 1) {G : List Gp} : i = 0 := by omega
/-- the classes of the arrays: ints, longs, booleans, entries, kinds, steps -/
def tysC (cy : Nat → ClassId) : List (ClassId × FieldType) := [(cy 0, .int), (cy 1, .long), (cy 2, .boolean), (cy 3, .object RX0), (cy 4, .object RX2), (cy 5, .object RX5)]
/-- names for what is reckoned, choices, checks -/
def nm {α β : Type} (a : α) (f : α → Option β) : Option β := f a
theorem nm_ex {α β : Type} {a : α} {f : α → Option β} {o : β} (h : nm a f = some o) : ∃ z, z = a ∧ f z = some o := ⟨a, rfl, h⟩
theorem bindS {α β : Type} {x : Option α} {f : α → Option β} {o : β} (h : x.bind f = some o) : ∃ z, x = some z ∧ f z = some o := Option.bind_eq_some_iff.mp h
def optE {α β : Type} (a : Option β) (f : α → Option β) (x : Option α) : Option β := match x with
  | none => a
  | some i => f i
theorem optN {α β : Type} (a : Option β) (f : α → Option β) : optE a f none = a := rfl
theorem optS {α β : Type} (a : Option β) (f : α → Option β) (i : α) : optE a f (some i) = f i := rfl
def sumE {α β γ : Type} (f : α → γ) (g : β → γ) (x : α ⊕ β) : γ := match x with
  | .inl a => f a
  | .inr b => g b
theorem sumL {α β γ : Type} (f : α → γ) (g : β → γ) (a : α) : sumE f g (.inl a) = f a := rfl
theorem sumR {α β γ : Type} (f : α → γ) (g : β → γ) (b : β) : sumE f g (.inr b) = g b := rfl
def Gd {α β : Type} (P : α → Prop) (z : β) (out : α ⊕ β) : Prop := match out with
  | .inl y => P y
  | .inr w => w = z
theorem lpO_ind2 {α β : Type} {body : α → Option (α ⊕ β)} {P : α → Prop} {z : β} (hb : ∀ x out, body x = some out → Gd P z out → P x) : ∀ (n : Nat) (x : α), lpO body n x = some z → P x :=
  lpO_ind (fun x out h1 h2 h3 => hb x out h1 (by
    rcases h3 with h | ⟨y, h⟩
    · subst h; exact rfl
    · subst h; exact h2 y rfl))
theorem sw_out {x : Int32} {lo hi : Int} (h : ∀ k : Int, lo ≤ k → k ≤ hi → ¬ x = Int32.ofInt k) : x.toInt < lo ∨ hi < x.toInt := by
  rcases Int.lt_or_le x.toInt lo with h1 | h1
  · exact Or.inl h1
  · rcases Int.lt_or_le hi x.toInt with h2 | h2
    · exact Or.inr h2
    · exact absurd (by rw [Int32.ofInt_toInt]) (h x.toInt h1 h2)
def GC (cy : Nat → ClassId) (ad : Nat → Nat → Nat) (S : CSt) : List Gp := [(1, ad 0, fun i => .inr (7, [Value.ref (ad 1 0), Value.int (S.1 0 i 0), Value.ref (ad 9 0), Value.ref (ad 14 0), Value.ref (ad 15 6), Value.ref (ad 17 0), Value.int (S.1 1 i 0), Value.int (S.1 2 i 0), Value.ref (ad 3 8), Value.ref (ad 19 0), Value.ref (ad 22 0)])),
  (1, ad 1, fun _ => .inl (cy 4, 4, .inr (.inr (.inr (.inr (fun k => some (ad 2 k))))))),
  (4, ad 2, fun i => .inr (2, [Value.int (S.1 3 i 0), Value.int (S.1 4 i 0), Value.ref (ad 3 (2 * i)), Value.ref (ad 3 (2 * i + 1))])),
  (9, ad 3, fun i => .inr (4, [Value.int (S.1 5 i 0), Value.ref (ad 4 i), Value.ref (ad 5 i), Value.ref (ad 6 i), Value.ref (ad 7 i), Value.ref (ad 8 i)])),
  (9, ad 4, fun i => .inl (cy 0, 6, .inl (S.1 6 i))),
  (9, ad 5, fun i => .inl (cy 0, 6, .inl (S.1 7 i))),
  (9, ad 6, fun i => .inl (cy 0, 6, .inl (S.1 8 i))),
  (9, ad 7, fun i => .inl (cy 0, 6, .inl (S.1 9 i))),
  (9, ad 8, fun i => .inl (cy 0, 6, .inl (S.1 10 i))),
  (1, ad 9, fun i => .inr (6, [Value.ref (ad 10 0), Value.int (S.1 11 i 0), Value.int (S.1 12 i 0)])),
  (1, ad 10, fun _ => .inl (cy 3, 24, .inr (.inr (.inr (.inr (fun k => some (ad 11 k))))))),
  (24, ad 11, fun i => .inr (0, [Value.int (S.1 13 i 0), Value.int (S.1 14 i 0), Value.int (S.1 15 i 0), Value.int (S.1 16 i 0), Value.ref (ad 12 i), Value.ref (ad 13 i)])),
  (24, ad 12, fun i => .inl (cy 0, 6, .inl (S.1 17 i))),
  (24, ad 13, fun i => .inl (cy 0, 6, .inl (S.1 18 i))),
  (1, ad 14, fun i => .inl (cy 0, 8, .inl (S.1 19 i))),
  (7, ad 15, fun i => .inr (1, [Value.int (S.1 20 i 0), Value.ref (ad 16 i)])),
  (7, ad 16, fun i => .inl (cy 0, 12, .inl (S.1 21 i))),
  (1, ad 17, fun _ => .inl (cy 5, 6, .inr (.inr (.inr (.inr (fun k => some (ad 18 k))))))),
  (6, ad 18, fun i => .inr (5, [Value.int (S.1 22 i 0), Value.int (S.1 23 i 0), Value.int (S.1 24 i 0), Value.int (S.1 25 i 0), Value.int (S.1 26 i 0), Value.ref (ad 15 i)])),
  (1, ad 19, fun i => .inr (3, [Value.int (S.1 27 i 0), Value.ref (ad 20 0), Value.ref (ad 21 0)])),
  (1, ad 20, fun _ => .inl (cy 1, 12, .inr (.inl (S.2.1 0)))),
  (1, ad 21, fun _ => .inl (cy 1, 12, .inr (.inl (S.2.1 1)))),
  (1, ad 22, fun _ => .inl (cy 3, 24, .inr (.inr (.inr (.inr (fun k => (S.2.2 k).map (ad 11)))))))]
def GM (cy : Nat → ClassId) (ad : Nat → Nat → Nat) (S : MSt) : List Gp := [(1, ad 0, fun _ => .inr (8, [Value.int (S.1 0 0), Value.int (S.1 1 0), Value.ref (ad 1 0), Value.ref (ad 2 0), Value.ref (ad 3 0), Value.ref (ad 4 0), Value.ref (ad 5 0), Value.ref (ad 6 0), Value.ref (ad 7 0), Value.ref (ad 8 0), Value.ref (ad 9 0), Value.ref (ad 10 0), Value.ref (ad 11 0), Value.ref (ad 12 0), Value.ref (ad 13 0), Value.ref (ad 14 0), Value.ref (ad 15 0), Value.ref (ad 16 0), Value.ref (ad 17 0), Value.ref (ad 18 0), Value.int (S.1 20 0), Value.ref (ad 19 0), Value.int (S.1 22 0), Value.ref (ad 20 0), Value.ref (ad 21 0), Value.ref (ad 22 0), Value.int (S.1 26 0), Value.int (S.1 27 0), Value.int (S.1 28 0), Value.ref (ad 23 0), Value.ref (ad 24 0), Value.ref (ad 25 0), Value.ref (ad 26 0), Value.ref (ad 27 0), Value.ref (ad 28 0), Value.int (S.1 35 0), Value.int (S.1 36 0), Value.ref (ad 29 0), Value.ref (ad 30 0), Value.ref (ad 31 0), Value.int (S.1 40 0), Value.ref (ad 32 0), Value.ref (ad 33 0), Value.ref (ad 34 0)])),
  (1, ad 1, fun _ => .inl (cy 0, 4, .inl (S.1 2))),
  (1, ad 2, fun _ => .inl (cy 2, 4, .inl (S.1 3))),
  (1, ad 3, fun _ => .inl (cy 0, 4, .inl (S.1 4))),
  (1, ad 4, fun _ => .inl (cy 0, 24, .inl (S.1 5))),
  (1, ad 5, fun _ => .inl (cy 0, 24, .inl (S.1 6))),
  (1, ad 6, fun _ => .inl (cy 0, 24, .inl (S.1 7))),
  (1, ad 7, fun _ => .inl (cy 0, 24, .inl (S.1 8))),
  (1, ad 8, fun _ => .inl (cy 0, 4, .inl (S.1 9))),
  (1, ad 9, fun _ => .inl (cy 0, 24, .inl (S.1 10))),
  (1, ad 10, fun _ => .inl (cy 0, 24, .inl (S.1 11))),
  (1, ad 11, fun _ => .inl (cy 0, 24, .inl (S.1 12))),
  (1, ad 12, fun _ => .inl (cy 0, 24, .inl (S.1 13))),
  (1, ad 13, fun _ => .inl (cy 0, 24, .inl (S.1 14))),
  (1, ad 14, fun _ => .inl (cy 0, 24, .inl (S.1 15))),
  (1, ad 15, fun _ => .inl (cy 0, 144, .inl (S.1 16))),
  (1, ad 16, fun _ => .inl (cy 0, 144, .inl (S.1 17))),
  (1, ad 17, fun _ => .inl (cy 2, 24, .inl (S.1 18))),
  (1, ad 18, fun _ => .inl (cy 0, 8, .inl (S.1 19))),
  (1, ad 19, fun _ => .inl (cy 0, 12, .inl (S.1 21))),
  (1, ad 20, fun _ => .inl (cy 0, 30, .inl (S.1 23))),
  (1, ad 21, fun _ => .inl (cy 0, 6, .inl (S.1 24))),
  (1, ad 22, fun _ => .inl (cy 0, 72, .inl (S.1 25))),
  (1, ad 23, fun _ => .inl (cy 0, 6, .inl (S.1 29))),
  (1, ad 24, fun _ => .inl (cy 0, 6, .inl (S.1 30))),
  (1, ad 25, fun _ => .inl (cy 0, 6, .inl (S.1 31))),
  (1, ad 26, fun _ => .inl (cy 0, 6, .inl (S.1 32))),
  (1, ad 27, fun _ => .inl (cy 0, 6, .inl (S.1 33))),
  (1, ad 28, fun _ => .inl (cy 0, 144, .inl (S.1 34))),
  (1, ad 29, fun _ => .inl (cy 0, 24, .inl (S.1 37))),
  (1, ad 30, fun _ => .inl (cy 0, 24, .inl (S.1 38))),
  (1, ad 31, fun _ => .inl (cy 0, 144, .inl (S.1 39))),
  (1, ad 32, fun _ => .inl (cy 1, 12, .inr (.inl (S.2 41)))),
  (1, ad 33, fun _ => .inl (cy 1, 12, .inr (.inl (S.2 42)))),
  (1, ad 34, fun _ => .inl (cy 0, 32, .inl (S.1 43)))]
set_option maxRecDepth 20000 in
theorem eC_0 (cy : Nat → ClassId) (ad : Nat → Nat → Nat) (S : CSt) (i : Nat) (v : Int32) : GW ((GC cy ad S).set 0 (1, ad 0, va_up (fun i => .inr (7, [Value.ref (ad 1 0), Value.int (S.1 0 i 0), Value.ref (ad 9 0), Value.ref (ad 14 0), Value.ref (ad 15 6), Value.ref (ad 17 0), Value.int (S.1 1 i 0), Value.int (S.1 2 i 0), Value.ref (ad 3 8), Value.ref (ad 19 0), Value.ref (ad 22 0)])) i (.inr (7, [Value.ref (ad 1 0), Value.int (S.1 0 i 0), Value.ref (ad 9 0), Value.ref (ad 14 0), Value.ref (ad 15 6), Value.ref (ad 17 0), Value.int (S.1 1 i 0), Value.int (S.1 2 i 0), Value.ref (ad 3 8), Value.ref (ad 19 0), Value.ref (ad 22 0)].set 1 (Value.int v))))) = GW (GC cy ad (sI S 0 i 0 v)) :=
  congrArg (fun z => GW ((GC cy ad S).set 0 (1, ad 0, z))) (up_fn (g := fun i_1 => (Sum.inr (7, [Value.ref (ad 1 0), Value.int ((sI S 0 i 0 v).1 0 i_1 0), Value.ref (ad 9 0), Value.ref (ad 14 0), Value.ref (ad 15 6), Value.ref (ad 17 0), Value.int ((sI S 0 i 0 v).1 1 i_1 0), Value.int ((sI S 0 i 0 v).1 2 i_1 0), Value.ref (ad 3 8), Value.ref (ad 19 0), Value.ref (ad 22 0)]) : va_E)) (congrArg (fun z => (Sum.inr (7, [Value.ref (ad 1 0), Value.int (S.1 0 i 0), Value.ref (ad 9 0), Value.ref (ad 14 0), Value.ref (ad 15 6), Value.ref (ad 17 0), Value.int (S.1 1 i 0), Value.int (S.1 2 i 0), Value.ref (ad 3 8), Value.ref (ad 19 0), Value.ref (ad 22 0)].set 1 (Value.int z)) : va_E)) (sI_eq S 0 i 0 v)) (fun j hj => congrArg (fun (z : Nat → Int32) => (Sum.inr (7, [Value.ref (ad 1 0), Value.int (S.1 0 j 0), Value.ref (ad 9 0), Value.ref (ad 14 0), Value.ref (ad 15 6), Value.ref (ad 17 0), Value.int (S.1 1 j 0), Value.int (S.1 2 j 0), Value.ref (ad 3 8), Value.ref (ad 19 0), Value.ref (ad 22 0)].set 1 (Value.int (z 0))) : va_E)) (sI_ne S 0 i 0 v hj)))
set_option maxRecDepth 20000 in
theorem eC_1 (cy : Nat → ClassId) (ad : Nat → Nat → Nat) (S : CSt) (i : Nat) (v : Int32) : GW ((GC cy ad S).set 0 (1, ad 0, va_up (fun i => .inr (7, [Value.ref (ad 1 0), Value.int (S.1 0 i 0), Value.ref (ad 9 0), Value.ref (ad 14 0), Value.ref (ad 15 6), Value.ref (ad 17 0), Value.int (S.1 1 i 0), Value.int (S.1 2 i 0), Value.ref (ad 3 8), Value.ref (ad 19 0), Value.ref (ad 22 0)])) i (.inr (7, [Value.ref (ad 1 0), Value.int (S.1 0 i 0), Value.ref (ad 9 0), Value.ref (ad 14 0), Value.ref (ad 15 6), Value.ref (ad 17 0), Value.int (S.1 1 i 0), Value.int (S.1 2 i 0), Value.ref (ad 3 8), Value.ref (ad 19 0), Value.ref (ad 22 0)].set 6 (Value.int v))))) = GW (GC cy ad (sI S 1 i 0 v)) :=
  congrArg (fun z => GW ((GC cy ad S).set 0 (1, ad 0, z))) (up_fn (g := fun i_1 => (Sum.inr (7, [Value.ref (ad 1 0), Value.int ((sI S 1 i 0 v).1 0 i_1 0), Value.ref (ad 9 0), Value.ref (ad 14 0), Value.ref (ad 15 6), Value.ref (ad 17 0), Value.int ((sI S 1 i 0 v).1 1 i_1 0), Value.int ((sI S 1 i 0 v).1 2 i_1 0), Value.ref (ad 3 8), Value.ref (ad 19 0), Value.ref (ad 22 0)]) : va_E)) (congrArg (fun z => (Sum.inr (7, [Value.ref (ad 1 0), Value.int (S.1 0 i 0), Value.ref (ad 9 0), Value.ref (ad 14 0), Value.ref (ad 15 6), Value.ref (ad 17 0), Value.int (S.1 1 i 0), Value.int (S.1 2 i 0), Value.ref (ad 3 8), Value.ref (ad 19 0), Value.ref (ad 22 0)].set 6 (Value.int z)) : va_E)) (sI_eq S 1 i 0 v)) (fun j hj => congrArg (fun (z : Nat → Int32) => (Sum.inr (7, [Value.ref (ad 1 0), Value.int (S.1 0 j 0), Value.ref (ad 9 0), Value.ref (ad 14 0), Value.ref (ad 15 6), Value.ref (ad 17 0), Value.int (S.1 1 j 0), Value.int (S.1 2 j 0), Value.ref (ad 3 8), Value.ref (ad 19 0), Value.ref (ad 22 0)].set 6 (Value.int (z 0))) : va_E)) (sI_ne S 1 i 0 v hj)))
set_option maxRecDepth 20000 in
theorem eC_2 (cy : Nat → ClassId) (ad : Nat → Nat → Nat) (S : CSt) (i : Nat) (v : Int32) : GW ((GC cy ad S).set 0 (1, ad 0, va_up (fun i => .inr (7, [Value.ref (ad 1 0), Value.int (S.1 0 i 0), Value.ref (ad 9 0), Value.ref (ad 14 0), Value.ref (ad 15 6), Value.ref (ad 17 0), Value.int (S.1 1 i 0), Value.int (S.1 2 i 0), Value.ref (ad 3 8), Value.ref (ad 19 0), Value.ref (ad 22 0)])) i (.inr (7, [Value.ref (ad 1 0), Value.int (S.1 0 i 0), Value.ref (ad 9 0), Value.ref (ad 14 0), Value.ref (ad 15 6), Value.ref (ad 17 0), Value.int (S.1 1 i 0), Value.int (S.1 2 i 0), Value.ref (ad 3 8), Value.ref (ad 19 0), Value.ref (ad 22 0)].set 7 (Value.int v))))) = GW (GC cy ad (sI S 2 i 0 v)) :=
  congrArg (fun z => GW ((GC cy ad S).set 0 (1, ad 0, z))) (up_fn (g := fun i_1 => (Sum.inr (7, [Value.ref (ad 1 0), Value.int ((sI S 2 i 0 v).1 0 i_1 0), Value.ref (ad 9 0), Value.ref (ad 14 0), Value.ref (ad 15 6), Value.ref (ad 17 0), Value.int ((sI S 2 i 0 v).1 1 i_1 0), Value.int ((sI S 2 i 0 v).1 2 i_1 0), Value.ref (ad 3 8), Value.ref (ad 19 0), Value.ref (ad 22 0)]) : va_E)) (congrArg (fun z => (Sum.inr (7, [Value.ref (ad 1 0), Value.int (S.1 0 i 0), Value.ref (ad 9 0), Value.ref (ad 14 0), Value.ref (ad 15 6), Value.ref (ad 17 0), Value.int (S.1 1 i 0), Value.int (S.1 2 i 0), Value.ref (ad 3 8), Value.ref (ad 19 0), Value.ref (ad 22 0)].set 7 (Value.int z)) : va_E)) (sI_eq S 2 i 0 v)) (fun j hj => congrArg (fun (z : Nat → Int32) => (Sum.inr (7, [Value.ref (ad 1 0), Value.int (S.1 0 j 0), Value.ref (ad 9 0), Value.ref (ad 14 0), Value.ref (ad 15 6), Value.ref (ad 17 0), Value.int (S.1 1 j 0), Value.int (S.1 2 j 0), Value.ref (ad 3 8), Value.ref (ad 19 0), Value.ref (ad 22 0)].set 7 (Value.int (z 0))) : va_E)) (sI_ne S 2 i 0 v hj)))
set_option maxRecDepth 20000 in
theorem eC_3 (cy : Nat → ClassId) (ad : Nat → Nat → Nat) (S : CSt) (i : Nat) (v : Int32) : GW ((GC cy ad S).set 2 (4, ad 2, va_up (fun i => .inr (2, [Value.int (S.1 3 i 0), Value.int (S.1 4 i 0), Value.ref (ad 3 (2 * i)), Value.ref (ad 3 (2 * i + 1))])) i (.inr (2, [Value.int (S.1 3 i 0), Value.int (S.1 4 i 0), Value.ref (ad 3 (2 * i)), Value.ref (ad 3 (2 * i + 1))].set 0 (Value.int v))))) = GW (GC cy ad (sI S 3 i 0 v)) :=
  congrArg (fun z => GW ((GC cy ad S).set 2 (4, ad 2, z))) (up_fn (g := fun i_1 => (Sum.inr (2, [Value.int ((sI S 3 i 0 v).1 3 i_1 0), Value.int ((sI S 3 i 0 v).1 4 i_1 0), Value.ref (ad 3 (2 * i_1)), Value.ref (ad 3 (2 * i_1 + 1))]) : va_E)) (congrArg (fun z => (Sum.inr (2, [Value.int (S.1 3 i 0), Value.int (S.1 4 i 0), Value.ref (ad 3 (2 * i)), Value.ref (ad 3 (2 * i + 1))].set 0 (Value.int z)) : va_E)) (sI_eq S 3 i 0 v)) (fun j hj => congrArg (fun (z : Nat → Int32) => (Sum.inr (2, [Value.int (S.1 3 j 0), Value.int (S.1 4 j 0), Value.ref (ad 3 (2 * j)), Value.ref (ad 3 (2 * j + 1))].set 0 (Value.int (z 0))) : va_E)) (sI_ne S 3 i 0 v hj)))
set_option maxRecDepth 20000 in
theorem eC_4 (cy : Nat → ClassId) (ad : Nat → Nat → Nat) (S : CSt) (i : Nat) (v : Int32) : GW ((GC cy ad S).set 2 (4, ad 2, va_up (fun i => .inr (2, [Value.int (S.1 3 i 0), Value.int (S.1 4 i 0), Value.ref (ad 3 (2 * i)), Value.ref (ad 3 (2 * i + 1))])) i (.inr (2, [Value.int (S.1 3 i 0), Value.int (S.1 4 i 0), Value.ref (ad 3 (2 * i)), Value.ref (ad 3 (2 * i + 1))].set 1 (Value.int v))))) = GW (GC cy ad (sI S 4 i 0 v)) :=
  congrArg (fun z => GW ((GC cy ad S).set 2 (4, ad 2, z))) (up_fn (g := fun i_1 => (Sum.inr (2, [Value.int ((sI S 4 i 0 v).1 3 i_1 0), Value.int ((sI S 4 i 0 v).1 4 i_1 0), Value.ref (ad 3 (2 * i_1)), Value.ref (ad 3 (2 * i_1 + 1))]) : va_E)) (congrArg (fun z => (Sum.inr (2, [Value.int (S.1 3 i 0), Value.int (S.1 4 i 0), Value.ref (ad 3 (2 * i)), Value.ref (ad 3 (2 * i + 1))].set 1 (Value.int z)) : va_E)) (sI_eq S 4 i 0 v)) (fun j hj => congrArg (fun (z : Nat → Int32) => (Sum.inr (2, [Value.int (S.1 3 j 0), Value.int (S.1 4 j 0), Value.ref (ad 3 (2 * j)), Value.ref (ad 3 (2 * j + 1))].set 1 (Value.int (z 0))) : va_E)) (sI_ne S 4 i 0 v hj)))
set_option maxRecDepth 20000 in
theorem eC_5 (cy : Nat → ClassId) (ad : Nat → Nat → Nat) (S : CSt) (i : Nat) (v : Int32) : GW ((GC cy ad S).set 3 (9, ad 3, va_up (fun i => .inr (4, [Value.int (S.1 5 i 0), Value.ref (ad 4 i), Value.ref (ad 5 i), Value.ref (ad 6 i), Value.ref (ad 7 i), Value.ref (ad 8 i)])) i (.inr (4, [Value.int (S.1 5 i 0), Value.ref (ad 4 i), Value.ref (ad 5 i), Value.ref (ad 6 i), Value.ref (ad 7 i), Value.ref (ad 8 i)].set 0 (Value.int v))))) = GW (GC cy ad (sI S 5 i 0 v)) :=
  congrArg (fun z => GW ((GC cy ad S).set 3 (9, ad 3, z))) (up_fn (g := fun i_1 => (Sum.inr (4, [Value.int ((sI S 5 i 0 v).1 5 i_1 0), Value.ref (ad 4 i_1), Value.ref (ad 5 i_1), Value.ref (ad 6 i_1), Value.ref (ad 7 i_1), Value.ref (ad 8 i_1)]) : va_E)) (congrArg (fun z => (Sum.inr (4, [Value.int (S.1 5 i 0), Value.ref (ad 4 i), Value.ref (ad 5 i), Value.ref (ad 6 i), Value.ref (ad 7 i), Value.ref (ad 8 i)].set 0 (Value.int z)) : va_E)) (sI_eq S 5 i 0 v)) (fun j hj => congrArg (fun (z : Nat → Int32) => (Sum.inr (4, [Value.int (S.1 5 j 0), Value.ref (ad 4 j), Value.ref (ad 5 j), Value.ref (ad 6 j), Value.ref (ad 7 j), Value.ref (ad 8 j)].set 0 (Value.int (z 0))) : va_E)) (sI_ne S 5 i 0 v hj)))
set_option maxRecDepth 20000 in
theorem eC_11 (cy : Nat → ClassId) (ad : Nat → Nat → Nat) (S : CSt) (i : Nat) (v : Int32) : GW ((GC cy ad S).set 9 (1, ad 9, va_up (fun i => .inr (6, [Value.ref (ad 10 0), Value.int (S.1 11 i 0), Value.int (S.1 12 i 0)])) i (.inr (6, [Value.ref (ad 10 0), Value.int (S.1 11 i 0), Value.int (S.1 12 i 0)].set 1 (Value.int v))))) = GW (GC cy ad (sI S 11 i 0 v)) :=
  congrArg (fun z => GW ((GC cy ad S).set 9 (1, ad 9, z))) (up_fn (g := fun i_1 => (Sum.inr (6, [Value.ref (ad 10 0), Value.int ((sI S 11 i 0 v).1 11 i_1 0), Value.int ((sI S 11 i 0 v).1 12 i_1 0)]) : va_E)) (congrArg (fun z => (Sum.inr (6, [Value.ref (ad 10 0), Value.int (S.1 11 i 0), Value.int (S.1 12 i 0)].set 1 (Value.int z)) : va_E)) (sI_eq S 11 i 0 v)) (fun j hj => congrArg (fun (z : Nat → Int32) => (Sum.inr (6, [Value.ref (ad 10 0), Value.int (S.1 11 j 0), Value.int (S.1 12 j 0)].set 1 (Value.int (z 0))) : va_E)) (sI_ne S 11 i 0 v hj)))
set_option maxRecDepth 20000 in
theorem eC_12 (cy : Nat → ClassId) (ad : Nat → Nat → Nat) (S : CSt) (i : Nat) (v : Int32) : GW ((GC cy ad S).set 9 (1, ad 9, va_up (fun i => .inr (6, [Value.ref (ad 10 0), Value.int (S.1 11 i 0), Value.int (S.1 12 i 0)])) i (.inr (6, [Value.ref (ad 10 0), Value.int (S.1 11 i 0), Value.int (S.1 12 i 0)].set 2 (Value.int v))))) = GW (GC cy ad (sI S 12 i 0 v)) :=
  congrArg (fun z => GW ((GC cy ad S).set 9 (1, ad 9, z))) (up_fn (g := fun i_1 => (Sum.inr (6, [Value.ref (ad 10 0), Value.int ((sI S 12 i 0 v).1 11 i_1 0), Value.int ((sI S 12 i 0 v).1 12 i_1 0)]) : va_E)) (congrArg (fun z => (Sum.inr (6, [Value.ref (ad 10 0), Value.int (S.1 11 i 0), Value.int (S.1 12 i 0)].set 2 (Value.int z)) : va_E)) (sI_eq S 12 i 0 v)) (fun j hj => congrArg (fun (z : Nat → Int32) => (Sum.inr (6, [Value.ref (ad 10 0), Value.int (S.1 11 j 0), Value.int (S.1 12 j 0)].set 2 (Value.int (z 0))) : va_E)) (sI_ne S 12 i 0 v hj)))
set_option maxRecDepth 20000 in
theorem eC_13 (cy : Nat → ClassId) (ad : Nat → Nat → Nat) (S : CSt) (i : Nat) (v : Int32) : GW ((GC cy ad S).set 11 (24, ad 11, va_up (fun i => .inr (0, [Value.int (S.1 13 i 0), Value.int (S.1 14 i 0), Value.int (S.1 15 i 0), Value.int (S.1 16 i 0), Value.ref (ad 12 i), Value.ref (ad 13 i)])) i (.inr (0, [Value.int (S.1 13 i 0), Value.int (S.1 14 i 0), Value.int (S.1 15 i 0), Value.int (S.1 16 i 0), Value.ref (ad 12 i), Value.ref (ad 13 i)].set 0 (Value.int v))))) = GW (GC cy ad (sI S 13 i 0 v)) :=
  congrArg (fun z => GW ((GC cy ad S).set 11 (24, ad 11, z))) (up_fn (g := fun i_1 => (Sum.inr (0, [Value.int ((sI S 13 i 0 v).1 13 i_1 0), Value.int ((sI S 13 i 0 v).1 14 i_1 0), Value.int ((sI S 13 i 0 v).1 15 i_1 0), Value.int ((sI S 13 i 0 v).1 16 i_1 0), Value.ref (ad 12 i_1), Value.ref (ad 13 i_1)]) : va_E)) (congrArg (fun z => (Sum.inr (0, [Value.int (S.1 13 i 0), Value.int (S.1 14 i 0), Value.int (S.1 15 i 0), Value.int (S.1 16 i 0), Value.ref (ad 12 i), Value.ref (ad 13 i)].set 0 (Value.int z)) : va_E)) (sI_eq S 13 i 0 v)) (fun j hj => congrArg (fun (z : Nat → Int32) => (Sum.inr (0, [Value.int (S.1 13 j 0), Value.int (S.1 14 j 0), Value.int (S.1 15 j 0), Value.int (S.1 16 j 0), Value.ref (ad 12 j), Value.ref (ad 13 j)].set 0 (Value.int (z 0))) : va_E)) (sI_ne S 13 i 0 v hj)))
set_option maxRecDepth 20000 in
theorem eC_14 (cy : Nat → ClassId) (ad : Nat → Nat → Nat) (S : CSt) (i : Nat) (v : Int32) : GW ((GC cy ad S).set 11 (24, ad 11, va_up (fun i => .inr (0, [Value.int (S.1 13 i 0), Value.int (S.1 14 i 0), Value.int (S.1 15 i 0), Value.int (S.1 16 i 0), Value.ref (ad 12 i), Value.ref (ad 13 i)])) i (.inr (0, [Value.int (S.1 13 i 0), Value.int (S.1 14 i 0), Value.int (S.1 15 i 0), Value.int (S.1 16 i 0), Value.ref (ad 12 i), Value.ref (ad 13 i)].set 1 (Value.int v))))) = GW (GC cy ad (sI S 14 i 0 v)) :=
  congrArg (fun z => GW ((GC cy ad S).set 11 (24, ad 11, z))) (up_fn (g := fun i_1 => (Sum.inr (0, [Value.int ((sI S 14 i 0 v).1 13 i_1 0), Value.int ((sI S 14 i 0 v).1 14 i_1 0), Value.int ((sI S 14 i 0 v).1 15 i_1 0), Value.int ((sI S 14 i 0 v).1 16 i_1 0), Value.ref (ad 12 i_1), Value.ref (ad 13 i_1)]) : va_E)) (congrArg (fun z => (Sum.inr (0, [Value.int (S.1 13 i 0), Value.int (S.1 14 i 0), Value.int (S.1 15 i 0), Value.int (S.1 16 i 0), Value.ref (ad 12 i), Value.ref (ad 13 i)].set 1 (Value.int z)) : va_E)) (sI_eq S 14 i 0 v)) (fun j hj => congrArg (fun (z : Nat → Int32) => (Sum.inr (0, [Value.int (S.1 13 j 0), Value.int (S.1 14 j 0), Value.int (S.1 15 j 0), Value.int (S.1 16 j 0), Value.ref (ad 12 j), Value.ref (ad 13 j)].set 1 (Value.int (z 0))) : va_E)) (sI_ne S 14 i 0 v hj)))
set_option maxRecDepth 20000 in
theorem eC_15 (cy : Nat → ClassId) (ad : Nat → Nat → Nat) (S : CSt) (i : Nat) (v : Int32) : GW ((GC cy ad S).set 11 (24, ad 11, va_up (fun i => .inr (0, [Value.int (S.1 13 i 0), Value.int (S.1 14 i 0), Value.int (S.1 15 i 0), Value.int (S.1 16 i 0), Value.ref (ad 12 i), Value.ref (ad 13 i)])) i (.inr (0, [Value.int (S.1 13 i 0), Value.int (S.1 14 i 0), Value.int (S.1 15 i 0), Value.int (S.1 16 i 0), Value.ref (ad 12 i), Value.ref (ad 13 i)].set 2 (Value.int v))))) = GW (GC cy ad (sI S 15 i 0 v)) :=
  congrArg (fun z => GW ((GC cy ad S).set 11 (24, ad 11, z))) (up_fn (g := fun i_1 => (Sum.inr (0, [Value.int ((sI S 15 i 0 v).1 13 i_1 0), Value.int ((sI S 15 i 0 v).1 14 i_1 0), Value.int ((sI S 15 i 0 v).1 15 i_1 0), Value.int ((sI S 15 i 0 v).1 16 i_1 0), Value.ref (ad 12 i_1), Value.ref (ad 13 i_1)]) : va_E)) (congrArg (fun z => (Sum.inr (0, [Value.int (S.1 13 i 0), Value.int (S.1 14 i 0), Value.int (S.1 15 i 0), Value.int (S.1 16 i 0), Value.ref (ad 12 i), Value.ref (ad 13 i)].set 2 (Value.int z)) : va_E)) (sI_eq S 15 i 0 v)) (fun j hj => congrArg (fun (z : Nat → Int32) => (Sum.inr (0, [Value.int (S.1 13 j 0), Value.int (S.1 14 j 0), Value.int (S.1 15 j 0), Value.int (S.1 16 j 0), Value.ref (ad 12 j), Value.ref (ad 13 j)].set 2 (Value.int (z 0))) : va_E)) (sI_ne S 15 i 0 v hj)))
set_option maxRecDepth 20000 in
theorem eC_16 (cy : Nat → ClassId) (ad : Nat → Nat → Nat) (S : CSt) (i : Nat) (v : Int32) : GW ((GC cy ad S).set 11 (24, ad 11, va_up (fun i => .inr (0, [Value.int (S.1 13 i 0), Value.int (S.1 14 i 0), Value.int (S.1 15 i 0), Value.int (S.1 16 i 0), Value.ref (ad 12 i), Value.ref (ad 13 i)])) i (.inr (0, [Value.int (S.1 13 i 0), Value.int (S.1 14 i 0), Value.int (S.1 15 i 0), Value.int (S.1 16 i 0), Value.ref (ad 12 i), Value.ref (ad 13 i)].set 3 (Value.int v))))) = GW (GC cy ad (sI S 16 i 0 v)) :=
  congrArg (fun z => GW ((GC cy ad S).set 11 (24, ad 11, z))) (up_fn (g := fun i_1 => (Sum.inr (0, [Value.int ((sI S 16 i 0 v).1 13 i_1 0), Value.int ((sI S 16 i 0 v).1 14 i_1 0), Value.int ((sI S 16 i 0 v).1 15 i_1 0), Value.int ((sI S 16 i 0 v).1 16 i_1 0), Value.ref (ad 12 i_1), Value.ref (ad 13 i_1)]) : va_E)) (congrArg (fun z => (Sum.inr (0, [Value.int (S.1 13 i 0), Value.int (S.1 14 i 0), Value.int (S.1 15 i 0), Value.int (S.1 16 i 0), Value.ref (ad 12 i), Value.ref (ad 13 i)].set 3 (Value.int z)) : va_E)) (sI_eq S 16 i 0 v)) (fun j hj => congrArg (fun (z : Nat → Int32) => (Sum.inr (0, [Value.int (S.1 13 j 0), Value.int (S.1 14 j 0), Value.int (S.1 15 j 0), Value.int (S.1 16 j 0), Value.ref (ad 12 j), Value.ref (ad 13 j)].set 3 (Value.int (z 0))) : va_E)) (sI_ne S 16 i 0 v hj)))
set_option maxRecDepth 20000 in
theorem eC_20 (cy : Nat → ClassId) (ad : Nat → Nat → Nat) (S : CSt) (i : Nat) (v : Int32) : GW ((GC cy ad S).set 15 (7, ad 15, va_up (fun i => .inr (1, [Value.int (S.1 20 i 0), Value.ref (ad 16 i)])) i (.inr (1, [Value.int (S.1 20 i 0), Value.ref (ad 16 i)].set 0 (Value.int v))))) = GW (GC cy ad (sI S 20 i 0 v)) :=
  congrArg (fun z => GW ((GC cy ad S).set 15 (7, ad 15, z))) (up_fn (g := fun i_1 => (Sum.inr (1, [Value.int ((sI S 20 i 0 v).1 20 i_1 0), Value.ref (ad 16 i_1)]) : va_E)) (congrArg (fun z => (Sum.inr (1, [Value.int (S.1 20 i 0), Value.ref (ad 16 i)].set 0 (Value.int z)) : va_E)) (sI_eq S 20 i 0 v)) (fun j hj => congrArg (fun (z : Nat → Int32) => (Sum.inr (1, [Value.int (S.1 20 j 0), Value.ref (ad 16 j)].set 0 (Value.int (z 0))) : va_E)) (sI_ne S 20 i 0 v hj)))
set_option maxRecDepth 20000 in
theorem eC_22 (cy : Nat → ClassId) (ad : Nat → Nat → Nat) (S : CSt) (i : Nat) (v : Int32) : GW ((GC cy ad S).set 18 (6, ad 18, va_up (fun i => .inr (5, [Value.int (S.1 22 i 0), Value.int (S.1 23 i 0), Value.int (S.1 24 i 0), Value.int (S.1 25 i 0), Value.int (S.1 26 i 0), Value.ref (ad 15 i)])) i (.inr (5, [Value.int (S.1 22 i 0), Value.int (S.1 23 i 0), Value.int (S.1 24 i 0), Value.int (S.1 25 i 0), Value.int (S.1 26 i 0), Value.ref (ad 15 i)].set 0 (Value.int v))))) = GW (GC cy ad (sI S 22 i 0 v)) :=
  congrArg (fun z => GW ((GC cy ad S).set 18 (6, ad 18, z))) (up_fn (g := fun i_1 => (Sum.inr (5, [Value.int ((sI S 22 i 0 v).1 22 i_1 0), Value.int ((sI S 22 i 0 v).1 23 i_1 0), Value.int ((sI S 22 i 0 v).1 24 i_1 0), Value.int ((sI S 22 i 0 v).1 25 i_1 0), Value.int ((sI S 22 i 0 v).1 26 i_1 0), Value.ref (ad 15 i_1)]) : va_E)) (congrArg (fun z => (Sum.inr (5, [Value.int (S.1 22 i 0), Value.int (S.1 23 i 0), Value.int (S.1 24 i 0), Value.int (S.1 25 i 0), Value.int (S.1 26 i 0), Value.ref (ad 15 i)].set 0 (Value.int z)) : va_E)) (sI_eq S 22 i 0 v)) (fun j hj => congrArg (fun (z : Nat → Int32) => (Sum.inr (5, [Value.int (S.1 22 j 0), Value.int (S.1 23 j 0), Value.int (S.1 24 j 0), Value.int (S.1 25 j 0), Value.int (S.1 26 j 0), Value.ref (ad 15 j)].set 0 (Value.int (z 0))) : va_E)) (sI_ne S 22 i 0 v hj)))
set_option maxRecDepth 20000 in
theorem eC_23 (cy : Nat → ClassId) (ad : Nat → Nat → Nat) (S : CSt) (i : Nat) (v : Int32) : GW ((GC cy ad S).set 18 (6, ad 18, va_up (fun i => .inr (5, [Value.int (S.1 22 i 0), Value.int (S.1 23 i 0), Value.int (S.1 24 i 0), Value.int (S.1 25 i 0), Value.int (S.1 26 i 0), Value.ref (ad 15 i)])) i (.inr (5, [Value.int (S.1 22 i 0), Value.int (S.1 23 i 0), Value.int (S.1 24 i 0), Value.int (S.1 25 i 0), Value.int (S.1 26 i 0), Value.ref (ad 15 i)].set 1 (Value.int v))))) = GW (GC cy ad (sI S 23 i 0 v)) :=
  congrArg (fun z => GW ((GC cy ad S).set 18 (6, ad 18, z))) (up_fn (g := fun i_1 => (Sum.inr (5, [Value.int ((sI S 23 i 0 v).1 22 i_1 0), Value.int ((sI S 23 i 0 v).1 23 i_1 0), Value.int ((sI S 23 i 0 v).1 24 i_1 0), Value.int ((sI S 23 i 0 v).1 25 i_1 0), Value.int ((sI S 23 i 0 v).1 26 i_1 0), Value.ref (ad 15 i_1)]) : va_E)) (congrArg (fun z => (Sum.inr (5, [Value.int (S.1 22 i 0), Value.int (S.1 23 i 0), Value.int (S.1 24 i 0), Value.int (S.1 25 i 0), Value.int (S.1 26 i 0), Value.ref (ad 15 i)].set 1 (Value.int z)) : va_E)) (sI_eq S 23 i 0 v)) (fun j hj => congrArg (fun (z : Nat → Int32) => (Sum.inr (5, [Value.int (S.1 22 j 0), Value.int (S.1 23 j 0), Value.int (S.1 24 j 0), Value.int (S.1 25 j 0), Value.int (S.1 26 j 0), Value.ref (ad 15 j)].set 1 (Value.int (z 0))) : va_E)) (sI_ne S 23 i 0 v hj)))
set_option maxRecDepth 20000 in
theorem eC_24 (cy : Nat → ClassId) (ad : Nat → Nat → Nat) (S : CSt) (i : Nat) (v : Int32) : GW ((GC cy ad S).set 18 (6, ad 18, va_up (fun i => .inr (5, [Value.int (S.1 22 i 0), Value.int (S.1 23 i 0), Value.int (S.1 24 i 0), Value.int (S.1 25 i 0), Value.int (S.1 26 i 0), Value.ref (ad 15 i)])) i (.inr (5, [Value.int (S.1 22 i 0), Value.int (S.1 23 i 0), Value.int (S.1 24 i 0), Value.int (S.1 25 i 0), Value.int (S.1 26 i 0), Value.ref (ad 15 i)].set 2 (Value.int v))))) = GW (GC cy ad (sI S 24 i 0 v)) :=
  congrArg (fun z => GW ((GC cy ad S).set 18 (6, ad 18, z))) (up_fn (g := fun i_1 => (Sum.inr (5, [Value.int ((sI S 24 i 0 v).1 22 i_1 0), Value.int ((sI S 24 i 0 v).1 23 i_1 0), Value.int ((sI S 24 i 0 v).1 24 i_1 0), Value.int ((sI S 24 i 0 v).1 25 i_1 0), Value.int ((sI S 24 i 0 v).1 26 i_1 0), Value.ref (ad 15 i_1)]) : va_E)) (congrArg (fun z => (Sum.inr (5, [Value.int (S.1 22 i 0), Value.int (S.1 23 i 0), Value.int (S.1 24 i 0), Value.int (S.1 25 i 0), Value.int (S.1 26 i 0), Value.ref (ad 15 i)].set 2 (Value.int z)) : va_E)) (sI_eq S 24 i 0 v)) (fun j hj => congrArg (fun (z : Nat → Int32) => (Sum.inr (5, [Value.int (S.1 22 j 0), Value.int (S.1 23 j 0), Value.int (S.1 24 j 0), Value.int (S.1 25 j 0), Value.int (S.1 26 j 0), Value.ref (ad 15 j)].set 2 (Value.int (z 0))) : va_E)) (sI_ne S 24 i 0 v hj)))
set_option maxRecDepth 20000 in
theorem eC_25 (cy : Nat → ClassId) (ad : Nat → Nat → Nat) (S : CSt) (i : Nat) (v : Int32) : GW ((GC cy ad S).set 18 (6, ad 18, va_up (fun i => .inr (5, [Value.int (S.1 22 i 0), Value.int (S.1 23 i 0), Value.int (S.1 24 i 0), Value.int (S.1 25 i 0), Value.int (S.1 26 i 0), Value.ref (ad 15 i)])) i (.inr (5, [Value.int (S.1 22 i 0), Value.int (S.1 23 i 0), Value.int (S.1 24 i 0), Value.int (S.1 25 i 0), Value.int (S.1 26 i 0), Value.ref (ad 15 i)].set 3 (Value.int v))))) = GW (GC cy ad (sI S 25 i 0 v)) :=
  congrArg (fun z => GW ((GC cy ad S).set 18 (6, ad 18, z))) (up_fn (g := fun i_1 => (Sum.inr (5, [Value.int ((sI S 25 i 0 v).1 22 i_1 0), Value.int ((sI S 25 i 0 v).1 23 i_1 0), Value.int ((sI S 25 i 0 v).1 24 i_1 0), Value.int ((sI S 25 i 0 v).1 25 i_1 0), Value.int ((sI S 25 i 0 v).1 26 i_1 0), Value.ref (ad 15 i_1)]) : va_E)) (congrArg (fun z => (Sum.inr (5, [Value.int (S.1 22 i 0), Value.int (S.1 23 i 0), Value.int (S.1 24 i 0), Value.int (S.1 25 i 0), Value.int (S.1 26 i 0), Value.ref (ad 15 i)].set 3 (Value.int z)) : va_E)) (sI_eq S 25 i 0 v)) (fun j hj => congrArg (fun (z : Nat → Int32) => (Sum.inr (5, [Value.int (S.1 22 j 0), Value.int (S.1 23 j 0), Value.int (S.1 24 j 0), Value.int (S.1 25 j 0), Value.int (S.1 26 j 0), Value.ref (ad 15 j)].set 3 (Value.int (z 0))) : va_E)) (sI_ne S 25 i 0 v hj)))
set_option maxRecDepth 20000 in
theorem eC_26 (cy : Nat → ClassId) (ad : Nat → Nat → Nat) (S : CSt) (i : Nat) (v : Int32) : GW ((GC cy ad S).set 18 (6, ad 18, va_up (fun i => .inr (5, [Value.int (S.1 22 i 0), Value.int (S.1 23 i 0), Value.int (S.1 24 i 0), Value.int (S.1 25 i 0), Value.int (S.1 26 i 0), Value.ref (ad 15 i)])) i (.inr (5, [Value.int (S.1 22 i 0), Value.int (S.1 23 i 0), Value.int (S.1 24 i 0), Value.int (S.1 25 i 0), Value.int (S.1 26 i 0), Value.ref (ad 15 i)].set 4 (Value.int v))))) = GW (GC cy ad (sI S 26 i 0 v)) :=
  congrArg (fun z => GW ((GC cy ad S).set 18 (6, ad 18, z))) (up_fn (g := fun i_1 => (Sum.inr (5, [Value.int ((sI S 26 i 0 v).1 22 i_1 0), Value.int ((sI S 26 i 0 v).1 23 i_1 0), Value.int ((sI S 26 i 0 v).1 24 i_1 0), Value.int ((sI S 26 i 0 v).1 25 i_1 0), Value.int ((sI S 26 i 0 v).1 26 i_1 0), Value.ref (ad 15 i_1)]) : va_E)) (congrArg (fun z => (Sum.inr (5, [Value.int (S.1 22 i 0), Value.int (S.1 23 i 0), Value.int (S.1 24 i 0), Value.int (S.1 25 i 0), Value.int (S.1 26 i 0), Value.ref (ad 15 i)].set 4 (Value.int z)) : va_E)) (sI_eq S 26 i 0 v)) (fun j hj => congrArg (fun (z : Nat → Int32) => (Sum.inr (5, [Value.int (S.1 22 j 0), Value.int (S.1 23 j 0), Value.int (S.1 24 j 0), Value.int (S.1 25 j 0), Value.int (S.1 26 j 0), Value.ref (ad 15 j)].set 4 (Value.int (z 0))) : va_E)) (sI_ne S 26 i 0 v hj)))
set_option maxRecDepth 20000 in
theorem eC_27 (cy : Nat → ClassId) (ad : Nat → Nat → Nat) (S : CSt) (i : Nat) (v : Int32) : GW ((GC cy ad S).set 19 (1, ad 19, va_up (fun i => .inr (3, [Value.int (S.1 27 i 0), Value.ref (ad 20 0), Value.ref (ad 21 0)])) i (.inr (3, [Value.int (S.1 27 i 0), Value.ref (ad 20 0), Value.ref (ad 21 0)].set 0 (Value.int v))))) = GW (GC cy ad (sI S 27 i 0 v)) :=
  congrArg (fun z => GW ((GC cy ad S).set 19 (1, ad 19, z))) (up_fn (g := fun i_1 => (Sum.inr (3, [Value.int ((sI S 27 i 0 v).1 27 i_1 0), Value.ref (ad 20 0), Value.ref (ad 21 0)]) : va_E)) (congrArg (fun z => (Sum.inr (3, [Value.int (S.1 27 i 0), Value.ref (ad 20 0), Value.ref (ad 21 0)].set 0 (Value.int z)) : va_E)) (sI_eq S 27 i 0 v)) (fun j hj => congrArg (fun (z : Nat → Int32) => (Sum.inr (3, [Value.int (S.1 27 j 0), Value.ref (ad 20 0), Value.ref (ad 21 0)].set 0 (Value.int (z 0))) : va_E)) (sI_ne S 27 i 0 v hj)))
set_option maxRecDepth 20000 in
theorem eC_6 (cy : Nat → ClassId) (ad : Nat → Nat → Nat) (S : CSt) (i k : Nat) (v : Int32) : GW ((GC cy ad S).set 4 (9, ad 4, va_up (fun i => .inl (cy 0, 6, .inl (S.1 6 i))) i (.inl (cy 0, 6, .inl (upd (S.1 6 i) k v))))) = GW (GC cy ad (sI S 6 i k v)) :=
  congrArg (fun z => GW ((GC cy ad S).set 4 (9, ad 4, z))) (up_fn (g := fun j => (Sum.inl (cy 0, 6, Sum.inl ((sI S 6 i k v).1 6 j)) : va_E)) (by rw [sI_row]) (fun j hj => by rw [sI_ne S 6 i k v hj]))
set_option maxRecDepth 20000 in
theorem eC_7 (cy : Nat → ClassId) (ad : Nat → Nat → Nat) (S : CSt) (i k : Nat) (v : Int32) : GW ((GC cy ad S).set 5 (9, ad 5, va_up (fun i => .inl (cy 0, 6, .inl (S.1 7 i))) i (.inl (cy 0, 6, .inl (upd (S.1 7 i) k v))))) = GW (GC cy ad (sI S 7 i k v)) :=
  congrArg (fun z => GW ((GC cy ad S).set 5 (9, ad 5, z))) (up_fn (g := fun j => (Sum.inl (cy 0, 6, Sum.inl ((sI S 7 i k v).1 7 j)) : va_E)) (by rw [sI_row]) (fun j hj => by rw [sI_ne S 7 i k v hj]))
set_option maxRecDepth 20000 in
theorem eC_8 (cy : Nat → ClassId) (ad : Nat → Nat → Nat) (S : CSt) (i k : Nat) (v : Int32) : GW ((GC cy ad S).set 6 (9, ad 6, va_up (fun i => .inl (cy 0, 6, .inl (S.1 8 i))) i (.inl (cy 0, 6, .inl (upd (S.1 8 i) k v))))) = GW (GC cy ad (sI S 8 i k v)) :=
  congrArg (fun z => GW ((GC cy ad S).set 6 (9, ad 6, z))) (up_fn (g := fun j => (Sum.inl (cy 0, 6, Sum.inl ((sI S 8 i k v).1 8 j)) : va_E)) (by rw [sI_row]) (fun j hj => by rw [sI_ne S 8 i k v hj]))
set_option maxRecDepth 20000 in
theorem eC_9 (cy : Nat → ClassId) (ad : Nat → Nat → Nat) (S : CSt) (i k : Nat) (v : Int32) : GW ((GC cy ad S).set 7 (9, ad 7, va_up (fun i => .inl (cy 0, 6, .inl (S.1 9 i))) i (.inl (cy 0, 6, .inl (upd (S.1 9 i) k v))))) = GW (GC cy ad (sI S 9 i k v)) :=
  congrArg (fun z => GW ((GC cy ad S).set 7 (9, ad 7, z))) (up_fn (g := fun j => (Sum.inl (cy 0, 6, Sum.inl ((sI S 9 i k v).1 9 j)) : va_E)) (by rw [sI_row]) (fun j hj => by rw [sI_ne S 9 i k v hj]))
set_option maxRecDepth 20000 in
theorem eC_10 (cy : Nat → ClassId) (ad : Nat → Nat → Nat) (S : CSt) (i k : Nat) (v : Int32) : GW ((GC cy ad S).set 8 (9, ad 8, va_up (fun i => .inl (cy 0, 6, .inl (S.1 10 i))) i (.inl (cy 0, 6, .inl (upd (S.1 10 i) k v))))) = GW (GC cy ad (sI S 10 i k v)) :=
  congrArg (fun z => GW ((GC cy ad S).set 8 (9, ad 8, z))) (up_fn (g := fun j => (Sum.inl (cy 0, 6, Sum.inl ((sI S 10 i k v).1 10 j)) : va_E)) (by rw [sI_row]) (fun j hj => by rw [sI_ne S 10 i k v hj]))
set_option maxRecDepth 20000 in
theorem eC_17 (cy : Nat → ClassId) (ad : Nat → Nat → Nat) (S : CSt) (i k : Nat) (v : Int32) : GW ((GC cy ad S).set 12 (24, ad 12, va_up (fun i => .inl (cy 0, 6, .inl (S.1 17 i))) i (.inl (cy 0, 6, .inl (upd (S.1 17 i) k v))))) = GW (GC cy ad (sI S 17 i k v)) :=
  congrArg (fun z => GW ((GC cy ad S).set 12 (24, ad 12, z))) (up_fn (g := fun j => (Sum.inl (cy 0, 6, Sum.inl ((sI S 17 i k v).1 17 j)) : va_E)) (by rw [sI_row]) (fun j hj => by rw [sI_ne S 17 i k v hj]))
set_option maxRecDepth 20000 in
theorem eC_18 (cy : Nat → ClassId) (ad : Nat → Nat → Nat) (S : CSt) (i k : Nat) (v : Int32) : GW ((GC cy ad S).set 13 (24, ad 13, va_up (fun i => .inl (cy 0, 6, .inl (S.1 18 i))) i (.inl (cy 0, 6, .inl (upd (S.1 18 i) k v))))) = GW (GC cy ad (sI S 18 i k v)) :=
  congrArg (fun z => GW ((GC cy ad S).set 13 (24, ad 13, z))) (up_fn (g := fun j => (Sum.inl (cy 0, 6, Sum.inl ((sI S 18 i k v).1 18 j)) : va_E)) (by rw [sI_row]) (fun j hj => by rw [sI_ne S 18 i k v hj]))
set_option maxRecDepth 20000 in
theorem eC_19 (cy : Nat → ClassId) (ad : Nat → Nat → Nat) (S : CSt) (i k : Nat) (v : Int32) : GW ((GC cy ad S).set 14 (1, ad 14, va_up (fun i => .inl (cy 0, 8, .inl (S.1 19 i))) i (.inl (cy 0, 8, .inl (upd (S.1 19 i) k v))))) = GW (GC cy ad (sI S 19 i k v)) :=
  congrArg (fun z => GW ((GC cy ad S).set 14 (1, ad 14, z))) (up_fn (g := fun j => (Sum.inl (cy 0, 8, Sum.inl ((sI S 19 i k v).1 19 j)) : va_E)) (by rw [sI_row]) (fun j hj => by rw [sI_ne S 19 i k v hj]))
set_option maxRecDepth 20000 in
theorem eC_21 (cy : Nat → ClassId) (ad : Nat → Nat → Nat) (S : CSt) (i k : Nat) (v : Int32) : GW ((GC cy ad S).set 16 (7, ad 16, va_up (fun i => .inl (cy 0, 12, .inl (S.1 21 i))) i (.inl (cy 0, 12, .inl (upd (S.1 21 i) k v))))) = GW (GC cy ad (sI S 21 i k v)) :=
  congrArg (fun z => GW ((GC cy ad S).set 16 (7, ad 16, z))) (up_fn (g := fun j => (Sum.inl (cy 0, 12, Sum.inl ((sI S 21 i k v).1 21 j)) : va_E)) (by rw [sI_row]) (fun j hj => by rw [sI_ne S 21 i k v hj]))
set_option maxRecDepth 20000 in
theorem eJ_0 (cy : Nat → ClassId) (ad : Nat → Nat → Nat) (S : CSt) (k : Nat) (v : Int64) : GW ((GC cy ad S).set 20 (1, ad 20, va_up (fun _ => .inl (cy 1, 12, .inr (.inl (S.2.1 0)))) 0 (.inl (cy 1, 12, .inr (.inl (vp_updL (S.2.1 0) k v)))))) = GW (GC cy ad (sJ S 0 k v)) :=
  GW_one (GC cy ad S) 20 (ad 20) _ (fun _ => Sum.inl (cy 1, 12, .inr (.inl ((sJ S 0 k v).2.1 0)))) (by rw [va_up_self, sJ_row])
set_option maxRecDepth 20000 in
theorem eJ_1 (cy : Nat → ClassId) (ad : Nat → Nat → Nat) (S : CSt) (k : Nat) (v : Int64) : GW ((GC cy ad S).set 21 (1, ad 21, va_up (fun _ => .inl (cy 1, 12, .inr (.inl (S.2.1 1)))) 0 (.inl (cy 1, 12, .inr (.inl (vp_updL (S.2.1 1) k v)))))) = GW (GC cy ad (sJ S 1 k v)) :=
  GW_one (GC cy ad S) 21 (ad 21) _ (fun _ => Sum.inl (cy 1, 12, .inr (.inl ((sJ S 1 k v).2.1 1)))) (by rw [va_up_self, sJ_row])
