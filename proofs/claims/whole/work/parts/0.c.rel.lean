/-! ===== a shape: how many fields, their names, sorts and ranges (K: how many classes) ===== -/
def Sh (K m : Nat) (na kd lo hi : Nat → Int32) : Prop :=
  m ≤ 6 ∧ (∀ i, i < m → ∀ j, j < m → na i = na j → i = j) ∧ ∀ i, i < m → (∃ a, a < 10 ∧ na i = nI a) ∧
    ((kd i = 0 ∧ lo i ≤ hi i ∧ (-1000000) ≤ lo i ∧ hi i ≤ 1000000) ∨ ((kd i = 1 ∨ kd i = 2) ∧ ∃ d, d < K ∧ lo i = nI d ∧ hi i = nI d))
/-- row c of an array of rows of six -/
def r6 (f : Nat → Int32) (c : Nat) : Nat → Int32 := fun k => f (6 * c + k)
/-! ===== the reference's memory, alone ===== -/
def MIcls (K : Nat) (m1 m2 m3 : Nat → Int32) : Prop := K ≤ 4 ∧ m1 0 = nI K ∧ ∀ c, c < 4 → (∃ v, v ≤ 9 ∧ m2 c = nI v ∧ (m3 c = 1 → 1 ≤ v)) ∧ (m3 c = 0 ∨ m3 c = 1)
def MIsh (K : Nat) (m4 m5 m6 m7 m8 : Nat → Int32) : Prop := ∀ c, c < 4 → ∃ m, m4 c = nI m ∧ Sh K m (r6 m5 c) (r6 m6 c) (r6 m7 c) (r6 m8 c)
def MIrec (K : Nat) (m2 m14 m15 : Nat → Int32) : Prop := ∀ r, r < 24 → m14 r = -1 ∨ ∃ c, c < K ∧ m14 r = nI c ∧ 0 ≤ m15 r ∧ m15 r ≤ m2 c
/-- record r of class c has the field k, of the sort q -/
def Fld (m4 m6 m14 : Nat → Int32) (r c k : Nat) (q : Int32) : Prop := r < 24 ∧ c < 4 ∧ m14 r = nI c ∧ (∃ m, m ≤ 6 ∧ m4 c = nI m ∧ k < m) ∧ r6 m6 c k = q
def Own (m4 m6 m14 m16 : Nat → Int32) (r k p : Nat) : Prop := ∃ c, Fld m4 m6 m14 r c k 2 ∧ r6 m16 r k = nI p
def MIval (m4 m6 m7 m8 m14 m16 : Nat → Int32) : Prop :=
  (∀ r c k, Fld m4 m6 m14 r c k 0 → r6 m7 c k ≤ r6 m16 r k ∧ r6 m16 r k ≤ r6 m8 c k) ∧
  (∀ r c k, Fld m4 m6 m14 r c k 1 → r6 m16 r k = -1 ∨ ∃ p, p < 24 ∧ r6 m16 r k = nI p ∧ m14 p ≠ -1 ∧ ∀ r' k', ¬ Own m4 m6 m14 m16 r' k' p) ∧
  (∀ r c k, Fld m4 m6 m14 r c k 2 → ∃ p, p < 24 ∧ r6 m16 r k = nI p ∧ m14 p = r6 m7 c k) ∧
  (∀ r k r' k' p, Own m4 m6 m14 m16 r k p → Own m4 m6 m14 m16 r' k' p → r = r' ∧ k = k')
def MIroot (m14 m19 : Nat → Int32) : Prop := ∀ i, i < 8 → m19 i = -1 ∨ ∃ p, p < 24 ∧ m19 i = nI p ∧ m14 p ≠ -1
def MIrank (m4 m6 m7 : Nat → Int32) : Prop := ∃ ρ : Nat → Nat, (∀ c, c < 4 → ρ c < 4) ∧ (∀ c, c < 4 → ∀ d, d < 4 → ρ c = ρ d → c = d) ∧ ∀ c m k d, c < 4 → m ≤ 6 → m4 c = nI m → k < m → r6 m6 c k = 2 → d < 4 → r6 m7 c k = nI d → ρ c < ρ d
/-- the version before, of a class whose change can be taken back: its values; the owning fields stand in the new version too -/
def Oldv (m4 m6 m7 m8 m11 m12 m13 m14 m16 m17 : Nat → Int32) (c mo : Nat) : Prop :=
  (∀ r k, r < 24 → m14 r = nI c → k < mo → r6 m11 c k = 0 → r6 m12 c k ≤ r6 m17 r k ∧ r6 m17 r k ≤ r6 m13 c k) ∧
  (∀ r k, r < 24 → m14 r = nI c → k < mo → r6 m11 c k = 1 → r6 m17 r k = -1 ∨ ∃ p, p < 24 ∧ r6 m17 r k = nI p ∧ m14 p ≠ -1 ∧ ∀ r' k', ¬ Own m4 m6 m14 m16 r' k' p) ∧
  ∃ φ : Nat → Nat, (∀ k, k < mo → r6 m11 c k = 2 → (∃ m, m ≤ 6 ∧ m4 c = nI m ∧ φ k < m) ∧ r6 m6 c (φ k) = 2 ∧ r6 m7 c (φ k) = r6 m12 c k ∧ ∀ r, r < 24 → m14 r = nI c → r6 m17 r k = r6 m16 r (φ k)) ∧ ∀ k, k < mo → r6 m11 c k = 2 → ∀ j, j < mo → r6 m11 c j = 2 → φ k = φ j → k = j
def MIold (K : Nat) (m3 m4 m6 m7 m8 m9 m10 m11 m12 m13 m14 m16 m17 : Nat → Int32) : Prop := ∀ c, c < 4 → ∃ mo, mo ≤ 6 ∧ m9 c = nI mo ∧ (m3 c = 1 → Sh K mo (r6 m10 c) (r6 m11 c) (r6 m12 c) (r6 m13 c) ∧ Oldv m4 m6 m7 m8 m11 m12 m13 m14 m16 m17 c mo)
def isW (x : Int32) : Prop := (0 ≤ x ∧ x ≤ 16) ∨ (100 ≤ x ∧ x ≤ 300)
def MIwrd (m20 m21 : Nat → Int32) : Prop := ∃ w, w ≤ 12 ∧ m20 0 = nI w ∧ ∀ k, k < w → isW (m21 k)
/-- how many a word takes; the height of the pile behind the first k words -/
def tk (x : Int32) : Nat := if x = 16 then 1 else if 10 ≤ x ∧ x < 16 then 2 else 0
def rgt (f : Nat → Int32) : Nat → Option Nat
  | 0 => some 0
  | k + 1 => match rgt f k with
    | none => none
    | some h => if tk (f k) ≤ h then some (h + 1 - tk (f k)) else none
def StOk (K : Nat) (kd a b c d : Int32) : Prop := (∃ x, x < 10 ∧ a = nI x) ∧ (kd = 0 ∨ kd = 6 ∨ (kd = 1 ∧ ∃ x, x < 10 ∧ b = nI x) ∨ ((kd = 2 ∨ kd = 3) ∧ b ≤ c ∧ (-1000000) ≤ b ∧ c ≤ 1000000) ∨ (kd = 4 ∧ ∃ x, x < K ∧ b = nI x) ∨ (kd = 5 ∧ (∃ x, x < K ∧ b = nI x) ∧ ∃ x, 1 ≤ x ∧ x ≤ 1023 ∧ c = nI x))
def MIstp (K : Nat) (m22 m23 m24 m25 : Nat → Int32) : Prop := ∃ q, q ≤ 6 ∧ m22 0 = nI q ∧ ∀ i, i < q → StOk K (m23 (5 * i)) (m23 (5 * i + 1)) (m23 (5 * i + 2)) (m23 (5 * i + 3)) (m23 (5 * i + 4)) ∧ (m23 (5 * i) = 2 → ∃ l, l ≤ 12 ∧ m24 i = nI l ∧ (∀ k, k < l → isW (m25 (12 * i + k))) ∧ rgt (fun k => m25 (12 * i + k)) l = some 1)
def MI (K : Nat) (m : Nat → Nat → Int32) : Prop := MIcls K (m 1) (m 2) (m 3) ∧ MIsh K (m 4) (m 5) (m 6) (m 7) (m 8) ∧ MIrec K (m 2) (m 14) (m 15) ∧ MIval (m 4) (m 6) (m 7) (m 8) (m 14) (m 16) ∧ MIroot (m 14) (m 19) ∧ MIrank (m 4) (m 6) (m 7) ∧
  MIold K (m 3) (m 4) (m 6) (m 7) (m 8) (m 9) (m 10) (m 11) (m 12) (m 13) (m 14) (m 16) (m 17) ∧ MIwrd (m 20) (m 21) ∧ MIstp K (m 22) (m 23) (m 24) (m 25)
/-! ===== the class's memory beside it: σ, τ: which entry is which slot's; L: the last id ===== -/
def CRcls (K : Nat) (s0 s3 s4 : Nat → Nat → Int32) (m2 m3 : Nat → Int32) : Prop := s0 0 0 = nI K ∧ ∀ c, c < 4 → s3 c 0 = m2 c ∧ s4 c 0 = m3 c
/-- shape i of the class's is this one -/
def ShC (s5 s6 s7 s8 s9 : Nat → Nat → Int32) (i m : Nat) (na kd lo hi : Nat → Int32) : Prop := s5 i 0 = nI m ∧ ∀ k, k < m → s6 i k = na k ∧ s7 i k = kd k ∧ s8 i k = lo k ∧ s9 i k = hi k
def CRsh (s5 s6 s7 s8 s9 : Nat → Nat → Int32) (m4 m5 m6 m7 m8 : Nat → Int32) : Prop := ∀ c m, c < 4 → m ≤ 6 → m4 c = nI m → ShC s5 s6 s7 s8 s9 (2 * c) m (r6 m5 c) (r6 m6 c) (r6 m7 c) (r6 m8 c)
def CRold (s5 s6 s7 s8 s9 : Nat → Nat → Int32) (m3 m9 m10 m11 m12 m13 : Nat → Int32) : Prop := ∀ c m, c < 4 → m ≤ 6 → m9 c = nI m → m3 c = 1 → ShC s5 s6 s7 s8 s9 (2 * c + 1) m (r6 m10 c) (r6 m11 c) (r6 m12 c) (r6 m13 c)
def CRrec (σ τ : Nat → Nat) (s13 s14 s15 : Nat → Nat → Int32) (m14 m15 : Nat → Int32) : Prop := (∀ r, r < 24 → m14 r ≠ -1 → σ r < 24 ∧ τ (σ r) = r ∧ s13 (σ r) 0 ≠ 0 ∧ s14 (σ r) 0 = m14 r ∧ s15 (σ r) 0 = m15 r) ∧ ∀ e, e < 24 → s13 e 0 ≠ 0 → τ e < 24 ∧ σ (τ e) = e ∧ m14 (τ e) ≠ -1
def CRid (j L : Nat) (s12 s13 : Nat → Nat → Int32) : Prop := L ≤ 200 * j ∧ s12 0 0 = nI L ∧ (∀ e, e < 24 → s13 e 0 ≠ 0 → ∃ i, 1 ≤ i ∧ i ≤ L ∧ s13 e 0 = nI i) ∧ ∀ e, e < 24 → s13 e 0 ≠ 0 → ∀ e', e' < 24 → s13 e 0 = s13 e' 0 → e = e'
def CRcnt (s11 : Nat → Nat → Int32) (m14 : Nat → Int32) : Prop := s11 0 0 = nI (cn (fun r => !decide (m14 r = -1)) 24)
/-- the id that stands for a slot -/
def tr (σ : Nat → Nat) (s13 : Nat → Nat → Int32) (w : Int32) : Int32 := if w < 0 then 0 else s13 (σ w.toNatClampNeg) 0
def CRval (σ : Nat → Nat) (s13 s17 : Nat → Nat → Int32) (m4 m6 m14 m16 : Nat → Int32) : Prop := ∀ r c k q, Fld m4 m6 m14 r c k q → s17 (σ r) k = if q = 0 then r6 m16 r k else tr σ s13 (r6 m16 r k)
def CRroot (σ : Nat → Nat) (s13 s19 : Nat → Nat → Int32) (m19 : Nat → Int32) : Prop := ∀ i, i < 8 → s19 0 i = tr σ s13 (m19 i)
def CRoldv (σ : Nat → Nat) (L : Nat) (s13 s18 : Nat → Nat → Int32) (m3 m9 m11 m14 m17 : Nat → Int32) : Prop := ∀ c mo r k, c < 4 → m3 c = 1 → mo ≤ 6 → m9 c = nI mo → r < 24 → m14 r = nI c → k < mo → (r6 m11 c k = 0 → s18 (σ r) k = r6 m17 r k) ∧ (r6 m11 c k ≠ 0 → (r6 m17 r k ≠ -1 → s18 (σ r) k = tr σ s13 (r6 m17 r k)) ∧ (r6 m17 r k = -1 → ∃ i, i ≤ L ∧ s18 (σ r) k = nI i ∧ ∀ e, e < 24 → s13 e 0 ≠ 0 → s13 e 0 ≠ nI i))
def CRwrd (s20 s21 : Nat → Nat → Int32) (m20 m21 : Nat → Int32) : Prop := s20 6 0 = m20 0 ∧ ∀ w k, w ≤ 12 → m20 0 = nI w → k < w → s21 6 k = m21 k
def CRstp (s1 s20 s21 s22 s23 s24 s25 s26 : Nat → Nat → Int32) (m22 m23 m24 m25 : Nat → Int32) : Prop := s1 0 0 = m22 0 ∧ ∀ q i, q ≤ 6 → m22 0 = nI q → i < q → s22 i 0 = m23 (5 * i) ∧ s23 i 0 = m23 (5 * i + 1) ∧ s24 i 0 = m23 (5 * i + 2) ∧ s25 i 0 = m23 (5 * i + 3) ∧ s26 i 0 = m23 (5 * i + 4) ∧ (m23 (5 * i) = 2 → s20 i 0 = m24 i ∧ ∀ l k, l ≤ 12 → m24 i = nI l → k < l → s21 i k = m25 (12 * i + k))
def CR (j K L : Nat) (σ τ : Nat → Nat) (s : Nat → Nat → Nat → Int32) (m : Nat → Nat → Int32) : Prop := CRcls K (s 0) (s 3) (s 4) (m 2) (m 3) ∧ CRsh (s 5) (s 6) (s 7) (s 8) (s 9) (m 4) (m 5) (m 6) (m 7) (m 8) ∧ CRold (s 5) (s 6) (s 7) (s 8) (s 9) (m 3) (m 9) (m 10) (m 11) (m 12) (m 13) ∧
  CRrec σ τ (s 13) (s 14) (s 15) (m 14) (m 15) ∧ CRid j L (s 12) (s 13) ∧ CRcnt (s 11) (m 14) ∧ CRval σ (s 13) (s 17) (m 4) (m 6) (m 14) (m 16) ∧ CRroot σ (s 13) (s 19) (m 19) ∧ CRoldv σ L (s 13) (s 18) (m 3) (m 9) (m 11) (m 14) (m 17) ∧
  CRwrd (s 20) (s 21) (m 20) (m 21) ∧ CRstp (s 1) (s 20) (s 21) (s 22) (s 23) (s 24) (s 25) (s 26) (m 22) (m 23) (m 24) (m 25) ∧ s 2 0 0 = m 26 0
def Rel (j : Nat) (S : CSt) (M : MSt) : Prop := ∃ (K L : Nat) (σ τ : Nat → Nat), MI K M.1 ∧ CR j K L σ τ S.1 M.1
theorem CRid_up {j j' L : Nat} {s12 s13 : Nat → Nat → Int32} (h : CRid j L s12 s13) (hj : j ≤ j') : CRid j' L s12 s13 := ⟨by have := h.1; omega, h.2⟩
theorem CR_up {j K L : Nat} {σ τ : Nat → Nat} {s : Nat → Nat → Nat → Int32} {m : Nat → Nat → Int32} (h : CR j K L σ τ s m) : CR (j + 1) K L σ τ s m := by
  obtain ⟨h1, h2, h3, h4, h5, h6⟩ := h
  exact ⟨h1, h2, h3, h4, CRid_up h5 (by omega), h6⟩
theorem Rel_up {j : Nat} {S : CSt} {M : MSt} (h : Rel j S M) : Rel (j + 1) S M := by
  obtain ⟨K, L, σ, τ, h1, h2⟩ := h
  exact ⟨K, L, σ, τ, h1, CR_up h2⟩
/-- the code alone is written -/
theorem Rel_code {j : Nat} {S : CSt} {M : MSt} (v : Int32) (h : Rel j S M) : Rel j S (mI M 0 0 v) := h
