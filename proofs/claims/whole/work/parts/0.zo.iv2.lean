/-! ===== formulas: ranges hold what is reckoned in them ===== -/
theorem mul_btw {a b x y : Int} (h1 : a ≤ x) (h2 : x ≤ b) : (a * y ≤ x * y ∧ x * y ≤ b * y) ∨ (b * y ≤ x * y ∧ x * y ≤ a * y) := by
  rcases Int.le_total 0 y with h | h
  · exact Or.inl ⟨Int.mul_le_mul_of_nonneg_right h1 h, Int.mul_le_mul_of_nonneg_right h2 h⟩
  · exact Or.inr ⟨Int.mul_le_mul_of_nonpos_right h2 h, Int.mul_le_mul_of_nonpos_right h1 h⟩
theorem tdiv_mono {a x y : Int} (h1 : a ≤ x) (hy : 0 < y) : a.tdiv y ≤ x.tdiv y := by
  rcases Int.le_total 0 a with h | h
  · rw [Int.tdiv_eq_ediv_of_nonneg h, Int.tdiv_eq_ediv_of_nonneg (Int.le_trans h h1)]
    exact Int.ediv_le_ediv hy h1
  · rcases Int.le_total 0 x with h2 | h2
    · have e1 : a.tdiv y ≤ 0 := by
        have : 0 ≤ (-a).tdiv y := Int.tdiv_nonneg (by omega) (by omega)
        rw [Int.neg_tdiv] at this
        omega
      have e2 : 0 ≤ x.tdiv y := Int.tdiv_nonneg h2 (by omega)
      omega
    · have e1 : (-x).tdiv y ≤ (-a).tdiv y := by
        rw [Int.tdiv_eq_ediv_of_nonneg (by omega), Int.tdiv_eq_ediv_of_nonneg (by omega)]
        exact Int.ediv_le_ediv hy (by omega)
      rw [Int.neg_tdiv, Int.neg_tdiv] at e1
      omega
theorem tdiv_anti {x c y : Int} (hx : 0 ≤ x) (hc : 0 < c) (h : c ≤ y) : x.tdiv y ≤ x.tdiv c := by
  rw [Int.tdiv_eq_ediv_of_nonneg hx, Int.tdiv_eq_ediv_of_nonneg hx]
  have hy : 0 < y := by omega
  refine (Int.le_ediv_iff_mul_le hc).mpr ?_
  have h1 : x / y * y ≤ x := Int.ediv_mul_le x (by omega)
  have h0 : 0 ≤ x / y := Int.ediv_nonneg hx (by omega)
  have h2 : x / y * c ≤ x / y * y := Int.mul_le_mul_of_nonneg_left h h0
  omega
theorem tdiv_bx {a b x y : Int} (h1 : a ≤ x) (h2 : x ≤ b) (hy : y ≠ 0) : (a.tdiv y ≤ x.tdiv y ∧ x.tdiv y ≤ b.tdiv y) ∨ (b.tdiv y ≤ x.tdiv y ∧ x.tdiv y ≤ a.tdiv y) := by
  rcases Int.lt_or_gt_of_ne hy with h | h
  · have e1 := tdiv_mono (y := -y) h1 (by omega)
    have e2 := tdiv_mono (y := -y) h2 (by omega)
    rw [Int.tdiv_neg, Int.tdiv_neg] at e1 e2
    exact Or.inr ⟨by omega, by omega⟩
  · exact Or.inl ⟨tdiv_mono h1 h, tdiv_mono h2 h⟩
theorem tdiv_byp {x c d y : Int} (hc : 0 < c) (h1 : c ≤ y) (h2 : y ≤ d) : (x.tdiv c ≤ x.tdiv y ∧ x.tdiv y ≤ x.tdiv d) ∨ (x.tdiv d ≤ x.tdiv y ∧ x.tdiv y ≤ x.tdiv c) := by
  rcases Int.le_total 0 x with h | h
  · exact Or.inr ⟨tdiv_anti h (by omega) h2, tdiv_anti h hc h1⟩
  · have e1 := tdiv_anti (x := -x) (by omega) hc h1
    have e2 := tdiv_anti (x := -x) (c := y) (y := d) (by omega) (by omega) h2
    rw [Int.neg_tdiv, Int.neg_tdiv] at e1 e2
    exact Or.inl ⟨by omega, by omega⟩
theorem tdiv_by {x c d y : Int} (hz : ¬ (c ≤ 0 ∧ 0 ≤ d)) (h1 : c ≤ y) (h2 : y ≤ d) : (x.tdiv c ≤ x.tdiv y ∧ x.tdiv y ≤ x.tdiv d) ∨ (x.tdiv d ≤ x.tdiv y ∧ x.tdiv y ≤ x.tdiv c) := by
  rcases Int.lt_or_le 0 c with h | h
  · exact tdiv_byp h h1 h2
  · have hd : d < 0 := Int.not_le.mp (fun h3 => hz ⟨h, h3⟩)
    have e := tdiv_byp (x := x) (c := -d) (d := -c) (y := -y) (by omega) (by omega) (by omega)
    rw [Int.tdiv_neg, Int.tdiv_neg, Int.tdiv_neg] at e
    omega
def mn4 (p q r s : Int) : Int := mnZ (mnZ p q) (mnZ r s)
def mx4 (p q r s : Int) : Int := mxZ (mxZ p q) (mxZ r s)
theorem mn4_le (p q r s : Int) : mn4 p q r s ≤ p ∧ mn4 p q r s ≤ q ∧ mn4 p q r s ≤ r ∧ mn4 p q r s ≤ s := by
  unfold mn4 mnZ
  repeat' split
  all_goals omega
theorem mx4_ge (p q r s : Int) : p ≤ mx4 p q r s ∧ q ≤ mx4 p q r s ∧ r ≤ mx4 p q r s ∧ s ≤ mx4 p q r s := by
  unfold mx4 mxZ
  repeat' split
  all_goals omega
/-- whether two ranges may be combined -/
def okI (w : Int32) (a b c d : Int) : Prop := ¬ (w = 13 ∧ c ≤ 0 ∧ 0 ≤ d) ∧ (w = 12 → nf (a * c) ∧ nf (a * d) ∧ nf (b * c) ∧ nf (b * d))
theorem op_in {w : Int32} {a b c d x y : Int} (h : okI w a b c d) (hx1 : a ≤ x) (hx2 : x ≤ b) (hy1 : c ≤ y) (hy2 : y ≤ d) : okZ w x y ∧ mn4 (opZ w a c) (opZ w a d) (opZ w b c) (opZ w b d) ≤ opZ w x y ∧ opZ w x y ≤ mx4 (opZ w a c) (opZ w a d) (opZ w b c) (opZ w b d) := by
  obtain ⟨m1, m2, m3, m4⟩ := mn4_le (opZ w a c) (opZ w a d) (opZ w b c) (opZ w b d)
  obtain ⟨M1, M2, M3, M4⟩ := mx4_ge (opZ w a c) (opZ w a d) (opZ w b c) (opZ w b d)
  generalize mn4 (opZ w a c) (opZ w a d) (opZ w b c) (opZ w b d) = lo at m1 m2 m3 m4 ⊢
  generalize mx4 (opZ w a c) (opZ w a d) (opZ w b c) (opZ w b d) = hi at M1 M2 M3 M4 ⊢
  unfold opZ at m1 m2 m3 m4 M1 M2 M3 M4 ⊢
  by_cases h0 : w = 10
  · rw [if_pos h0] at m1 m2 m3 m4 M1 M2 M3 M4 ⊢
    exact ⟨⟨fun e => absurd (h0.symm.trans e) (by decide), fun e => absurd (h0.symm.trans e) (by decide)⟩, by omega, by omega⟩
  rw [if_neg h0] at m1 m2 m3 m4 M1 M2 M3 M4 ⊢
  by_cases h1 : w = 11
  · rw [if_pos h1] at m1 m2 m3 m4 M1 M2 M3 M4 ⊢
    exact ⟨⟨fun e => absurd (h1.symm.trans e) (by decide), fun e => absurd (h1.symm.trans e) (by decide)⟩, by omega, by omega⟩
  rw [if_neg h1] at m1 m2 m3 m4 M1 M2 M3 M4 ⊢
  by_cases h2 : w = 12
  · rw [if_pos h2] at m1 m2 m3 m4 M1 M2 M3 M4 ⊢
    obtain ⟨n1, n2, n3, n4⟩ := h.2 h2
    unfold nf at n1 n2 n3 n4
    have x1 := mul_btw (y := y) hx1 hx2
    have y1 := mul_btw (a := c) (b := d) (x := y) (y := a) hy1 hy2
    have y2 := mul_btw (a := c) (b := d) (x := y) (y := b) hy1 hy2
    rw [Int.mul_comm c a, Int.mul_comm y a, Int.mul_comm d a] at y1
    rw [Int.mul_comm c b, Int.mul_comm y b, Int.mul_comm d b] at y2
    refine ⟨⟨fun e => absurd (h2.symm.trans e) (by decide), fun _ => ?_⟩, ?_, ?_⟩
    · unfold nf; omega
    · omega
    · omega
  rw [if_neg h2] at m1 m2 m3 m4 M1 M2 M3 M4 ⊢
  by_cases h3 : w = 13
  · rw [if_pos h3] at m1 m2 m3 m4 M1 M2 M3 M4 ⊢
    have hz : ¬ (c ≤ 0 ∧ 0 ≤ d) := fun h4 => h.1 ⟨h3, h4⟩
    have hy : y ≠ 0 := fun e => hz (by omega)
    have x1 := tdiv_bx (y := y) hx1 hx2 hy
    have y1 := tdiv_by (x := a) hz hy1 hy2
    have y2 := tdiv_by (x := b) hz hy1 hy2
    exact ⟨⟨fun _ => hy, fun e => absurd (h3.symm.trans e) (by decide)⟩, by omega, by omega⟩
  rw [if_neg h3] at m1 m2 m3 m4 M1 M2 M3 M4 ⊢
  refine ⟨⟨fun e => absurd e h3, fun e => absurd e h2⟩, ?_⟩
  by_cases h4 : w = 14
  · rw [if_pos h4] at m1 m2 m3 m4 M1 M2 M3 M4 ⊢
    repeat' split at m1
    all_goals repeat' split at M4
    all_goals (repeat' split) <;> omega
  · rw [if_neg h4] at m1 m2 m3 m4 M1 M2 M3 M4 ⊢
    repeat' split at m1
    all_goals repeat' split at M4
    all_goals (repeat' split) <;> omega
/-! ===== formulas: the machine of ranges, the machine of values ===== -/
def upZ (f : Nat → Int) (k : Nat) (v : Int) : Nat → Int := fun i => if i = k then v else f i
def ivO (a b c d : Int) (w : Int32) : Int × Int := (mn4 (opZ w a c) (opZ w a d) (opZ w b c) (opZ w b d), mx4 (opZ w a c) (opZ w a d) (opZ w b c) (opZ w b d))
/-- behind word w: P: it may be done; the ranges then -/
def ivS (R : Int32 → Prop) (lo hi : Int32 → Int) (w : Int32) (h : Nat) (l u : Nat → Int) (h' : Nat) (l' u' : Nat → Int) : Prop :=
  (w < 10 ∧ R w ∧ h' = h + 1 ∧ l' = upZ l h (lo w) ∧ u' = upZ u h (hi w)) ∨
  (¬ w < 10 ∧ ¬ w < 100 ∧ h' = h + 1 ∧ l' = upZ l h (w.toInt - 200) ∧ u' = upZ u h (w.toInt - 200)) ∨
  (¬ w < 10 ∧ w < 100 ∧ w = 16 ∧ 1 ≤ h ∧ h' = h ∧ l' = upZ l (h - 1) (-u (h - 1)) ∧ u' = upZ u (h - 1) (-l (h - 1)) ∧ nf (l' (h - 1)) ∧ nf (u' (h - 1))) ∨
  (¬ w < 10 ∧ w < 100 ∧ ¬ w = 16 ∧ 2 ≤ h ∧ h' = h - 1 ∧ okI w (l (h - 2)) (u (h - 2)) (l (h - 1)) (u (h - 1)) ∧ l' = upZ l (h - 2) (ivO (l (h - 2)) (u (h - 2)) (l (h - 1)) (u (h - 1)) w).1 ∧ u' = upZ u (h - 2) (ivO (l (h - 2)) (u (h - 2)) (l (h - 1)) (u (h - 1)) w).2 ∧ -1000000000000 ≤ l' (h - 2) ∧ u' (h - 2) ≤ 1000000000000)
def vlS (V : Int32 → Int) (w : Int32) (h : Nat) (v : Nat → Int) (h' : Nat) (v' : Nat → Int) : Prop :=
  (w < 10 ∧ h' = h + 1 ∧ v' = upZ v h (V w)) ∨
  (¬ w < 10 ∧ ¬ w < 100 ∧ h' = h + 1 ∧ v' = upZ v h (w.toInt - 200)) ∨
  (¬ w < 10 ∧ w < 100 ∧ w = 16 ∧ h' = h ∧ v' = upZ v (h - 1) (-v (h - 1))) ∨
  (¬ w < 10 ∧ w < 100 ∧ ¬ w = 16 ∧ h' = h - 1 ∧ okZ w (v (h - 2)) (v (h - 1)) ∧ v' = upZ v (h - 2) (opZ w (v (h - 2)) (v (h - 1))))
/-- a value within its range stays within it -/
theorem vl_in {R : Int32 → Prop} {lo hi V : Int32 → Int} {w : Int32} {h h' : Nat} {l u l' u' v : Nat → Int} (hs : ivS R lo hi w h l u h' l' u') (hV : R w → lo w ≤ V w ∧ V w ≤ hi w) (hin : ∀ i, i < h → l i ≤ v i ∧ v i ≤ u i) : ∃ v', vlS V w h v h' v' ∧ ∀ i, i < h' → l' i ≤ v' i ∧ v' i ≤ u' i := by
  rcases hs with ⟨a1, a2, a3, a4, a5⟩ | ⟨a1, a2, a3, a4, a5⟩ | ⟨a1, a2, a3, a4, a5, a6, a7, a8, a9⟩ | ⟨a1, a2, a3, a4, a5, a6, a7, a8, a9⟩
  · refine ⟨upZ v h (V w), Or.inl ⟨a1, a3, rfl⟩, fun i hi => ?_⟩
    rw [a4, a5]
    unfold upZ
    by_cases e : i = h
    · rw [if_pos e, if_pos e, if_pos e]; exact hV a2
    · rw [if_neg e, if_neg e, if_neg e]; exact hin i (by omega)
  · refine ⟨upZ v h (w.toInt - 200), Or.inr (Or.inl ⟨a1, a2, a3, rfl⟩), fun i hi => ?_⟩
    rw [a4, a5]
    unfold upZ
    by_cases e : i = h
    · rw [if_pos e, if_pos e]; omega
    · rw [if_neg e, if_neg e, if_neg e]; exact hin i (by omega)
  · refine ⟨upZ v (h - 1) (-v (h - 1)), Or.inr (Or.inr (Or.inl ⟨a1, a2, a3, a5, rfl⟩)), fun i hi => ?_⟩
    rw [a6, a7]
    unfold upZ
    by_cases e : i = h - 1
    · have := hin (h - 1) (by omega)
      rw [if_pos e, if_pos e, if_pos e]; omega
    · rw [if_neg e, if_neg e, if_neg e]; exact hin i (by omega)
  · have i1 := hin (h - 2) (by omega)
    have i2 := hin (h - 1) (by omega)
    obtain ⟨o1, o2, o3⟩ := op_in a6 i1.1 i1.2 i2.1 i2.2
    refine ⟨upZ v (h - 2) (opZ w (v (h - 2)) (v (h - 1))), Or.inr (Or.inr (Or.inr ⟨a1, a2, a3, a5, o1, rfl⟩)), fun i hi => ?_⟩
    rw [a7, a8]
    unfold upZ
    by_cases e : i = h - 2
    · rw [if_pos e, if_pos e, if_pos e]; exact ⟨o2, o3⟩
    · rw [if_neg e, if_neg e, if_neg e]; exact hin i (by omega)
