/-! ===== formulas: the class's pile ===== -/
theorem lp_step {α β : Type} {body : α → Option (α ⊕ β)} {n : Nat} {x y : α} (h : body x = some (.inl y)) : lpO body (n + 1) x = lpO body n y := by
  rw [lpO, h]
theorem lp_out {α β : Type} {body : α → Option (α ⊕ β)} {n : Nat} {x : α} {z : β} (h : body x = some (.inr z)) : lpO body (n + 1) x = some z := by
  rw [lpO, h]
theorem sJ_at (S : CSt) (f k : Nat) (v : Int64) (g l : Nat) : (sJ S f k v).2.1 g l = if g = f ∧ l = k then v else S.2.1 g l := by
  unfold sJ
  by_cases h1 : g = f
  · subst h1
    by_cases h3 : l = k
    · subst h3; simp [beq_t]
    · simp [beq_t, beq_f h3, h3]
  · simp [beq_f h1, h1]
def stC (S : CSt) (h : Nat) (l u : Nat → Int) : Prop := S.1 27 0 0 = nI h ∧ h ≤ 12 ∧ ∀ i, i < h → (S.2.1 0 i).toInt = l i ∧ (S.2.1 1 i).toInt = u i ∧ nf (l i) ∧ nf (u i) ∧ l i ≤ u i
def FrP (S S' : CSt) : Prop := ∀ g, g ≠ 27 → S'.1 g = S.1 g
def plP (S : CSt) (h : Nat) (x y : Int64) : CSt := sI (sJ (sJ S 0 h x) 1 h y) 27 0 0 (nI (h + 1))
theorem plP_fr (S : CSt) (h : Nat) (x y : Int64) : FrP S (plP S h x y) := fun g hg => by
  funext j l
  unfold plP
  rw [sI_at, if_neg (fun h => hg h.1)]
  rfl
theorem q_lay {n : Nat} {S : CSt} {h : Nat} {x y : Int64} (h12 : h < 12) (h27 : S.1 27 0 0 = nI h) : ((-1000000000000 ≤ x.toInt ∧ y.toInt ≤ 1000000000000) → m_X3_lay n S x y = some (1, plP S h x y)) ∧ (¬ (-1000000000000 ≤ x.toInt ∧ y.toInt ≤ 1000000000000) → m_X3_lay n S x y = some (0, S)) := by
  unfold m_X3_lay
  have c1 : (-1000000000000 : Int64).toInt = -1000000000000 := by decide
  have c2 : (1000000000000 : Int64).toInt = 1000000000000 := by decide
  rw [h27, if_neg (show ¬ (12 : Int32) ≤ nI h from fun h3 => by have := (nI_leI (a := 12) (b := h) (by decide) (by omega)).mp h3; omega)]
  by_cases h1 : lg_cmp x (-1000000000000) < 0
  · rw [if_pos h1]
    have := Int64.lt_iff_toInt_lt.mp ((lg_cmp_lt _ _).mp h1)
    rw [c1] at this
    exact ⟨fun hy => by omega, fun _ => rfl⟩
  · rw [if_neg h1]
    have g1 : ¬ x.toInt < (-1000000000000 : Int64).toInt := fun h3 => h1 ((lg_cmp_lt _ _).mpr (Int64.lt_iff_toInt_lt.mpr h3))
    rw [c1] at g1
    by_cases h2 : 0 < lg_cmp y 1000000000000
    · rw [if_neg (Int32.not_le.mpr h2)]
      have := Int64.lt_iff_toInt_lt.mp ((lg_cmp_gt _ _).mp h2)
      rw [c2] at this
      exact ⟨fun hy => by omega, fun _ => rfl⟩
    · rw [if_pos (Int32.not_lt.mp h2), inB_nI h12 (by omega), cond_true, nI_clamp (by omega)]
      have g2 : ¬ (1000000000000 : Int64).toInt < y.toInt := fun h3 => h2 ((lg_cmp_gt _ _).mpr (Int64.lt_iff_toInt_lt.mpr h3))
      rw [c2] at g2
      refine ⟨fun _ => ?_, fun hno => absurd ⟨by omega, by omega⟩ hno⟩
      show (bif inB (S.1 27 0 0) 12 then some (1, sI (sJ (sJ S 0 h x) 1 (S.1 27 0 0).toNatClampNeg y) 27 0 0 (S.1 27 0 0 + 1)) else none) = _
      rw [h27, inB_nI h12 (by omega), cond_true, nI_clamp (by omega), nI_1]
      rfl
theorem stC_push {S : CSt} {h : Nat} {l u : Nat → Int} {x y : Int64} {a b : Int} (hh : h < 12) (hs : ∀ i, i < h → (S.2.1 0 i).toInt = l i ∧ (S.2.1 1 i).toInt = u i ∧ nf (l i) ∧ nf (u i) ∧ l i ≤ u i) (ha : x.toInt = a) (hb : y.toInt = b) (na : nf a) (nb : nf b) (hab : a ≤ b) : stC (plP S h x y) (h + 1) (upZ l h a) (upZ u h b) := by
  refine ⟨?_, by omega, fun i hi => ?_⟩
  · unfold plP; rw [sI_at, if_pos ⟨rfl, rfl, rfl⟩]
  · have k1 : (plP S h x y).2.1 0 i = if i = h then x else S.2.1 0 i := by
      show (sJ (sJ S 0 h x) 1 h y).2.1 0 i = _
      rw [sJ_at, if_neg (by omega), sJ_at]
      by_cases e : i = h
      · rw [if_pos ⟨rfl, e⟩, if_pos e]
      · rw [if_neg (fun q => e q.2), if_neg e]
    have k2 : (plP S h x y).2.1 1 i = if i = h then y else S.2.1 1 i := by
      show (sJ (sJ S 0 h x) 1 h y).2.1 1 i = _
      rw [sJ_at]
      by_cases e : i = h
      · rw [if_pos ⟨rfl, e⟩, if_pos e]
      · rw [if_neg (fun q => e q.2), if_neg e, sJ_at, if_neg (by omega)]
    rw [k1, k2]
    unfold upZ
    by_cases e : i = h
    · rw [if_pos e, if_pos e, if_pos e, if_pos e]
      exact ⟨ha, hb, na, nb, hab⟩
    · rw [if_neg e, if_neg e, if_neg e, if_neg e]
      exact hs i (by omega)
def lfC (S : CSt) (x k : Nat) : Int64 := if ¬ (nI k &&& 1) = 0 then S.2.1 1 x else S.2.1 0 x
def rtC (S : CSt) (y k : Nat) : Int64 := if ¬ (nI k &&& 2) = 0 then S.2.1 1 y else S.2.1 0 y
theorem q_pairStep {n : Nat} {S : CSt} {w : Int32} {x y k : Nat} {a b : Int64} (hk : k < 4) (hx : x < 12) (hy : y < 12) (hw : w = 10 ∨ w = 11 ∨ w = 12 ∨ w = 13 ∨ w = 14 ∨ w = 15) (nl : nf (lfC S x k).toInt) (nr : nf (rtC S y k).toInt) (hz : w = 13 → (rtC S y k).toInt ≠ 0) :
    (b_X3_combine_71 n S w (nI x) (nI y) (a, b, nI k) = some (.inr (.inl ())) ∧ w = 12 ∧ ¬ nf ((lfC S x k).toInt * (rtC S y k).toInt)) ∨
    ∃ z : Int64, z.toInt = opZ w (lfC S x k).toInt (rtC S y k).toInt ∧ okZ w (lfC S x k).toInt (rtC S y k).toInt ∧ b_X3_combine_71 n S w (nI x) (nI y) (a, b, nI k) = some (.inl (if k = 0 then z else (if z < a then z else a), if k = 0 then z else (if z < b then b else z), nI (k + 1))) := by
  have e1 : b_X3_combine_71 n S w (nI x) (nI y) (a, b, nI k) = m_X3_combine_J123 n S w (nI x) (nI y) a b (nI k) (lfC S x k) (rtC S y k) := by
    unfold b_X3_combine_71 m_X3_combine_J99 lfC rtC
    dsimp only
    rw [if_neg (show ¬ (4 : Int32) ≤ nI k from fun h3 => by have := (nI_leI (a := 4) (b := k) (by decide) (by omega)).mp h3; omega)]
    rw [inB_nI hx (by omega), cond_true, cond_true, inB_nI hy (by omega), nI_clamp (by omega), nI_clamp (by omega), cond_true, cond_true]
    by_cases h1 : ¬ (nI k &&& 1) = 0
    · rw [if_pos h1, if_pos h1]
      by_cases h2 : ¬ (nI k &&& 2) = 0
      · rw [if_pos h2, if_pos h2]
      · rw [if_neg h2, if_neg h2]
    · rw [if_neg h1, if_neg h1]
      by_cases h2 : ¬ (nI k &&& 2) = 0
      · rw [if_pos h2, if_pos h2]; rfl
      · rw [if_neg h2, if_neg h2]; rfl
  rw [e1]
  generalize lfC S x k = l at nl hz ⊢
  generalize rtC S y k = r at nr hz ⊢
  have fin : okZ w l.toInt r.toInt → ∃ z : Int64, z.toInt = opZ w l.toInt r.toInt ∧ okZ w l.toInt r.toInt ∧ m_X3_combine_J143 n S w (nI x) (nI y) a b (nI k) l r = some (.inl (if k = 0 then z else (if z < a then z else a), if k = 0 then z else (if z < b then b else z), nI (k + 1))) := fun hok => by
    obtain ⟨z, hz1, hz2⟩ := q_apply (n := n) (S := S) hw nl nr hok
    refine ⟨z, hz2, hok, ?_⟩
    unfold m_X3_combine_J143
    rw [hz1, Option.bind_some]
    unfold m_X3_combine_J170
    by_cases h0 : k = 0
    · subst h0
      rw [if_neg (fun h => h rfl), if_neg (fun h => h rfl), if_pos rfl, if_pos rfl]
      rfl
    · have h1 : ¬ nI k = 0 := fun h => h0 ((nI_eq (a := k) (b := 0) (by omega) (by decide)).mp h)
      rw [if_pos h1, if_pos h1, if_neg h0, if_neg h0, ← nI_1]
      rfl
  unfold m_X3_combine_J123
  by_cases h12 : w = 12
  · rw [if_neg (fun h => h h12)]
    rcases q_isTooFar (n := n) (S := S) nl nr with ⟨f1, f2⟩ | ⟨f1, f2⟩
    · rw [f1, Option.bind_some, if_neg one_ne]
      exact Or.inl ⟨rfl, h12, f2⟩
    · rw [f1, Option.bind_some, if_pos rfl]
      exact Or.inr (fin ⟨hz, fun _ => f2⟩)
  · rw [if_pos h12]
    exact Or.inr (fin ⟨hz, fun e => absurd e h12⟩)
theorem tI_min (z a : Int64) : (if z < a then z else a).toInt = mnZ a.toInt z.toInt := by
  unfold mnZ
  by_cases h : z < a
  · rw [if_pos h]
    have := Int64.lt_iff_toInt_lt.mp h
    rw [if_pos (by omega)]
  · rw [if_neg h]
    have : ¬ z.toInt < a.toInt := fun q => h (Int64.lt_iff_toInt_lt.mpr q)
    split <;> omega
theorem tI_max (z b : Int64) : (if z < b then b else z).toInt = mxZ b.toInt z.toInt := by
  unfold mxZ
  by_cases h : z < b
  · rw [if_pos h]
    have := Int64.lt_iff_toInt_lt.mp h
    rw [if_neg (by omega)]
  · rw [if_neg h]
    have : ¬ z.toInt < b.toInt := fun q => h (Int64.lt_iff_toInt_lt.mpr q)
    rw [if_pos (by omega)]
theorem mn4_sw (p q r s : Int) : mnZ (mnZ (mnZ p r) q) s = mn4 p q r s := by
  unfold mn4 mnZ
  repeat' split
  all_goals omega
theorem mx4_sw (p q r s : Int) : mxZ (mxZ (mxZ p r) q) s = mx4 p q r s := by
  unfold mx4 mxZ
  repeat' split
  all_goals omega
theorem q_comb4 {n : Nat} {S : CSt} {w : Int32} {x y : Nat} {a b c d : Int} (hn : 4 < n) (hx : x < 12) (hy : y < 12) (hw : w = 10 ∨ w = 11 ∨ w = 12 ∨ w = 13 ∨ w = 14 ∨ w = 15) (ea : (S.2.1 0 x).toInt = a) (eb : (S.2.1 1 x).toInt = b) (ec : (S.2.1 0 y).toInt = c) (ed : (S.2.1 1 y).toInt = d) (na : nf a) (nb : nf b) (nc : nf c) (nd : nf d) (hz : w = 13 → c ≠ 0 ∧ d ≠ 0) :
    (lpO (b_X3_combine_71 n S w (nI x) (nI y)) n (0, 0, 0) = some (.inl ()) ∧ w = 12 ∧ ¬ (nf (a * c) ∧ nf (a * d) ∧ nf (b * c) ∧ nf (b * d))) ∨
    ∃ p q : Int64, lpO (b_X3_combine_71 n S w (nI x) (nI y)) n (0, 0, 0) = some (.inr (p, q)) ∧ (w = 12 → nf (a * c) ∧ nf (a * d) ∧ nf (b * c) ∧ nf (b * d)) ∧ p.toInt = (ivO a b c d w).1 ∧ q.toInt = (ivO a b c d w).2 := by
  have l0 : lfC S x 0 = S.2.1 0 x := if_neg (by decide)
  have l1 : lfC S x 1 = S.2.1 1 x := if_pos (by decide)
  have l2 : lfC S x 2 = S.2.1 0 x := if_neg (by decide)
  have l3 : lfC S x 3 = S.2.1 1 x := if_pos (by decide)
  have r0 : rtC S y 0 = S.2.1 0 y := if_neg (by decide)
  have r1 : rtC S y 1 = S.2.1 0 y := if_neg (by decide)
  have r2 : rtC S y 2 = S.2.1 1 y := if_pos (by decide)
  have r3 : rtC S y 3 = S.2.1 1 y := if_pos (by decide)
  obtain ⟨n', hn'⟩ : ∃ n', n = n' + 5 := ⟨n - 5, by omega⟩
  have q0 := q_pairStep (n := n) (S := S) (w := w) (x := x) (y := y) (k := 0) (a := 0) (b := 0) (by omega) hx hy hw (by rw [l0, ea]; exact na) (by rw [r0, ec]; exact nc) (by rw [r0, ec]; exact fun h => (hz h).1)
  rw [l0, r0, ea, ec] at q0
  have hl : ∀ k X, lpO (b_X3_combine_71 n S w (nI x) (nI y)) (n' + k) X = lpO (b_X3_combine_71 n S w (nI x) (nI y)) (n' + k) X := fun _ _ => rfl
  have start : lpO (b_X3_combine_71 n S w (nI x) (nI y)) n (0, 0, 0) = lpO (b_X3_combine_71 n S w (nI x) (nI y)) (n' + 4 + 1) (0, 0, nI 0) := by rw [← hn', nI_0]
  rw [start]
  rcases q0 with ⟨s0, w12, f0⟩ | ⟨z0, v0, o0, s0⟩
  · rw [lp_out s0]
    exact Or.inl ⟨rfl, w12, fun h => f0 h.1⟩
  rw [if_pos rfl, if_pos rfl] at s0
  change _ = some (Sum.inl (_, _, nI 1)) at s0
  rw [lp_step s0]
  have q1 := q_pairStep (n := n) (S := S) (w := w) (x := x) (y := y) (k := 1) (a := z0) (b := z0) (by omega) hx hy hw (by rw [l1, eb]; exact nb) (by rw [r1, ec]; exact nc) (by rw [r1, ec]; exact fun h => (hz h).1)
  rw [l1, r1, eb, ec] at q1
  rcases q1 with ⟨s1, w12, f1⟩ | ⟨z1, v1, o1, s1⟩
  · rw [show n' + 4 = n' + 3 + 1 from rfl, lp_out s1]
    exact Or.inl ⟨rfl, w12, fun h => f1 h.2.2.1⟩
  rw [if_neg (show ¬ 1 = 0 by omega), if_neg (show ¬ 1 = 0 by omega)] at s1
  change _ = some (Sum.inl (_, _, nI 2)) at s1
  rw [show n' + 4 = n' + 3 + 1 from rfl, lp_step s1]
  have q2 := q_pairStep (n := n) (S := S) (w := w) (x := x) (y := y) (k := 2) (a := if z1 < z0 then z1 else z0) (b := if z1 < z0 then z0 else z1) (by omega) hx hy hw (by rw [l2, ea]; exact na) (by rw [r2, ed]; exact nd) (by rw [r2, ed]; exact fun h => (hz h).2)
  rw [l2, r2, ea, ed] at q2
  rcases q2 with ⟨s2, w12, f2⟩ | ⟨z2, v2, o2, s2⟩
  · rw [show n' + 3 = n' + 2 + 1 from rfl, lp_out s2]
    exact Or.inl ⟨rfl, w12, fun h => f2 h.2.1⟩
  rw [if_neg (show ¬ 2 = 0 by omega), if_neg (show ¬ 2 = 0 by omega)] at s2
  change _ = some (Sum.inl (_, _, nI 3)) at s2
  rw [show n' + 3 = n' + 2 + 1 from rfl, lp_step s2]
  have q3 := q_pairStep (n := n) (S := S) (w := w) (x := x) (y := y) (k := 3) (a := if z2 < (if z1 < z0 then z1 else z0) then z2 else (if z1 < z0 then z1 else z0)) (b := if z2 < (if z1 < z0 then z0 else z1) then (if z1 < z0 then z0 else z1) else z2) (by omega) hx hy hw (by rw [l3, eb]; exact nb) (by rw [r3, ed]; exact nd) (by rw [r3, ed]; exact fun h => (hz h).2)
  rw [l3, r3, eb, ed] at q3
  rcases q3 with ⟨s3, w12, f3⟩ | ⟨z3, v3, o3, s3⟩
  · rw [show n' + 2 = n' + 1 + 1 from rfl, lp_out s3]
    exact Or.inl ⟨rfl, w12, fun h => f3 h.2.2.2⟩
  rw [if_neg (show ¬ 3 = 0 by omega), if_neg (show ¬ 3 = 0 by omega)] at s3
  change _ = some (Sum.inl (_, _, nI 4)) at s3
  rw [show n' + 2 = n' + 1 + 1 from rfl, lp_step s3]
  refine Or.inr ⟨_, _, lp_out (if_pos (show nI 4 ≤ nI 4 from Int32.le_refl _)), fun h12 => ⟨o0.2 h12, o2.2 h12, o1.2 h12, o3.2 h12⟩, ?_, ?_⟩
  · dsimp only
    rw [tI_min, tI_min, tI_min, v0, v1, v2, v3]
    exact mn4_sw _ _ _ _
  · dsimp only
    rw [tI_max, tI_max, tI_max, v0, v1, v2, v3]
    exact mx4_sw _ _ _ _
