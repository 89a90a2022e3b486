/-! ===== change: a class is split: all records of the class ===== -/
def isCb (S : CSt) (c e : Nat) : Bool := !decide (S.1 13 e 0 = 0) && decide (S.1 14 e 0 = nI c)
theorem isCb_iff {S : CSt} {c e : Nat} : isCb S c e = true ↔ isC S e c := by
  unfold isCb isC
  simp
def spcI (S S' : CSt) (T : MSt) (c d p m s L q : Nat) (en : Nat → Nat) : Prop :=
  (∀ g, g ≠ 4 → g ≠ 11 → g ≠ 12 → g ≠ 13 → g ≠ 14 → g ≠ 15 → g ≠ 17 → S'.1 g = S.1 g) ∧ (∀ j l, S'.1 4 j l = S.1 4 j l) ∧ S'.1 12 0 0 = nI (L + cn (isCb S c) q) ∧ S'.1 11 0 0 = nI (cn (fun e => !decide (S'.1 13 e 0 = 0)) 24) ∧
  cn (fun e => !decide (S'.1 13 e 0 = 0)) 24 = cn (fun e => !decide (S.1 13 e 0 = 0)) 24 + cn (isCb S c) q ∧
  (∀ e, e < 24 → e < q → isC S e c → en e < 24 ∧ S.1 13 (en e) 0 = 0 ∧ S'.1 13 (en e) 0 = nI (L + 1 + cn (isCb S c) e) ∧ S'.1 14 (en e) 0 = nI d ∧ S'.1 15 (en e) 0 = S.1 3 d 0 ∧ (∀ k, k < p → S'.1 17 (en e) k = S.1 17 e (fdP T d m k)) ∧ (∀ i, i < m → kM T s i = true → S'.1 17 e (cn (kM T s) i) = S.1 17 e i) ∧ S'.1 17 e (cn (kM T s) m) = S'.1 13 (en e) 0) ∧
  (∀ y, (∀ e, e < 24 → e < q → isC S e c → y ≠ en e) → S'.1 13 y 0 = S.1 13 y 0 ∧ S'.1 14 y 0 = S.1 14 y 0 ∧ S'.1 15 y 0 = S.1 15 y 0 ∧ (¬ (y < 24 ∧ y < q ∧ isC S y c) → S'.1 17 y = S.1 17 y))
theorem q_splitAll {n : Nat} {S : CSt} {T : MSt} {K c d p m s i x L : Nat} (hn : 24 < n) (hc : c < 4) (hd : d < 4) (hcd : d ≠ c) (hp6 : p ≤ 6) (hDE : DE S T m) (hSh : Sh K m (T.1 29) (T.1 30) (T.1 31) (T.1 32)) (hG : ∀ k, k < p → GoodF T d m k) (hS : S.1 5 (2 * d) 0 = nI p ∧ ∀ k, k < p → S.1 6 (2 * d) k = r6 (T.1 5) d k) (h22 : S.1 22 i 0 = 5) (h24 : S.1 24 i 0 = nI d) (h25 : S.1 25 i 0 = nI s) (hs : s < 1024) (h12 : S.1 12 0 0 = nI L) (hL : L < 2 ^ 30) (h11 : S.1 11 0 0 = nI (cn (fun e => !decide (S.1 13 e 0 = 0)) 24)) (h4 : S.1 4 d 0 = 0) (hroom : cn (fun e => !decide (S.1 13 e 0 = 0)) 24 + cn (isCb S c) 24 ≤ 24) (hlt : cn (kM T s) m < 6) : Ok (m_X7_moveAll n S i (nI c)) (fun S' => ∃ en, spcI S S' T c d p m s L 24 en) := by
  unfold m_X7_moveAll
  refine ok_seq (P := fun S' => ∃ en, spcI S S' T c d p m s L 24 en) ?_ (fun S' h => ok_eq rfl h)
  refine ok_for2 (N := 24) hn (I := fun q S' => ∃ en, spcI S S' T c d p m s L q en) (fun q S' hq hI => ?_) ⟨fun _ => 0, fun _ _ _ _ _ _ _ _ => rfl, fun _ _ => rfl, h12, h11, rfl, fun e _ he => absurd he (Nat.not_lt_zero _), fun y _ => ⟨rfl, rfl, rfl, fun _ => rfl⟩⟩
  obtain ⟨en, i1, i2, i3, i4, i5, i6, i7⟩ := hI
  have lower : ∀ {e}, e < q → isC S e c → cn (isCb S c) e < cn (isCb S c) q := fun {e} he hC => rk_lt he (isCb_iff.mpr hC)
  have cq := cn_le (isCb S c) q
  have einj : ∀ {e e'}, e < 24 → e < q → isC S e c → e' < 24 → e' < q → isC S e' c → en e = en e' → e = e' := fun {e e'} a1 a2 a3 b1 b2 b3 h => by
    have h1 := (i6 e a1 a2 a3).2.2.1
    have h2 := (i6 e' b1 b2 b3).2.2.1
    rw [h] at h1
    have := (nI_eq (by have := lower a2 a3; omega) (by have := lower b2 b3; omega)).mp (h1.symm.trans h2)
    exact rk_inj (isCb_iff.mpr a3) (isCb_iff.mpr b3) (by omega)
  have i1' := fun g (h : g ≠ 4 ∧ g ≠ 11 ∧ g ≠ 12 ∧ g ≠ 13 ∧ g ≠ 14 ∧ g ≠ 15 ∧ g ≠ 17) => i1 g h.1 h.2.1 h.2.2.1 h.2.2.2.1 h.2.2.2.2.1 h.2.2.2.2.2.1 h.2.2.2.2.2.2
  unfold b_X7_moveAll_2
  dsimp only
  rw [Ok_ite]
  refine ⟨fun h => ?_, fun h => ?_⟩
  · have e : q = 24 := ge_eq (by decide) hq h
    rw [Ok_some]
    subst e
    exact ⟨en, i1, i2, i3, i4, i5, i6, i7⟩
  · have hq2 : q < 24 := nge_lt (by decide) hq h
    rw [Ok_bif, nI_clamp (by omega), q_isOf, Ok_bind, Ok_some]
    refine ⟨inB_nI hq2 (by omega), ?_⟩
    by_cases hnew : ∃ e, e < 24 ∧ e < q ∧ isC S e c ∧ q = en e
    · -- a new record: of the other class
      obtain ⟨e, a1, a2, a3, a4⟩ := hnew
      obtain ⟨b1, b2, b3, b4, -⟩ := i6 e a1 a2 a3
      have hno : ¬ isC S q c := fun hC => hC.1 (by rw [a4]; exact b2)
      have e1 : (!decide (S'.1 13 q 0 = 0) && decide (S'.1 14 q 0 = nI c)) = false := by
        rw [show S'.1 14 q 0 = nI d by rw [a4]; exact b4]
        have : ¬ nI d = nI c := fun h => hcd (nI_inj4 hd hc h)
        simp [this]
      rw [e1, if_neg (show ¬ (false = true) by decide), if_pos rfl, Ok_nm, Ok_some, nI_1]
      have hcn : cn (isCb S c) (q + 1) = cn (isCb S c) q := cn_f (fun h => hno (isCb_iff.mp h))
      have lt : ∀ {e}, e < q + 1 → isC S e c → e < q := fun {e} he hC => by
        have : e ≠ q := fun h => hno (by rw [← h]; exact hC)
        omega
      refine ⟨hq2, rfl, en, i1, i2, by rw [hcn]; exact i3, i4, by rw [hcn]; exact i5, fun e a b hC => i6 e a (lt b hC) hC, fun y hy => ?_⟩
      obtain ⟨z1, z2, z3, z4⟩ := i7 y (fun e a b hC => hy e a (by omega) hC)
      exact ⟨z1, z2, z3, fun hn' => z4 (fun h => hn' ⟨h.1, by omega, h.2.2⟩)⟩
    · have hold : ∀ e, e < 24 → e < q → isC S e c → q ≠ en e := fun e a1 a2 a3 a4 => hnew ⟨e, a1, a2, a3, a4⟩
      obtain ⟨o1, o2, o3, o4⟩ := i7 q hold
      have o17 : S'.1 17 q = S.1 17 q := o4 (fun h => absurd h.2.1 (Nat.lt_irrefl _))
      rw [o1, o2]
      by_cases hC : isC S q c
      · have hb : (!decide (S.1 13 q 0 = 0) && decide (S.1 14 q 0 = nI c)) = true := isCb_iff.mpr hC
        have hb' : isCb S c q = true := hb
        rw [hb, if_pos rfl, if_neg one_ne]
        have hcn : cn (isCb S c) (q + 1) = cn (isCb S c) q + 1 := cn_t hb'
        have hlow := rk_lt hq2 hb'
        have hDE' : DE S' T m := by
          refine ⟨hDE.1, by rw [i1' 5 (by omega)]; exact hDE.2.1, hDE.2.2.1, fun k hk => ?_⟩
          rw [i1' 6 (by omega), i1' 7 (by omega), i1' 8 (by omega), i1' 9 (by omega), i1' 10 (by omega)]
          exact hDE.2.2.2 k hk
        have hfree : 0 < cn (fun e => decide (S'.1 13 e 0 = 0)) 24 := by
          obtain ⟨k, k1, k2⟩ := cn_lt (p := fun e => !decide (S'.1 13 e 0 = 0)) (m := 24) (by rw [i5]; omega)
          have k2 : decide (S'.1 13 k 0 = 0) = true := by simpa using k2
          have := rk_lt (p := fun e => decide (S'.1 13 e 0 = 0)) k1 k2
          omega
        have hmv : Ok (m_X7_move n S' i q) (fun S'' => ∃ e', e' < 24 ∧ S'.1 13 e' 0 = 0 ∧ spO S' S'' T d p m s (L + cn (isCb S c) q) q e') := by
          unfold m_X7_move
          rw [q_place8 (by omega) hDE' hSh, Ok_bind, Ok_some, i1' 22 (by omega), h22, if_neg (by decide), if_neg (by decide), if_neg (by decide), if_neg (by decide), if_neg (by decide), if_pos rfl]
          refine ok_seq (q_splitOff (n := n) (S := S') (T := T) (K := K) (d := d) (p := p) (m := m) (s := s) (i := i) (e := q) (L := L + cn (isCb S c) q) hn hd hq2 hp6 hDE' hSh hG (by rw [i1' 5 (by omega), i1' 6 (by omega)]; exact hS) (by rw [i1' 24 (by omega)]; exact h24) (by rw [i1' 25 (by omega)]; exact h25) hs i3 (by rw [o1]; exact hC.1) hfree hlt) (fun S'' h => ok_eq rfl h)
        refine ok_seq hmv (fun S'' hS'' => ?_)
        obtain ⟨e', e1, e2, f1, f4, f12, f11, f13, f14, f15, fA, fB, fC, f17⟩ := hS''
        rw [Ok_nm, Ok_some, nI_1]
        -- the new entry is none of the others
        have hne : e' ≠ q := fun h => hC.1 (by rw [← o1, ← h]; exact e2)
        have hen : ∀ e, e < 24 → e < q → isC S e c → e' ≠ en e := fun e a1 a2 a3 h => by
          have := (i6 e a1 a2 a3).2.2.1
          rw [← h, e2] at this
          have := (nI_eq (a := 0) (by decide) (by have := lower a2 a3; omega)).mp this
          omega
        have eold : S.1 13 e' 0 = 0 := by rw [← (i7 e' hen).1]; exact e2
        have nC : ¬ isC S e' c := fun h => h.1 eold
        have up := cn_up (p := fun e => !decide (S'.1 13 e 0 = 0)) (q := fun e => !decide (S''.1 13 e 0 = 0)) (i := e') (by simp [e2]) (by
          rw [f13, if_pos rfl]
          have : ¬ nI (L + cn (isCb S c) q + 1) = 0 := fun h => by
            have := (nI_eq (b := 0) (by omega) (by decide)).mp h
            omega
          simp [this]) (fun k hk => by rw [f13, if_neg hk]) e1
        refine ⟨hq2, rfl, fun e => if e = q then e' else en e, fun g g1 g2 g3 g4 g5 g6 g7 => by rw [f1 g g1 g2 g3 g4 g5 g6 g7, i1 g g1 g2 g3 g4 g5 g6 g7], fun j l => ?_, by rw [f12, hcn]; rfl, ?_, by rw [up, i5, hcn]; omega, fun e a1 a2 a3 => ?_, fun y hy => ?_⟩
        · rw [f4, i2]
          by_cases h : j = d ∧ l = 0
          · rw [if_pos h, h.1, h.2, h4]
          · rw [if_neg h]
        · rw [f11, i4, nI_1, up]
        · dsimp only
          by_cases eq : e = q
          · subst eq
            rw [if_pos rfl, f13, f14, f15, if_pos rfl, if_pos rfl, if_pos rfl, i1' 3 (by omega)]
            refine ⟨e1, eold, by rw [Nat.add_right_comm], rfl, rfl, fun k hk => by rw [fA k hk, o17], fun i hi hk => by rw [fB i hi hk, o17], ?_⟩
            rw [fC]
          · rw [if_neg eq]
            obtain ⟨b1, b2, b3, b4, b5, b6, b7, b8⟩ := i6 e a1 (by omega) a3
            have hne' : en e ≠ e' := fun h => hen e a1 (by omega) a3 h.symm
            have hneq : en e ≠ q := fun h => hold e a1 (by omega) a3 h.symm
            have hee : e ≠ e' := fun h => nC (by rw [← h]; exact a3)
            rw [f13, f14, f15, if_neg hne', if_neg hne', if_neg hne', f17 (en e) hneq hne', f17 e eq hee]
            exact ⟨b1, b2, b3, b4, b5, b6, b7, b8⟩
        · have hye : y ≠ e' := fun h => by
            have := hy q hq2 (by omega) hC
            dsimp only at this
            rw [if_pos rfl] at this
            exact this h
          have hy' : ∀ e, e < 24 → e < q → isC S e c → y ≠ en e := fun e a1 a2 a3 => by
            have := hy e a1 (by omega) a3
            dsimp only at this
            rw [if_neg (by omega)] at this
            exact this
          obtain ⟨z1, z2, z3, z4⟩ := i7 y hy'
          rw [f13, f14, f15, if_neg hye, if_neg hye, if_neg hye]
          refine ⟨z1, z2, z3, fun hn' => ?_⟩
          have hyq : y ≠ q := fun h => hn' ⟨by omega, by omega, by rw [h]; exact hC⟩
          rw [f17 y hyq hye]
          exact z4 (fun h => hn' ⟨h.1, by omega, h.2.2⟩)
      · have hb : (!decide (S.1 13 q 0 = 0) && decide (S.1 14 q 0 = nI c)) = false := by
          cases hx : (!decide (S.1 13 q 0 = 0) && decide (S.1 14 q 0 = nI c))
          · rfl
          · exact absurd (isCb_iff.mp hx) hC
        rw [hb, if_neg (show ¬ (false = true) by decide), if_pos rfl, Ok_nm, Ok_some, nI_1]
        have hcn : cn (isCb S c) (q + 1) = cn (isCb S c) q := cn_f (fun h => hC (isCb_iff.mp h))
        have lt : ∀ {e}, e < q + 1 → isC S e c → e < q := fun {e} he hC' => by
          have : e ≠ q := fun h => hC (by rw [← h]; exact hC')
          omega
        refine ⟨hq2, rfl, en, i1, i2, by rw [hcn]; exact i3, i4, by rw [hcn]; exact i5, fun e a b hC => i6 e a (lt b hC) hC, fun y hy => ?_⟩
        obtain ⟨z1, z2, z3, z4⟩ := i7 y (fun e a b hC => hy e a (by omega) hC)
        exact ⟨z1, z2, z3, fun hn' => z4 (fun h => hn' ⟨h.1, by omega, h.2.2⟩)⟩
