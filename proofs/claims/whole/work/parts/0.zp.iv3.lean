/-! ===== formulas: the reference ===== -/
theorem mJ_at (M : MSt) (f k : Nat) (v : Int64) (g l : Nat) : (mJ M f k v).2 g l = if g = f ∧ l = k then v else M.2 g l := by
  unfold mJ
  by_cases h1 : g = f
  · subst h1
    by_cases h3 : l = k
    · subst h3; simp [beq_t]
    · simp [beq_t, beq_f h3, h3]
  · simp [beq_f h1, h1]
def stM (T : MSt) (h : Nat) (l u : Nat → Int) : Prop := T.1 40 0 = nI h ∧ h ≤ 12 ∧ ∀ i, i < h → (T.2 41 i).toInt = l i ∧ (T.2 42 i).toInt = u i ∧ nf (l i) ∧ nf (u i) ∧ l i ≤ u i
def FrJ (T T' : MSt) : Prop := ∀ g, g ≠ 40 → T'.1 g = T.1 g
theorem mn_mx (p q r s : Int) : mn4 p q r s ≤ mx4 p q r s := Int.le_trans (mn4_le p q r s).1 (mx4_ge p q r s).1
theorem p_layJ {n : Nat} {T : MSt} {h : Nat} {x y : Int} (hh : 1 ≤ h) (h12 : h ≤ 12) (h40 : T.1 40 0 = nI h) (hx : (T.2 41 (h - 1)).toInt = x) (hy : (T.2 42 (h - 1)).toInt = y) : ((-1000000000000 ≤ x ∧ y ≤ 1000000000000) → m_X8_lay_J216 n T = some (1, T)) ∧ (¬ (-1000000000000 ≤ x ∧ y ≤ 1000000000000) → m_X8_lay_J216 n T = some (0, T)) := by
  unfold m_X8_lay_J216
  have e1 : nI h - 1 = nI (h - 1) := pk_sub (b := 1) hh
  rw [h40, e1, inB_nI (by omega : h - 1 < 12) (by omega), nI_clamp (by omega), cond_true, cond_true]
  have c1 : (-1000000000000 : Int64).toInt = -1000000000000 := by decide
  have c2 : (1000000000000 : Int64).toInt = 1000000000000 := by decide
  by_cases h1 : lg_cmp (T.2 41 (h - 1)) (-1000000000000) < 0
  · rw [if_pos h1]
    have := Int64.lt_iff_toInt_lt.mp ((lg_cmp_lt _ _).mp h1)
    rw [hx, c1] at this
    exact ⟨fun hy => by omega, fun _ => rfl⟩
  · rw [if_neg h1]
    have g1 : ¬ (T.2 41 (h - 1)).toInt < (-1000000000000 : Int64).toInt := fun h3 => h1 ((lg_cmp_lt _ _).mpr (Int64.lt_iff_toInt_lt.mpr h3))
    rw [hx, c1] at g1
    by_cases h2 : 0 < lg_cmp (T.2 42 (h - 1)) 1000000000000
    · rw [if_pos h2]
      have := Int64.lt_iff_toInt_lt.mp ((lg_cmp_gt _ _).mp h2)
      rw [hy, c2] at this
      exact ⟨fun hy => by omega, fun _ => rfl⟩
    · rw [if_neg h2]
      have g2 : ¬ (1000000000000 : Int64).toInt < (T.2 42 (h - 1)).toInt := fun h3 => h2 ((lg_cmp_gt _ _).mpr (Int64.lt_iff_toInt_lt.mpr h3))
      rw [hy, c2] at g2
      exact ⟨fun _ => rfl, fun hno => absurd ⟨by omega, by omega⟩ hno⟩
theorem p_pair {n : Nat} {T : MSt} {h : Nat} {l u : Nat → Int} {w : Int32} (hs : stM T h l u) (h2 : 2 ≤ h) : (∃ T', m_X8_pair n T w = some (0, T') ∧ FrJ T T' ∧ ¬ okI w (l (h - 2)) (u (h - 2)) (l (h - 1)) (u (h - 1))) ∨ ∃ T' p q, m_X8_pair n T w = some (1, T') ∧ FrJ T T' ∧ okI w (l (h - 2)) (u (h - 2)) (l (h - 1)) (u (h - 1)) ∧ T'.1 40 0 = nI (h - 1) ∧ (∀ i, i < h - 2 → T'.2 41 i = T.2 41 i ∧ T'.2 42 i = T.2 42 i) ∧ T'.2 41 (h - 2) = p ∧ T'.2 42 (h - 2) = q ∧ p.toInt = (ivO (l (h - 2)) (u (h - 2)) (l (h - 1)) (u (h - 1)) w).1 ∧ q.toInt = (ivO (l (h - 2)) (u (h - 2)) (l (h - 1)) (u (h - 1)) w).2 := by
  obtain ⟨h40, h12, hst⟩ := hs
  obtain ⟨a1, a2, a3, a4, a5⟩ := hst (h - 2) (by omega)
  obtain ⟨b1, b2, b3, b4, b5⟩ := hst (h - 1) (by omega)
  have e2 : nI h - 2 = nI (h - 2) := pk_sub (b := 2) h2
  have e1 : nI (h - 2) + 1 = nI (h - 1) := by rw [nI_1]; congr 1; omega
  have z0 : (0 : Int64).toInt = 0 := by decide
  generalize hA : T.2 41 (h - 2) = A at a1
  generalize hB : T.2 42 (h - 2) = Bb at a2
  generalize hC : T.2 41 (h - 1) = Cc at b1
  generalize hD : T.2 42 (h - 1) = Dd at b2
  have start : ∀ X, m_X8_pair n T w = X ↔ (if ¬ w = 13 then m_X8_pair_J81 n (mI T 40 0 (nI (h - 2))) w A Bb Cc Dd else (if 0 < lg_cmp Cc 0 then m_X8_pair_J81 n (mI T 40 0 (nI (h - 2))) w A Bb Cc Dd else (if lg_cmp Dd 0 < 0 then m_X8_pair_J81 n (mI T 40 0 (nI (h - 2))) w A Bb Cc Dd else m_X8_pair_J82 n (mI T 40 0 (nI (h - 2))) w A Bb Cc Dd 1))) = X := fun X => by
    have : m_X8_pair n T w = (if ¬ w = 13 then m_X8_pair_J81 n (mI T 40 0 (nI (h - 2))) w A Bb Cc Dd else (if 0 < lg_cmp Cc 0 then m_X8_pair_J81 n (mI T 40 0 (nI (h - 2))) w A Bb Cc Dd else (if lg_cmp Dd 0 < 0 then m_X8_pair_J81 n (mI T 40 0 (nI (h - 2))) w A Bb Cc Dd else m_X8_pair_J82 n (mI T 40 0 (nI (h - 2))) w A Bb Cc Dd 1))) := by
      unfold m_X8_pair
      rw [h40, e2]
      show (bif inB (nI (h - 2)) 12 then nm (T.2 41 (nI (h - 2)).toNatClampNeg) (fun x169 => bif inB (nI (h - 2)) 12 then nm (T.2 42 (nI (h - 2)).toNatClampNeg) (fun x171 => bif inB (nI (h - 2) + 1) 12 then nm (T.2 41 (nI (h - 2) + 1).toNatClampNeg) (fun x173 => bif inB (nI (h - 2) + 1) 12 then nm (T.2 42 (nI (h - 2) + 1).toNatClampNeg) (fun x175 => (if ¬ w = 13 then m_X8_pair_J81 n (mI T 40 0 (nI (h - 2))) w x169 x171 x173 x175 else (if 0 < lg_cmp x173 0 then m_X8_pair_J81 n (mI T 40 0 (nI (h - 2))) w x169 x171 x173 x175 else (if lg_cmp x175 0 < 0 then m_X8_pair_J81 n (mI T 40 0 (nI (h - 2))) w x169 x171 x173 x175 else m_X8_pair_J82 n (mI T 40 0 (nI (h - 2))) w x169 x171 x173 x175 1)))) else none) else none) else none) else none) = _
      rw [e1, inB_nI (by omega : h - 2 < 12) (by omega), inB_nI (by omega : h - 1 < 12) (by omega), nI_clamp (by omega), nI_clamp (by omega), hA, hB, hC, hD]
      rfl
    rw [this]
  have frI : FrJ T (mI T 40 0 (nI (h - 2))) := fun g hg => by
    funext i
    rw [mI_at, if_neg (fun h => hg h.1)]
  -- the pairs reckoned
  have good : okI w (l (h - 2)) (u (h - 2)) (l (h - 1)) (u (h - 1)) → ∃ T' p q, m_X8_pair_J132 n (mI T 40 0 (nI (h - 2))) w A Bb Cc Dd 0 = some (1, T') ∧ FrJ T T' ∧ T'.1 40 0 = nI (h - 1) ∧ (∀ i, i < h - 2 → T'.2 41 i = T.2 41 i ∧ T'.2 42 i = T.2 42 i) ∧ T'.2 41 (h - 2) = p ∧ T'.2 42 (h - 2) = q ∧ p.toInt = (ivO (l (h - 2)) (u (h - 2)) (l (h - 1)) (u (h - 1)) w).1 ∧ q.toInt = (ivO (l (h - 2)) (u (h - 2)) (l (h - 1)) (u (h - 1)) w).2 := fun hok => by
    have ok : ∀ {x y : Int}, (x = l (h - 2) ∨ x = u (h - 2)) → (y = l (h - 1) ∨ y = u (h - 1)) → okZ w x y := fun {x y} hx hy => by
      refine ⟨fun h13 e0 => hok.1 ⟨h13, ?_⟩, fun h12' => ?_⟩
      · rcases hy with e | e
        · rw [e0] at e; omega
        · rw [e0] at e; omega
      · obtain ⟨n1, n2, n3, n4⟩ := hok.2 h12'
        rcases hx with e | e <;> rcases hy with e' | e' <;> rw [e, e'] <;> assumption
    obtain ⟨p1, hp1, v1⟩ := p_reckon (n := n) (S := mI T 40 0 (nI (h - 2))) (w := w) (a := A) (b := Cc) (by rw [a1]; exact a3) (by rw [b1]; exact b3) (ok (Or.inl a1) (Or.inl b1))
    obtain ⟨p2, hp2, v2⟩ := p_reckon (n := n) (S := mI T 40 0 (nI (h - 2))) (w := w) (a := A) (b := Dd) (by rw [a1]; exact a3) (by rw [b2]; exact b4) (ok (Or.inl a1) (Or.inr b2))
    obtain ⟨p3, hp3, v3⟩ := p_reckon (n := n) (S := mI T 40 0 (nI (h - 2))) (w := w) (a := Bb) (b := Cc) (by rw [a2]; exact a4) (by rw [b1]; exact b3) (ok (Or.inr a2) (Or.inl b1))
    obtain ⟨p4, hp4, v4⟩ := p_reckon (n := n) (S := mI T 40 0 (nI (h - 2))) (w := w) (a := Bb) (b := Dd) (by rw [a2]; exact a4) (by rw [b2]; exact b4) (ok (Or.inr a2) (Or.inr b2))
    obtain ⟨m1, hm1, w1⟩ := p_min (n := n) (S := mI T 40 0 (nI (h - 2))) (a := p1) (b := p2)
    obtain ⟨m2, hm2, w2⟩ := p_min (n := n) (S := mI T 40 0 (nI (h - 2))) (a := p3) (b := p4)
    obtain ⟨m3, hm3, w3⟩ := p_min (n := n) (S := mI T 40 0 (nI (h - 2))) (a := m1) (b := m2)
    obtain ⟨k1, hk1, y1⟩ := p_max (n := n) (S := mJ (mI T 40 0 (nI (h - 2))) 41 (h - 2) m3) (a := p1) (b := p2)
    obtain ⟨k2, hk2, y2⟩ := p_max (n := n) (S := mJ (mI T 40 0 (nI (h - 2))) 41 (h - 2) m3) (a := p3) (b := p4)
    obtain ⟨k3, hk3, y3⟩ := p_max (n := n) (S := mJ (mI T 40 0 (nI (h - 2))) 41 (h - 2) m3) (a := k1) (b := k2)
    refine ⟨mI (mJ (mJ (mI T 40 0 (nI (h - 2))) 41 (h - 2) m3) 42 (h - 2) k3) 40 0 (nI (h - 1)), m3, k3, ?_, fun g hg => ?_, mI_eq _ _ _ _, fun i hi => ⟨?_, ?_⟩, ?_, ?_, ?_, ?_⟩
    · unfold m_X8_pair_J132 m_X8_pair_J133
      rw [if_neg (fun h => h rfl), if_pos rfl, hp1, Option.bind_some, hp2, Option.bind_some, hp3, Option.bind_some, hp4, Option.bind_some, hm1, Option.bind_some, hm2, Option.bind_some, hm3, Option.bind_some, mI_eq, inB_nI (by omega : h - 2 < 12) (by omega), nI_clamp (by omega)]
      show (m_X8_reckon n (mJ (mI T 40 0 (nI (h - 2))) 41 (h - 2) m3) 15 p1 p2).bind _ = _
      rw [hk1, Option.bind_some, hk2, Option.bind_some, hk3, Option.bind_some]
      show (bif inB ((mI T 40 0 (nI (h - 2))).1 40 0) 12 then some ((1 : Int32), mI (mJ (mJ (mI T 40 0 (nI (h - 2))) 41 (h - 2) m3) 42 ((mI T 40 0 (nI (h - 2))).1 40 0).toNatClampNeg k3) 40 0 ((mI T 40 0 (nI (h - 2))).1 40 0 + 1)) else none) = _
      rw [mI_eq, inB_nI (by omega : h - 2 < 12) (by omega), nI_clamp (by omega), e1]
      rfl
    · funext i
      rw [mI_at, if_neg (fun h => hg h.1)]
      show (mI T 40 0 (nI (h - 2))).1 g i = _
      rw [mI_at, if_neg (fun h => hg h.1)]
    · show (mJ (mJ (mI T 40 0 (nI (h - 2))) 41 (h - 2) m3) 42 (h - 2) k3).2 41 i = _
      rw [mJ_at, if_neg (by omega), mJ_at, if_neg (by omega)]
      rfl
    · show (mJ (mJ (mI T 40 0 (nI (h - 2))) 41 (h - 2) m3) 42 (h - 2) k3).2 42 i = _
      rw [mJ_at, if_neg (by omega), mJ_at, if_neg (by omega)]
      rfl
    · show (mJ (mJ (mI T 40 0 (nI (h - 2))) 41 (h - 2) m3) 42 (h - 2) k3).2 41 (h - 2) = _
      rw [mJ_at, if_neg (by omega), mJ_at, if_pos ⟨rfl, rfl⟩]
    · show (mJ (mJ (mI T 40 0 (nI (h - 2))) 41 (h - 2) m3) 42 (h - 2) k3).2 42 (h - 2) = _
      rw [mJ_at, if_pos ⟨rfl, rfl⟩]
    · rw [w3, w1, w2, v1, v2, v3, v4, a1, a2, b1, b2]
      rfl
    · rw [y3, y1, y2, v1, v2, v3, v4, a1, a2, b1, b2]
      rfl
  have bad : ∀ y, m_X8_pair_J128 n (mI T 40 0 (nI (h - 2))) w A Bb Cc Dd y = some (0, mI T 40 0 (nI (h - 2))) := fun y => by
    unfold m_X8_pair_J128 m_X8_pair_J133
    by_cases hy : y = 0
    · rw [if_neg (fun h => h hy), if_neg one_ne]
    · rw [if_pos hy]
  have bad2 : ∀ y, m_X8_pair_J133 n (mI T 40 0 (nI (h - 2))) w A Bb Cc Dd 1 y = some (0, mI T 40 0 (nI (h - 2))) := fun y => by
    unfold m_X8_pair_J133
    rw [if_pos one_ne]
  -- no division by a range with nothing in it
  have main : ¬ (w = 13 ∧ l (h - 1) ≤ 0 ∧ 0 ≤ u (h - 1)) → m_X8_pair n T w = m_X8_pair_J81 n (mI T 40 0 (nI (h - 2))) w A Bb Cc Dd := fun hz => by
    refine (start _).mpr ?_
    by_cases h13 : w = 13
    · rw [if_neg (fun h => h h13)]
      by_cases hc : 0 < lg_cmp Cc 0
      · rw [if_pos hc]
      · rw [if_neg hc]
        have : ¬ (0 : Int64).toInt < Cc.toInt := fun h3 => hc ((lg_cmp_gt _ _).mpr (Int64.lt_iff_toInt_lt.mpr h3))
        have hd : lg_cmp Dd 0 < 0 := (lg_cmp_lt _ _).mpr (Int64.lt_iff_toInt_lt.mpr (by
          rw [z0, b2]
          rw [z0, b1] at this
          exact Int.not_le.mp (fun h4 => hz ⟨h13, by omega, h4⟩)))
        rw [if_pos hd]
    · rw [if_pos h13]
  by_cases hz : w = 13 ∧ l (h - 1) ≤ 0 ∧ 0 ≤ u (h - 1)
  · refine Or.inl ⟨mI T 40 0 (nI (h - 2)), (start _).mpr ?_, frI, fun hok => hok.1 hz⟩
    have hc : ¬ 0 < lg_cmp Cc 0 := fun h3 => by
      have := Int64.lt_iff_toInt_lt.mp ((lg_cmp_gt _ _).mp h3)
      rw [z0, b1] at this
      omega
    have hd : ¬ lg_cmp Dd 0 < 0 := fun h3 => by
      have := Int64.lt_iff_toInt_lt.mp ((lg_cmp_lt _ _).mp h3)
      rw [z0, b2] at this
      omega
    rw [if_neg (fun h => h hz.1), if_neg hc, if_neg hd]
    unfold m_X8_pair_J82
    rw [if_pos (by rw [hz.1]; decide)]
    exact bad2 0
  · rw [main hz]
    unfold m_X8_pair_J81 m_X8_pair_J82
    by_cases h12' : w = 12
    · rw [if_neg (fun h => h h12')]
      have nA : nf A.toInt := by rw [a1]; exact a3
      have nB : nf Bb.toInt := by rw [a2]; exact a4
      have nC : nf Cc.toInt := by rw [b1]; exact b3
      have nD : nf Dd.toInt := by rw [b2]; exact b4
      rcases p_isFar (n := n) (S := mI T 40 0 (nI (h - 2))) nA nC with ⟨f1, g1⟩ | ⟨f1, g1⟩
      · rw [f1, Option.bind_some, if_pos one_ne, bad]
        refine Or.inl ⟨_, rfl, frI, fun hok => ?_⟩
        rw [a1, b1] at g1
        exact g1 (hok.2 h12').1
      · rw [f1, Option.bind_some, if_neg (fun h => h rfl)]
        rcases p_isFar (n := n) (S := mI T 40 0 (nI (h - 2))) nA nD with ⟨f2, g2⟩ | ⟨f2, g2⟩
        · rw [f2, Option.bind_some, if_pos one_ne, bad]
          refine Or.inl ⟨_, rfl, frI, fun hok => ?_⟩
          rw [a1, b2] at g2
          exact g2 (hok.2 h12').2.1
        · rw [f2, Option.bind_some, if_neg (fun h => h rfl)]
          rcases p_isFar (n := n) (S := mI T 40 0 (nI (h - 2))) nB nC with ⟨f3, g3⟩ | ⟨f3, g3⟩
          · rw [f3, Option.bind_some, if_pos one_ne, bad]
            refine Or.inl ⟨_, rfl, frI, fun hok => ?_⟩
            rw [a2, b1] at g3
            exact g3 (hok.2 h12').2.2.1
          · rw [f3, Option.bind_some, if_neg (fun h => h rfl)]
            rcases p_isFar (n := n) (S := mI T 40 0 (nI (h - 2))) nB nD with ⟨f4, g4⟩ | ⟨f4, g4⟩
            · rw [f4, Option.bind_some, if_neg one_ne, bad]
              refine Or.inl ⟨_, rfl, frI, fun hok => ?_⟩
              rw [a2, b2] at g4
              exact g4 (hok.2 h12').2.2.2
            · rw [f4, Option.bind_some, if_pos rfl]
              rw [a1, b1] at g1
              rw [a1, b2] at g2
              rw [a2, b1] at g3
              rw [a2, b2] at g4
              have hok : okI w (l (h - 2)) (u (h - 2)) (l (h - 1)) (u (h - 1)) := ⟨hz, fun _ => ⟨g1, g2, g3, g4⟩⟩
              obtain ⟨T', p, q, r1, r2, r3, r4, r5, r6, r7, r8⟩ := good hok
              exact Or.inr ⟨T', p, q, r1, r2, hok, r3, r4, r5, r6, r7, r8⟩
    · rw [if_pos h12']
      have hok : okI w (l (h - 2)) (u (h - 2)) (l (h - 1)) (u (h - 1)) := ⟨hz, fun e => absurd e h12'⟩
      obtain ⟨T', p, q, r1, r2, r3, r4, r5, r6, r7, r8⟩ := good hok
      exact Or.inr ⟨T', p, q, r1, r2, hok, r3, r4, r5, r6, r7, r8⟩
