/-! ===== change: a part is joined back: what the class does with its records ===== -/
theorem cn_sk {k0 m i : Nat} (hi : i < m - 1) (hk0 : k0 < m) : sk k0 i < m ∧ sk k0 i ≠ k0 ∧ cn (fun i => !decide (i = k0)) (sk k0 i) = i := by
  rw [cn_ne]
  unfold sk
  split <;> split <;> omega
theorem q_backFill {n : Nat} {S : CSt} {e e' m p : Nat} (hn : 6 < n) (he : e ≠ e') (hp6 : m - 1 + p ≤ 6) : lpO (b_X7_joinBack_44 n e e' (nI (m - 1)) (nI p)) n (S, 0) = some (sF S 17 (fun j l => if j = e ∧ m - 1 ≤ l ∧ l < m - 1 + p then S.1 17 e' (l - (m - 1)) else S.1 17 j l)) := by
  refine ok_get (ok_for2 (N := p) (by omega) (I := fun k S' => S' = sF S 17 (fun j l => if j = e ∧ m - 1 ≤ l ∧ l < m - 1 + k then S.1 17 e' (l - (m - 1)) else S.1 17 j l)) (fun k S' hk hS' => ?_) ?_)
  · unfold b_X7_joinBack_44
    dsimp only
    rw [Ok_ite]
    refine ⟨fun h3 => ?_, fun h3 => ?_⟩
    · rw [Ok_some]
      have ek := ge_eq (by omega) hk h3
      subst ek
      exact hS'
    · have hk2 := nge_lt (by omega) hk h3
      have e17 : S'.1 17 e' k = S.1 17 e' k := by
        rw [hS', sF_at, if_pos rfl, if_neg (fun h => he h.1.symm)]
      rw [Ok_bif, nI_clamp (by omega), nI_add, q_put (by omega), Ok_bind, Ok_some, Ok_nm, Ok_some, nI_1, e17]
      refine ⟨inB_nI (by omega) (by omega), hk2, rfl, ?_⟩
      show sI S' 17 e (m - 1 + k) (S.1 17 e' k) = _
      rw [hS']
      refine sI_sF _ _ _ _ _ _ _ (fun j l => ?_)
      by_cases ej : j = e ∧ l = m - 1 + k
      · rw [if_pos ej, if_pos ⟨ej.1, by omega, by omega⟩, ej.2, Nat.add_sub_cancel_left]
      · rw [if_neg ej]
        have : (j = e ∧ m - 1 ≤ l ∧ l < m - 1 + (k + 1)) ↔ (j = e ∧ m - 1 ≤ l ∧ l < m - 1 + k) := by omega
        simp only [this]
  · have : (fun j l => if j = e ∧ m - 1 ≤ l ∧ l < m - 1 + 0 then S.1 17 e' (l - (m - 1)) else S.1 17 j l) = S.1 17 := by
      funext j l
      exact if_neg (fun h => by omega)
    rw [this]
    exact (Prod.ext (funext fun g => by rw [sF_at]; split <;> simp_all) rfl)
/-- one record gets its part back -/
def joO (S S' : CSt) (p m k0 e e' : Nat) : Prop :=
  (∀ g, g ≠ 11 → g ≠ 13 → g ≠ 17 → S'.1 g = S.1 g) ∧ S'.1 11 0 0 = S.1 11 0 0 - 1 ∧ (∀ y, S'.1 13 y 0 = if y = e' then 0 else S.1 13 y 0) ∧
  (∀ i, i < m - 1 → S'.1 17 e i = S.1 17 e (sk k0 i)) ∧ (∀ k, k < p → S'.1 17 e (m - 1 + k) = S.1 17 e' k) ∧ ∀ y, y ≠ e → S'.1 17 y = S.1 17 y
theorem q_joinBack {n : Nat} {S : CSt} {T : MSt} {K d p m k0 x i e e' : Nat} (hn : 24 < n) (hd : d < 4) (hne : e ≠ e') (hDE : DE S T m) (hSh : Sh K m (T.1 29) (T.1 30) (T.1 31) (T.1 32)) (hk0 : k0 < m) (ha : T.1 29 k0 = nI x) (hx : x < 10) (h23 : S.1 23 i 0 = nI x) (h14 : S.1 14 e' 0 = nI d) (h5 : S.1 5 (2 * d) 0 = nI p) (hp6 : m - 1 + p ≤ 6) : Ok (m_X7_joinBack n S i e e') (fun S' => joO S S' p m k0 e e') := by
  have hm6 := hSh.1
  unfold m_X7_joinBack
  rw [h23, one_shl x hx]
  obtain ⟨w, hw, w1, row, w2, w3, w4, -⟩ := q_sqz (n := n) (f := 17) (x0 := 8) (x1 := e) (m := m) (s := 2 ^ x) (S := S) (by omega) hm6 hDE.2.1 (by decide) (fun k hk => by rw [(hDE.2.2.2 k hk).1]; exact (hSh.2.2 k hk).1) (by have := pow_lt x hx; omega)
  have kpe := kp_one hDE hSh hx hk0 ha
  have cne : ∀ i, i ≤ m → cn (kp S 8 (2 ^ x)) i = cn (fun i => !decide (i = k0)) i := fun i hi => cn_cong (fun k hk => kpe k (by omega))
  have cm : cn (fun i => !decide (i = k0)) m = m - 1 := by rw [cn_ne, if_neg (by omega)]
  have ek : m_X4_squeeze_a17 n S 8 e (nI (2 ^ x)) = some (w.2, w.1) := by
    show (lpO (sqB 17 n 8 e (nI (2 ^ x))) n (S, 0, 0)).bind _ = _
    rw [hw]
    rfl
  have t17 : w.1.1 17 = row := by rw [w2, sF_at, if_pos rfl]
  have tO : ∀ g, g ≠ 17 → w.1.1 g = S.1 g := fun g hg => by rw [w2, sF_at, if_neg hg]
  rw [ek, Ok_bind, Ok_some]
  show Ok (bif inB (w.1.1 14 e' 0) 4 then (nm (w.1.1 5 (2 * (w.1.1 14 e' 0).toNatClampNeg) 0) (fun x39 => (lpO (b_X7_joinBack_44 n e e' w.2 x39) n (w.1, 0)).bind (fun w42 => (m_X6_remove n w42 e').bind (fun z44 => some z44)))) else none) _
  rw [tO 14 (by omega), h14, Ok_bif, nI_clamp (by omega), Ok_nm, tO 5 (by omega), h5, w1, cne m (Nat.le_refl _), cm, q_backFill (by omega) hne hp6, Ok_bind, Ok_some]
  refine ⟨inB_nI hd (by omega), ?_⟩
  generalize hA : sF w.1 17 (fun j l => if j = e ∧ m - 1 ≤ l ∧ l < m - 1 + p then w.1.1 17 e' (l - (m - 1)) else w.1.1 17 j l) = A
  have aO : ∀ g, g ≠ 17 → A.1 g = S.1 g := fun g hg => by rw [← hA, sF_at, if_neg hg, tO g hg]
  have a17 : ∀ j l, A.1 17 j l = if j = e ∧ m - 1 ≤ l ∧ l < m - 1 + p then row e' (l - (m - 1)) else row j l := fun j l => by rw [← hA, sF_at, if_pos rfl, t17]
  show Ok ((some (sI (sI A 13 e' 0 0) 11 0 0 ((sI A 13 e' 0 0).1 11 0 0 - 1))).bind _) _
  rw [Ok_bind, Ok_some, Ok_some]
  have e11 : (sI A 13 e' 0 0).1 11 0 0 = S.1 11 0 0 := by rw [sI_at, if_neg (by omega), aO 11 (by omega)]
  rw [e11]
  have zO : ∀ g j l, g ≠ 11 → g ≠ 13 → (sI (sI A 13 e' 0 0) 11 0 0 (S.1 11 0 0 - 1)).1 g j l = A.1 g j l := fun g j l g1 g2 => by rw [sI_at, if_neg (fun h => g1 h.1), sI_at, if_neg (fun h => g2 h.1)]
  refine ⟨fun g g1 g2 g3 => ?_, ?_, fun y => ?_, fun i hi => ?_, fun k hk => ?_, fun y hy => ?_⟩
  · funext j l
    rw [zO g j l g1 g2, aO g g3]
  · rw [sI_at, if_pos ⟨rfl, rfl, rfl⟩]
  · rw [sI_at, if_neg (by omega), sI_at]
    by_cases e1 : y = e'
    · rw [if_pos ⟨rfl, e1, rfl⟩, if_pos e1]
    · rw [if_neg (fun h => e1 h.2.1), if_neg e1, aO 13 (by omega)]
  · obtain ⟨s1, s2, s3⟩ := cn_sk (k0 := k0) hi hk0
    rw [zO 17 e i (by omega) (by omega), a17, if_neg (by omega)]
    have := w4 (sk k0 i) s1 (by rw [kpe _ s1]; simp [s2])
    rw [cne _ (by omega), s3] at this
    exact this
  · rw [zO 17 _ _ (by omega) (by omega), a17, if_pos ⟨rfl, by omega, by omega⟩, Nat.add_sub_cancel_left, w3 e' (fun h => hne h.symm)]
  · funext l
    rw [zO 17 _ _ (by omega) (by omega), a17, if_neg (fun h => hy h.1), w3 y hy]
def jocI (S S' : CSt) (c p m k0 q : Nat) (pe : Nat → Nat) : Prop :=
  (∀ g, g ≠ 11 → g ≠ 13 → g ≠ 17 → S'.1 g = S.1 g) ∧ S'.1 11 0 0 = nI (cn (fun e => !decide (S'.1 13 e 0 = 0)) 24) ∧
  (∀ e, e < 24 → e < q → isC S e c → S'.1 13 (pe e) 0 = 0 ∧ (∀ i, i < m - 1 → S'.1 17 e i = S.1 17 e (sk k0 i)) ∧ ∀ k, k < p → S'.1 17 e (m - 1 + k) = S.1 17 (pe e) k) ∧
  (∀ y, (∀ e, e < 24 → e < q → isC S e c → y ≠ pe e) → S'.1 13 y 0 = S.1 13 y 0) ∧ ∀ y, ¬ (y < 24 ∧ y < q ∧ isC S y c) → S'.1 17 y = S.1 17 y
theorem q_joinAll {n : Nat} {S : CSt} {T : MSt} {K c d p m k0 i x : Nat} {pe : Nat → Nat} (hn : 24 < n) (hc : c < 4) (hd : d < 4) (hcd : d ≠ c) (hDE : DE S T m) (hSh : Sh K m (T.1 29) (T.1 30) (T.1 31) (T.1 32)) (hk0 : k0 < m) (ha : T.1 29 k0 = nI x) (hx : x < 10) (h2 : T.1 30 k0 = 2) (h22 : S.1 22 i 0 = 6) (h23 : S.1 23 i 0 = nI x) (h5 : S.1 5 (2 * d) 0 = nI p) (hp6 : m - 1 + p ≤ 6) (h11 : S.1 11 0 0 = nI (cn (fun e => !decide (S.1 13 e 0 = 0)) 24)) (hids : ∀ y, y < 24 → S.1 13 y 0 ≠ 0 → ∀ y', y' < 24 → S.1 13 y 0 = S.1 13 y' 0 → y = y') (hpe : ∀ e, e < 24 → isC S e c → pe e < 24 ∧ S.1 17 e k0 = S.1 13 (pe e) 0 ∧ S.1 13 (pe e) 0 ≠ 0 ∧ S.1 14 (pe e) 0 = nI d) (hpi : ∀ e, e < 24 → isC S e c → ∀ e', e' < 24 → isC S e' c → pe e = pe e' → e = e') : Ok (m_X7_moveAll n S i (nI c)) (fun S' => jocI S S' c p m k0 24 pe) := by
  have hm6 := hSh.1
  unfold m_X7_moveAll
  refine ok_seq (P := fun S' => jocI S S' c p m k0 24 pe) ?_ (fun S' h => ok_eq rfl h)
  refine ok_for2 (N := 24) hn (I := fun q S' => jocI S S' c p m k0 q pe) (fun q S' hq hI => ?_) ⟨fun _ _ _ _ => rfl, h11, fun e _ he => absurd he (Nat.not_lt_zero _), fun y _ => rfl, fun y _ => rfl⟩
  obtain ⟨i1, i2, i3, i4, i5⟩ := hI
  have npe : ∀ {y}, isC S y c → ∀ e, e < 24 → isC S e c → y ≠ pe e := fun {y} hy e he hC h => by
    have h1 := (hpe e he hC).2.2.2
    have h2 := hy.2
    rw [h, h1] at h2
    exact hcd (nI_inj4 hd hc h2)
  unfold b_X7_moveAll_2
  dsimp only
  rw [Ok_ite]
  refine ⟨fun h => ?_, fun h => ?_⟩
  · have e : q = 24 := ge_eq (by decide) hq h
    rw [Ok_some]
    subst e
    exact ⟨i1, i2, i3, i4, i5⟩
  · have hq2 : q < 24 := nge_lt (by decide) hq h
    rw [Ok_bif, nI_clamp (by omega), q_isOf, Ok_bind, Ok_some]
    refine ⟨inB_nI hq2 (by omega), ?_⟩
    by_cases hC : isC S q c
    · have o13 : S'.1 13 q 0 = S.1 13 q 0 := i4 q (fun e he _ hCe => npe hC e he hCe)
      have o17 : S'.1 17 q = S.1 17 q := i5 q (fun h => absurd h.2.1 (Nat.lt_irrefl _))
      rw [o13, i1 14 (by omega) (by omega) (by omega), show (!decide (S.1 13 q 0 = 0) && decide (S.1 14 q 0 = nI c)) = true from isCb_iff.mpr hC, if_pos rfl, if_neg one_ne]
      obtain ⟨p1, p2, p3, p4⟩ := hpe q hq2 hC
      have hDE' : DE S' T m := by
        refine ⟨hDE.1, by rw [i1 5 (by omega) (by omega) (by omega)]; exact hDE.2.1, hDE.2.2.1, fun k hk => ?_⟩
        rw [i1 6 (by omega) (by omega) (by omega), i1 7 (by omega) (by omega) (by omega), i1 8 (by omega) (by omega) (by omega), i1 9 (by omega) (by omega) (by omega), i1 10 (by omega) (by omega) (by omega)]
        exact hDE.2.2.2 k hk
      -- its part still is there
      have opart : S'.1 13 (pe q) 0 = S.1 13 (pe q) 0 := i4 (pe q) (fun e he heq hCe e1 => by
        have := hpi q hq2 hC e he hCe e1
        omega)
      have live' : ∀ {y}, S'.1 13 y 0 ≠ 0 → S'.1 13 y 0 = S.1 13 y 0 := fun {y} hy => i4 y (fun e he heq hCe e1 => hy (by rw [e1]; exact (i3 e he heq hCe).1))
      have hfind : m_X6_find n S' (S'.1 17 q k0) = some (some (pe q)) := by
        rw [o17, p2, ← opart]
        refine q_findS hn p1 (by rw [opart]; exact p3) (fun y hy hl y' hy' e1 => ?_)
        have l1 := live' hl
        have l2 := live' (y := y') (by rw [← e1]; exact hl)
        exact hids y hy (by rw [← l1]; exact hl) y' hy' (by rw [← l1, ← l2]; exact e1)
      have hne : q ≠ pe q := npe hC q hq2 hC
      have hmv : Ok (m_X7_move n S' i q) (fun S'' => joO S' S'' p m k0 q (pe q)) := by
        unfold m_X7_move
        have hpl := plc_eq hSh.2.1 hk0 ha
        rw [q_place8 (by omega) hDE' hSh, i1 23 (by omega) (by omega) (by omega), h23, hpl, Ok_bind, Ok_some, i1 22 (by omega) (by omega) (by omega), h22, if_neg (by decide), if_neg (by decide), if_neg (by decide), if_neg (by decide), if_neg (by decide), if_neg (by decide), if_pos rfl, q_isOwn hm6 hDE'.2.1 hk0, (hDE'.2.2.2 k0 hk0).2.1, if_pos h2, Ok_bind, Ok_some, if_neg one_ne, Ok_bif, nI_clamp (by omega), hfind, Ok_bind, Ok_some]
        refine ⟨inB_nI (by omega) (by omega), ?_⟩
        show Ok (bif decide (pe q < 24) then ((m_X7_joinBack n S' i q (pe q)).bind (fun z92 => some z92)) else none) _
        rw [Ok_bif]
        refine ⟨decide_eq_true p1, ok_seq (q_joinBack (n := n) (T := T) (K := K) (d := d) (p := p) (m := m) (k0 := k0) (x := x) hn hd hne hDE' hSh hk0 ha hx (by rw [i1 23 (by omega) (by omega) (by omega)]; exact h23) (by rw [i1 14 (by omega) (by omega) (by omega)]; exact p4) (by rw [i1 5 (by omega) (by omega) (by omega)]; exact h5) hp6) (fun S'' h => ok_eq rfl h)⟩
      refine ok_seq hmv (fun S'' hS'' => ?_)
      obtain ⟨f1, f11, f13, fA, fB, f17⟩ := hS''
      rw [Ok_nm, Ok_some, nI_1]
      have up := cn_up (p := fun e => !decide (S''.1 13 e 0 = 0)) (q := fun e => !decide (S'.1 13 e 0 = 0)) (i := pe q) (by simp [f13]) (by simp [opart, p3]) (fun k hk => by rw [f13, if_neg hk]) p1
      have o17p : S'.1 17 (pe q) = S.1 17 (pe q) := i5 (pe q) (fun h => npe h.2.2 q hq2 hC rfl)
      refine ⟨hq2, rfl, fun g g1 g2 g3 => by rw [f1 g g1 g2 g3, i1 g g1 g2 g3], ?_, fun e he heq hCe => ?_, fun y hy => ?_, fun y hy => ?_⟩
      · rw [f11, i2, up]
        exact nI_pred _
      · by_cases eq : e = q
        · subst eq
          refine ⟨by rw [f13, if_pos rfl], fun i hi => by rw [fA i hi, o17], fun k hk => by rw [fB k hk, o17p]⟩
        · obtain ⟨b1, b2, b3⟩ := i3 e he (by omega) hCe
          rw [f13, f17 e eq]
          refine ⟨?_, b2, b3⟩
          split
          · rfl
          · exact b1
      · have hyq : y ≠ pe q := hy q hq2 (by omega) hC
        rw [f13, if_neg hyq]
        exact i4 y (fun e he heq hCe => hy e he (by omega) hCe)
      · have hyq : y ≠ q := fun h => hy ⟨by omega, by omega, by rw [h]; exact hC⟩
        rw [f17 y hyq]
        exact i5 y (fun h => hy ⟨h.1, by omega, h.2.2⟩)
    · have hb : (!decide (S'.1 13 q 0 = 0) && decide (S'.1 14 q 0 = nI c)) = false := by
        cases hx : (!decide (S'.1 13 q 0 = 0) && decide (S'.1 14 q 0 = nI c))
        · rfl
        · exfalso
          simp only [Bool.and_eq_true, Bool.not_eq_true', decide_eq_false_iff_not, decide_eq_true_eq] at hx
          refine hC ⟨?_, ?_⟩
          · rw [← i4 q (fun e he heq hCe e1 => hx.1 (by rw [e1]; exact (i3 e he heq hCe).1))]
            exact hx.1
          · rw [← i1 14 (by omega) (by omega) (by omega)]
            exact hx.2
      rw [hb, if_neg (show ¬ (false = true) by decide), if_pos rfl, Ok_nm, Ok_some, nI_1]
      have lt : ∀ {e}, e < q + 1 → isC S e c → e < q := fun {e} he hC' => by
        have : e ≠ q := fun h => hC (by rw [← h]; exact hC')
        omega
      exact ⟨hq2, rfl, i1, i2, fun e he heq hCe => i3 e he (lt heq hCe) hCe, fun y hy => i4 y (fun e he heq hCe => hy e he (by omega) hCe), fun y hy => i5 y (fun h => hy ⟨h.1, by omega, h.2.2⟩)⟩
theorem R_join {n i m K d p k0 x : Nat} {S : CSt} {T T' : MSt} (hn : 6 < n) (h : DE S T m) (hSh : Sh K m (T.1 29) (T.1 30) (T.1 31) (T.1 32)) (hd : d < 4) (h22 : S.1 22 i 0 = 6) (h23 : S.1 23 i 0 = nI x) (hx : x < 10) (hk0 : k0 < m) (ha : T.1 29 k0 = nI x) (h2 : T.1 30 k0 = 2) (h31 : T.1 31 k0 = nI d) (hS : ShC (S.1 5) (S.1 6) (S.1 7) (S.1 8) (S.1 9) (2 * d) p (r6 (T.1 5) d) (r6 (T.1 6) d) (r6 (T.1 7) d) (r6 (T.1 8) d)) (hnum : ∀ k, k < p → r6 (T.1 6) d k = 0) (hp6 : m - 1 + p ≤ 6) (e28 : T'.1 28 0 = nI (m - 1 + p)) (eK : ∀ g i, 29 ≤ g → g ≤ 33 → i < m - 1 → T'.1 g i = T.1 g (sk k0 i)) (eL : ∀ k, k < p → T'.1 29 (m - 1 + k) = r6 (T.1 5) d k ∧ T'.1 30 (m - 1 + k) = 0 ∧ T'.1 31 (m - 1 + k) = r6 (T.1 7) d k ∧ T'.1 32 (m - 1 + k) = r6 (T.1 8) d k ∧ T'.1 33 (m - 1 + k) = -1) : Ok (m_X7_reshape n S i) (fun S' => DE S' T' (m - 1 + p) ∧ FrD S S') := by
  have hm6 := hSh.1
  have hpl := plc_eq hSh.2.1 hk0 ha
  obtain ⟨d6, d7, d8, d9, d10⟩ := h.2.2.2 k0 hk0
  unfold m_X7_reshape
  rw [q_place8 hn h hSh, h23, hpl, Ok_bind, Ok_some, h22, if_neg (by decide), if_neg (by decide), if_neg (by decide), if_neg (by decide), if_neg (by decide), if_neg (by decide), if_pos rfl, q_isOwn hm6 h.2.1 hk0, d7, if_pos h2, Ok_bind, Ok_some, if_neg one_ne, Ok_bif, nI_clamp (by omega), d8, h31, Ok_bif, nI_clamp (by omega), one_shl x hx]
  refine ⟨inB_nI (by omega) (by omega), inB_nI hd (by omega), ?_⟩
  refine ok_seq (q_removeAll hn hm6 h.2.1 (fun k hk => by rw [(h.2.2.2 k hk).1]; exact (hSh.2.2 k hk).1) (by have := pow_lt x hx; omega)) (fun S2 hR => ?_)
  have hR : RemC S S2 m (fun i => !decide (i = k0)) := RemC_cong hR (kp_one h hSh hx hk0 ha)
  obtain ⟨r1, r2, r3, r4, r5⟩ := hR
  have cm : cn (fun i => !decide (i = k0)) m = m - 1 := by rw [cn_ne, if_neg (by omega)]
  rw [cm] at r3
  have hne : (8 : Nat) ≠ 2 * d := by omega
  rw [q_appendAll hn hne hp6 r3 (by rw [r2 5 (2 * d) (by omega) (by omega) (fun h => hne h.symm)]; exact hS.1), Ok_bind, Ok_some, Ok_some]
  have row : ∀ g i, 6 ≤ g → g ≤ 10 → i < m - 1 → S2.1 g 8 i = S.1 g 8 (sk k0 i) := fun g i a b hi => by
    obtain ⟨s1, s2, s3⟩ := cn_sk (k0 := k0) hi hk0
    have := r4 g (sk k0 i) a b s1 (by simp [s2])
    rw [s3] at this
    exact this
  have rowd : ∀ g k, 6 ≤ g → g ≤ 9 → S2.1 g (2 * d) k = S.1 g (2 * d) k := fun g k a b => by rw [r2 g (2 * d) (by omega) (by omega) (fun h => hne h.symm)]
  have v : ∀ g k, 6 ≤ g → g ≤ 9 → k < m - 1 + p → (apS S2 8 (2 * d) (m - 1) p).1 g 8 k = if k < m - 1 then S2.1 g 8 k else S2.1 g (2 * d) (k - (m - 1)) := fun g k a b hk => by
    rw [apS_at, if_pos ⟨rfl, by omega, by omega⟩]
    by_cases ek : k < m - 1
    · rw [if_pos ek, if_neg (by omega), if_neg (by omega), if_neg (by omega)]
    · rw [if_neg ek, if_pos ⟨a, b, by omega, hk⟩]
  have v10 : ∀ k, k < m - 1 + p → (apS S2 8 (2 * d) (m - 1) p).1 10 8 k = if k < m - 1 then S2.1 10 8 k else -1 := fun k hk => by
    rw [apS_at, if_pos ⟨rfl, by omega, by omega⟩, if_neg (by omega)]
    by_cases ek : k < m - 1
    · rw [if_pos ek, if_neg (by omega), if_neg (by omega)]
    · rw [if_neg ek, if_pos ⟨rfl, by omega, hk⟩]
  refine ⟨⟨hp6, ?_, e28, fun k hk => ?_⟩, fun g hg => ?_, fun g j a b hj => ?_⟩
  · rw [apS_at, if_pos ⟨rfl, by omega, by omega⟩, if_neg (by omega), if_neg (by omega), if_pos ⟨rfl, rfl⟩]
  · rw [v 6 k (by omega) (by omega) hk, v 7 k (by omega) (by omega) hk, v 8 k (by omega) (by omega) hk, v 9 k (by omega) (by omega) hk, v10 k hk]
    by_cases ek : k < m - 1
    · obtain ⟨s1, s2, s3⟩ := cn_sk (k0 := k0) ek hk0
      obtain ⟨z1, z2, z3, z4, z5⟩ := h.2.2.2 (sk k0 k) s1
      rw [if_pos ek, if_pos ek, if_pos ek, if_pos ek, if_pos ek, row 6 k (by omega) (by omega) ek, row 7 k (by omega) (by omega) ek, row 8 k (by omega) (by omega) ek, row 9 k (by omega) (by omega) ek, row 10 k (by omega) (by omega) ek, eK 29 k (by omega) (by omega) ek, eK 30 k (by omega) (by omega) ek, eK 31 k (by omega) (by omega) ek, eK 32 k (by omega) (by omega) ek, eK 33 k (by omega) (by omega) ek]
      exact ⟨z1, z2, z3, z4, z5⟩
    · obtain ⟨a1, a2, a3, a4, a5⟩ := eL (k - (m - 1)) (by omega)
      rw [show m - 1 + (k - (m - 1)) = k by omega] at a1 a2 a3 a4 a5
      obtain ⟨b1, b2, b3, b4⟩ := hS.2 (k - (m - 1)) (by omega)
      rw [if_neg ek, if_neg ek, if_neg ek, if_neg ek, if_neg ek, rowd 6 _ (by omega) (by omega), rowd 7 _ (by omega) (by omega), rowd 8 _ (by omega) (by omega), rowd 9 _ (by omega) (by omega), a1, a2, a3, a4, a5, b1, b2, b3, b4, hnum _ (by omega)]
      exact ⟨rfl, rfl, rfl, rfl, rfl⟩
  · rw [← r1 g hg]
    funext j l
    rw [apS_at, if_neg (by omega)]
  · rw [← r2 g j a b hj]
    funext l
    rw [apS_at, if_neg (fun h => hj h.1)]
