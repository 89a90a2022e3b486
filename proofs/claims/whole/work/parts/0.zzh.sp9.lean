/-! ===== change: a class is split: what the class does with its records ===== -/
theorem q_partFill {n : Nat} {S0 : CSt} {T : MSt} {K d p m i e e' : Nat} (hn : 6 < n) (he : e ≠ e') (hp6 : p ≤ 6) (hDE : DE S0 T m) (hSh : Sh K m (T.1 29) (T.1 30) (T.1 31) (T.1 32)) (hG : ∀ k, k < p → GoodF T d m k) (hS : S0.1 5 (2 * d) 0 = nI p ∧ ∀ k, k < p → S0.1 6 (2 * d) k = r6 (T.1 5) d k) : lpO (b_X7_splitOff_31 n i e e' (2 * d)) n (S0, 0) = some (sF S0 17 (fun j l => if j = e' ∧ l < p then S0.1 17 e (fdP T d m l) else S0.1 17 j l)) := by
  have hm6 := hSh.1
  refine ok_get (ok_for2 (N := p) (by omega) (I := fun k S => S = sF S0 17 (fun j l => if j = e' ∧ l < k then S0.1 17 e (fdP T d m l) else S0.1 17 j l)) (fun k S hk hS' => ?_) ?_)
  · have fr : ∀ g, g ≠ 17 → S.1 g = S0.1 g := fun g hg => by rw [hS', sF_at, if_neg hg]
    have hDE' : DE S T m := by
      refine ⟨hDE.1, by rw [fr 5 (by omega)]; exact hDE.2.1, hDE.2.2.1, fun k hk => ?_⟩
      rw [fr 6 (by omega), fr 7 (by omega), fr 8 (by omega), fr 9 (by omega), fr 10 (by omega)]
      exact hDE.2.2.2 k hk
    unfold b_X7_splitOff_31
    dsimp only
    rw [fr 5 (by omega), hS.1, Ok_ite]
    refine ⟨fun h3 => ?_, fun h3 => ?_⟩
    · rw [Ok_some]
      have ek := ge_eq (by omega) hk h3
      subst ek
      exact hS'
    · have hk2 := nge_lt (by omega) hk h3
      obtain ⟨f1, f2, f3, -⟩ := fdP_good hSh (hG k hk2)
      rw [Ok_bif, nI_clamp (by omega), fr 6 (by omega), hS.2 k hk2, q_place8 hn hDE' hSh, f2, Ok_bind, Ok_some, if_neg (nI_ne_m1 (by omega)), Ok_bif, Ok_bif, nI_clamp (by omega), Ok_nm, Ok_nm, Ok_some, nI_1]
      refine ⟨inB_nI (by omega) (by omega), inB_nI (by omega) (by omega), inB_nI (by omega) (by omega), hk2, rfl, ?_⟩
      have e17 : S.1 17 e (fdP T d m k) = S0.1 17 e (fdP T d m k) := by
        rw [hS', sF_at, if_pos rfl, if_neg (fun h => he h.1)]
      show sI S 17 e' k (S.1 17 e (fdP T d m k)) = _
      rw [e17, hS']
      refine sI_sF _ _ _ _ _ _ _ (fun j l => ?_)
      by_cases ej : j = e' ∧ l = k
      · rw [if_pos ej, if_pos ⟨ej.1, by omega⟩, ej.2]
      · rw [if_neg ej]
        have : (j = e' ∧ l < k + 1) ↔ (j = e' ∧ l < k) := by omega
        simp only [this]
  · have : (fun j l => if j = e' ∧ l < 0 then S0.1 17 e (fdP T d m l) else S0.1 17 j l) = S0.1 17 := by
      funext j l
      exact if_neg (fun h => absurd h.2 (Nat.not_lt_zero _))
    rw [this]
    exact (Prod.ext (funext fun g => by rw [sF_at]; split <;> simp_all) rfl)
/-- one record is split -/
def spO (S S' : CSt) (T : MSt) (d p m s L e e' : Nat) : Prop :=
  (∀ g, g ≠ 4 → g ≠ 11 → g ≠ 12 → g ≠ 13 → g ≠ 14 → g ≠ 15 → g ≠ 17 → S'.1 g = S.1 g) ∧ (∀ j l, S'.1 4 j l = if j = d ∧ l = 0 then 0 else S.1 4 j l) ∧ S'.1 12 0 0 = nI (L + 1) ∧ S'.1 11 0 0 = S.1 11 0 0 + 1 ∧
  (∀ y, S'.1 13 y 0 = if y = e' then nI (L + 1) else S.1 13 y 0) ∧ (∀ y, S'.1 14 y 0 = if y = e' then nI d else S.1 14 y 0) ∧ (∀ y, S'.1 15 y 0 = if y = e' then S.1 3 d 0 else S.1 15 y 0) ∧
  (∀ k, k < p → S'.1 17 e' k = S.1 17 e (fdP T d m k)) ∧ (∀ i, i < m → kM T s i = true → S'.1 17 e (cn (kM T s) i) = S.1 17 e i) ∧ S'.1 17 e (cn (kM T s) m) = nI (L + 1) ∧ ∀ y, y ≠ e → y ≠ e' → S'.1 17 y = S.1 17 y
theorem q_splitOff {n : Nat} {S : CSt} {T : MSt} {K d p m s i e L : Nat} (hn : 24 < n) (hd : d < 4) (he : e < 24) (hp6 : p ≤ 6) (hDE : DE S T m) (hSh : Sh K m (T.1 29) (T.1 30) (T.1 31) (T.1 32)) (hG : ∀ k, k < p → GoodF T d m k) (hS : S.1 5 (2 * d) 0 = nI p ∧ ∀ k, k < p → S.1 6 (2 * d) k = r6 (T.1 5) d k) (h24 : S.1 24 i 0 = nI d) (h25 : S.1 25 i 0 = nI s) (hs : s < 1024) (h12 : S.1 12 0 0 = nI L) (hl : S.1 13 e 0 ≠ 0) (hfree : 0 < cn (fun e => decide (S.1 13 e 0 = 0)) 24) (hlt : cn (kM T s) m < 6) : Ok (m_X7_splitOff n S i e) (fun S' => ∃ e', e' < 24 ∧ S.1 13 e' 0 = 0 ∧ spO S S' T d p m s L e e') := by
  have hm6 := hSh.1
  obtain ⟨e', e1, e2, e3⟩ := q_newRecord (n := n) (S := S) (c := d) (L := L) hn hd h12 hfree
  have hne : e ≠ e' := fun h => hl (by rw [h]; exact e2)
  unfold m_X7_splitOff
  rw [h24, e3, Ok_bind, Ok_some]
  -- the new record
  generalize hA : adS S d e' L (S.1 3 d 0) = A
  have aO : ∀ g, g ≠ 4 → g ≠ 11 → g ≠ 12 → g ≠ 13 → g ≠ 14 → g ≠ 15 → A.1 g = S.1 g := fun g g1 g2 g3 g4 g5 g6 => by
    funext j l
    rw [← hA]
    unfold adS
    rw [sI_at, if_neg (fun h => g6 h.1), sI_at, if_neg (fun h => g5 h.1), sI_at, if_neg (fun h => g4 h.1), sI_at, if_neg (fun h => g2 h.1), sI_at, if_neg (fun h => g3 h.1), sI_at, if_neg (fun h => g1 h.1)]
  have a4 : ∀ j l, A.1 4 j l = if j = d ∧ l = 0 then 0 else S.1 4 j l := fun j l => by
    rw [← hA]
    unfold adS
    rw [sI_at, if_neg (by omega), sI_at, if_neg (by omega), sI_at, if_neg (by omega), sI_at, if_neg (by omega), sI_at, if_neg (by omega), sI_at]
    by_cases h : j = d ∧ l = 0
    · rw [if_pos ⟨rfl, h⟩, if_pos h]
    · rw [if_neg (fun q => h q.2), if_neg h]
  have a12 : A.1 12 0 0 = nI (L + 1) := by
    rw [← hA]
    unfold adS
    rw [sI_at, if_neg (by omega), sI_at, if_neg (by omega), sI_at, if_neg (by omega), sI_at, if_neg (by omega), sI_at, if_pos ⟨rfl, rfl, rfl⟩]
  have a11 : A.1 11 0 0 = S.1 11 0 0 + 1 := by
    rw [← hA]
    unfold adS
    rw [sI_at, if_neg (by omega), sI_at, if_neg (by omega), sI_at, if_neg (by omega), sI_at, if_pos ⟨rfl, rfl, rfl⟩]
  have a13 : ∀ y, A.1 13 y 0 = if y = e' then nI (L + 1) else S.1 13 y 0 := fun y => by
    rw [← hA]
    unfold adS
    rw [sI_at, if_neg (by omega), sI_at, if_neg (by omega), sI_at]
    by_cases h : y = e'
    · rw [if_pos ⟨rfl, h, rfl⟩, if_pos h]
    · rw [if_neg (fun q => h q.2.1), if_neg h, sI_at, if_neg (by omega), sI_at, if_neg (by omega), sI_at, if_neg (by omega)]
  have a14 : ∀ y, A.1 14 y 0 = if y = e' then nI d else S.1 14 y 0 := fun y => by
    rw [← hA]
    unfold adS
    rw [sI_at, if_neg (by omega), sI_at]
    by_cases h : y = e'
    · rw [if_pos ⟨rfl, h, rfl⟩, if_pos h]
    · rw [if_neg (fun q => h q.2.1), if_neg h, sI_at, if_neg (by omega), sI_at, if_neg (by omega), sI_at, if_neg (by omega), sI_at, if_neg (by omega)]
  have a15 : ∀ y, A.1 15 y 0 = if y = e' then S.1 3 d 0 else S.1 15 y 0 := fun y => by
    rw [← hA]
    unfold adS
    rw [sI_at]
    by_cases h : y = e'
    · rw [if_pos ⟨rfl, h, rfl⟩, if_pos h]
    · rw [if_neg (fun q => h q.2.1), if_neg h, sI_at, if_neg (by omega), sI_at, if_neg (by omega), sI_at, if_neg (by omega), sI_at, if_neg (by omega), sI_at, if_neg (by omega)]
  have aq := fun g (h : g ≠ 4 ∧ g ≠ 11 ∧ g ≠ 12 ∧ g ≠ 13 ∧ g ≠ 14 ∧ g ≠ 15) => aO g h.1 h.2.1 h.2.2.1 h.2.2.2.1 h.2.2.2.2.1 h.2.2.2.2.2
  have hDA : DE A T m := by
    refine ⟨hDE.1, by rw [aq 5 (by omega)]; exact hDE.2.1, hDE.2.2.1, fun k hk => ?_⟩
    rw [aq 6 (by omega), aq 7 (by omega), aq 8 (by omega), aq 9 (by omega), aq 10 (by omega)]
    exact hDE.2.2.2 k hk
  show Ok (bif decide (e' < 24) then (bif inB (A.1 24 i 0) 4 then ((lpO (b_X7_splitOff_31 n i e e' (2 * (A.1 24 i 0).toNatClampNeg)) n (A, 0)).bind (fun w66 => (m_X4_squeeze_a17 n w66 8 e (w66.1 25 i 0)).bind (fun z68 => (m_X0_put n z68.2 e z68.1 (z68.2.1 13 e' 0)).bind (fun z70 => some z70)))) else none) else none) _
  rw [aq 24 (by omega), h24, Ok_bif, Ok_bif, nI_clamp (by omega), q_partFill (T := T) (K := K) (p := p) (m := m) (by omega) hne hp6 hDA hSh hG (by rw [aq 5 (by omega), aq 6 (by omega)]; exact hS), Ok_bind, Ok_some]
  refine ⟨decide_eq_true e1, inB_nI hd (by omega), ?_⟩
  generalize hB : sF A 17 (fun j l => if j = e' ∧ l < p then A.1 17 e (fdP T d m l) else A.1 17 j l) = Bq
  have bO : ∀ g, g ≠ 17 → Bq.1 g = A.1 g := fun g hg => by rw [← hB, sF_at, if_neg hg]
  have b17 : ∀ j l, Bq.1 17 j l = if j = e' ∧ l < p then A.1 17 e (fdP T d m l) else A.1 17 j l := fun j l => by rw [← hB, sF_at, if_pos rfl]
  have hDB : DE Bq T m := by
    refine ⟨hDE.1, by rw [bO 5 (by omega)]; exact hDA.2.1, hDE.2.2.1, fun k hk => ?_⟩
    rw [bO 6 (by omega), bO 7 (by omega), bO 8 (by omega), bO 9 (by omega), bO 10 (by omega)]
    exact hDA.2.2.2 k hk
  rw [bO 25 (by omega), aq 25 (by omega), h25]
  obtain ⟨w, hw, w1, row, w2, w3, w4, -⟩ := q_sqz (n := n) (f := 17) (x0 := 8) (x1 := e) (m := m) (s := s) (S := Bq) (by omega) hm6 hDB.2.1 (by decide) (fun k hk => by rw [(hDB.2.2.2 k hk).1]; exact (hSh.2.2 k hk).1) (by omega)
  have kpe : ∀ i, i < m → kp Bq 8 s i = kM T s i := fun i hi => by
    unfold kp kM
    rw [(hDB.2.2.2 i hi).1]
  have cne : ∀ i, i ≤ m → cn (kp Bq 8 s) i = cn (kM T s) i := fun i hi => cn_cong (fun k hk => kpe k (by omega))
  have ek : m_X4_squeeze_a17 n Bq 8 e (nI s) = some (w.2, w.1) := by
    show (lpO (sqB 17 n 8 e (nI s)) n (Bq, 0, 0)).bind _ = _
    rw [hw]
    rfl
  rw [ek, Ok_bind, Ok_some, w1, cne m (Nat.le_refl _), q_put hlt, Ok_bind, Ok_some, Ok_some]
  have t17 : w.1.1 17 = row := by rw [w2, sF_at, if_pos rfl]
  have tO : ∀ g, g ≠ 17 → w.1.1 g = Bq.1 g := fun g hg => by rw [w2, sF_at, if_neg hg]
  have v13 : w.1.1 13 e' 0 = nI (L + 1) := by rw [tO 13 (by omega), bO 13 (by omega), a13, if_pos rfl]
  show ∃ e', e' < 24 ∧ S.1 13 e' 0 = 0 ∧ spO S (sI w.1 17 e (cn (kM T s) m) (w.1.1 13 _ 0)) T d p m s L e e'
  rw [v13]
  generalize hZ : sI w.1 17 e (cn (kM T s) m) (nI (L + 1)) = Z
  have zO : ∀ g, g ≠ 17 → Z.1 g = A.1 g := fun g hg => by
    funext j l
    rw [← hZ, sI_at, if_neg (fun h => hg h.1), tO g hg, bO g hg]
  have z17 : ∀ j l, Z.1 17 j l = if j = e ∧ l = cn (kM T s) m then nI (L + 1) else row j l := fun j l => by
    rw [← hZ, sI_at, t17]
    by_cases h : j = e ∧ l = cn (kM T s) m
    · rw [if_pos ⟨rfl, h⟩, if_pos h]
    · rw [if_neg (fun q => h q.2), if_neg h]
  refine ⟨e', e1, e2, fun g g1 g2 g3 g4 g5 g6 g7 => by rw [zO g g7, aO g g1 g2 g3 g4 g5 g6], fun j l => by rw [zO 4 (by omega)]; exact a4 j l, by rw [zO 12 (by omega)]; exact a12, by rw [zO 11 (by omega)]; exact a11, fun y => by rw [zO 13 (by omega)]; exact a13 y, fun y => by rw [zO 14 (by omega)]; exact a14 y, fun y => by rw [zO 15 (by omega)]; exact a15 y, fun k hk => ?_, fun i hi hk => ?_, ?_, fun y y1 y2 => ?_⟩
  · rw [z17, if_neg (fun h => hne h.1.symm), w3 e' (fun h => hne h.symm), b17, if_pos ⟨rfl, hk⟩, aq 17 (by omega)]
  · have hlt2 := rk_lt hi hk
    rw [z17, if_neg (by omega), ← cne i (by omega), w4 i hi (by rw [kpe i hi]; exact hk), b17, if_neg (fun h => hne h.1), aq 17 (by omega)]
  · rw [z17, if_pos ⟨rfl, rfl⟩]
  · funext l
    rw [z17, if_neg (fun h => y1 h.1), w3 y y1, b17, if_neg (fun h => y2 h.1), aq 17 (by omega)]
