/-! ===== change: a class is split: the class beside the reference ===== -/
theorem fn_extP {P : Nat → Prop} {f t : Nat → Nat} (σ : Nat → Nat) (hinj : ∀ r, P r → ∀ r', P r' → f r = f r' → t r = t r') : ∃ σ2 : Nat → Nat, (∀ r, P r → σ2 (f r) = t r) ∧ ∀ x, (∀ r, P r → x ≠ f r) → σ2 x = σ x := by
  have : ∀ x, ∃ y : Nat, (∀ r, P r → x = f r → y = t r) ∧ ((∀ r, P r → x ≠ f r) → y = σ x) := fun x => by
    by_cases h : ∃ r, P r ∧ x = f r
    · obtain ⟨r, h1, h2⟩ := h
      exact ⟨t r, fun r' h3 h4 => hinj r h1 r' h3 (h2.symm.trans h4), fun h5 => absurd h2 (h5 r h1)⟩
    · exact ⟨σ x, fun r h1 h2 => absurd ⟨r, h1, h2⟩ h, fun _ => rfl⟩
  obtain ⟨σ2, h⟩ := Classical.axiomOfChoice this
  exact ⟨σ2, fun r hr => (h (f r)).1 r hr rfl, fun x hx => (h x).2 hx⟩
theorem R_split {n i m K d s : Nat} {S : CSt} {T T' : MSt} {X : Int32} (hn : 6 < n) (h : DE S T m) (hSh : Sh K m (T.1 29) (T.1 30) (T.1 31) (T.1 32)) (h22 : S.1 22 i 0 = 5) (h23 : S.1 23 i 0 = X) (h24 : S.1 24 i 0 = nI d) (h25 : S.1 25 i 0 = nI s) (hs : s < 1024) (hlt : cn (kM T s) m < 6) (e28 : T'.1 28 0 = nI (cn (kM T s) m + 1)) (eK : ∀ g i, 29 ≤ g → g ≤ 33 → i < m → kM T s i = true → T'.1 g (cn (kM T s) i) = T.1 g i) (eL : T'.1 29 (cn (kM T s) m) = X ∧ T'.1 30 (cn (kM T s) m) = 2 ∧ T'.1 31 (cn (kM T s) m) = nI d ∧ T'.1 32 (cn (kM T s) m) = nI d ∧ T'.1 33 (cn (kM T s) m) = -1) : Ok (m_X7_reshape n S i) (fun S' => DE S' T' (cn (kM T s) m + 1) ∧ FrD S S') := by
  have hm6 := hSh.1
  obtain ⟨g29, g30, g31, g32, g33⟩ := eL
  unfold m_X7_reshape
  rw [q_place8 hn h hSh, Ok_bind, Ok_some, h22, if_neg (by decide), if_neg (by decide), if_neg (by decide), if_neg (by decide), if_neg (by decide), if_pos rfl, h25]
  refine ok_seq (q_removeAll hn hm6 h.2.1 (fun k hk => by rw [(h.2.2.2 k hk).1]; exact (hSh.2.2 k hk).1) (by omega)) (fun S2 hR => ?_)
  have hR : RemC S S2 m (kM T s) := RemC_cong hR (fun i hi => by unfold kp kM; rw [(h.2.2.2 i hi).1])
  obtain ⟨r1, r2, r3, r4, r5⟩ := hR
  have hD2 : DE S2 (mI T' 28 0 (nI (cn (kM T s) m))) (cn (kM T s) m) := by
    refine ⟨by omega, r3, mI_eq _ _ _ _, fun k hk => ?_⟩
    obtain ⟨j, j1, j2, j3⟩ := rk_sur hk
    obtain ⟨d1, d2, d3, d4, d5⟩ := h.2.2.2 j j1
    have t : ∀ g, 29 ≤ g → g ≤ 33 → (mI T' 28 0 (nI (cn (kM T s) m))).1 g k = T.1 g j := fun g a b => by
      rw [mI_at, if_neg (by omega), ← j3]
      exact eK g j a b j1 j2
    rw [t 29 (by omega) (by omega), t 30 (by omega) (by omega), t 31 (by omega) (by omega), t 32 (by omega) (by omega), t 33 (by omega) (by omega), ← j3, r4 6 j (by omega) (by omega) j1 j2, r4 7 j (by omega) (by omega) j1 j2, r4 8 j (by omega) (by omega) j1 j2, r4 9 j (by omega) (by omega) j1 j2, r4 10 j (by omega) (by omega) j1 j2]
    exact ⟨d1, d2, d3, d4, d5⟩
  rw [r1 23 (by omega), r1 24 (by omega), h23, h24, q_append hlt r3, Ok_bind, Ok_some, Ok_some]
  have tO : ∀ g k, g ≠ 28 → (mI T' 28 0 (nI (cn (kM T s) m))).1 g k = T'.1 g k := fun g k hg => by rw [mI_at, if_neg (fun h => hg h.1)]
  have sp : ∀ g k v, g ≠ 28 → T'.1 g (cn (kM T s) m) = v → T'.1 g k = if k = cn (kM T s) m then v else (mI T' 28 0 (nI (cn (kM T s) m))).1 g k := fun g k v hg hv => by
    by_cases e : k = cn (kM T s) m
    · rw [if_pos e, e, hv]
    · rw [if_neg e, tO g k hg]
  have hA := DE_app hD2 hlt e28 (fun k => sp 29 k X (by omega) g29) (fun k => sp 30 k 2 (by omega) g30) (fun k => sp 31 k (nI d) (by omega) g31) (fun k => sp 32 k (nI d) (by omega) g32) (fun k => sp 33 k (-1) (by omega) g33)
  refine ⟨hA.1, fun g hg => ?_, fun g j a b hj => ?_⟩
  · exact (hA.2.1 g hg).trans (r1 g hg)
  · exact (hA.2.2 g j a b hj).trans (r2 g j a b hj)
theorem C_split {n i j K d p s x : Nat} {B T T' : MSt} {D S : CSt} {σ ln : Nat → Nat} {c m0 m L1 : Nat} (hn : 24 < n) (hM : JM K B T c m0 m) (h : JC j K B D σ c m0 S T m L1) (hc : c < 4) (hd : d < K) (hp : T.1 4 d = nI p) (hShd : Sh K p (r6 (T.1 5) d) (r6 (T.1 6) d) (r6 (T.1 7) d) (r6 (T.1 8) d)) (hs : s < 1024) (h22 : S.1 22 i 0 = 5) (h23 : S.1 23 i 0 = nI x) (h24 : S.1 24 i 0 = nI d) (h25 : S.1 25 i 0 = nI s) (hC : CanS T c d p m s) (hS : SplM T T' c d p m s (nI x) ln) (hL1 : L1 + 24 ≤ 200 * j) (hL30 : L1 + 24 < 2 ^ 30) : Ok (m_X7_barTakeBackOfPart n S i) (fun S0 => Ok (m_X7_moveAll n S0 i (nI c)) (fun S1 => Ok (m_X7_reshape n S1 i) (fun S' => JC j K B D σ c m0 S' T' (cn (kM T s) m + 1) (L1 + 24)))) := by
  have hSh := JM_sh hM hc
  have isC1 := fun {r} (hr : r < 24) (h14 : B.1 14 r = nI c) => JC_isC hM h hc hr h14
  have rec1 := fun {e} (he : e < 24) (hC : isC S e c) => JC_rec hM h hc he hC
  have inj1 := fun {r r'} (hr : r < 24) (h14 : B.1 14 r = nI c) (hr' : r' < 24) (h14' : B.1 14 r' = nI c) (e : σ r = σ r') => JC_inj hM h hc hr h14 hr' h14' e
  obtain ⟨hMI, hm6, hm, h27, h26, hfr, hcl, hcv, hor, hoi, hmx, ⟨w, hw, hds, -⟩, hmix⟩ := id hM
  obtain ⟨σ', τ', L', hL, hCR, hDE, hσ, hbf, hsb, hst⟩ := id h
  have hK4 : K ≤ 4 := hMI.1.1
  have hd4 : d < 4 := by omega
  have hp6 := hShd.1
  obtain ⟨c1, c2, c3, c4, c5⟩ := hC
  obtain ⟨g1, g2, g3, g4, g5, g6, g7, g8, g9, g10, g11, g12, g13⟩ := hS
  have v14 : (vS T c).1 14 = T.1 14 := vS_o T c 14 (by omega) (by omega) (by omega)
  have u : ∀ g, g < 4 ∨ 10 < g → (uS S c).1 g = S.1 g := fun g hg => uS_o S c g hg
  have hrec := hCR.2.2.2.1
  rw [v14, u 13 (by omega), u 14 (by omega), u 15 (by omega)] at hrec
  have cB : ∀ {r}, r < 24 → T.1 14 r = nI c → B.1 14 r = nI c := fun {r} hr h14 => (hcl r hr).mp h14
  have lc : ∀ {r}, T.1 14 r = nI c → T.1 14 r ≠ -1 := fun {r} h => by rw [h]; exact nI_ne_m1 (by omega)
  have sg : ∀ {r}, r < 24 → T.1 14 r = nI c → σ' r = σ r := fun {r} hr h14 => hσ r hr (cB hr h14)
  -- the first row
  have hbar : m_X7_barTakeBackOfPart n S i = some (sI S 4 d 0 0) := by
    unfold m_X7_barTakeBackOfPart
    rw [h22, if_neg (fun h => h rfl), h24, inB_nI hd4 (by omega), cond_true, nI_clamp (by omega)]
    rfl
  refine ok_eq hbar ?_
  generalize hS0 : sI S 4 d 0 0 = S0
  have a : ∀ g, g ≠ 4 → S0.1 g = S.1 g := fun g hg => by
    funext j l
    rw [← hS0, sI_at, if_neg (fun h => hg h.1)]
  have a4 : ∀ j l, S0.1 4 j l = if j = d ∧ l = 0 then 0 else S.1 4 j l := fun j l => by
    rw [← hS0, sI_at]
    by_cases e : j = d ∧ l = 0
    · rw [if_pos ⟨rfl, e⟩, if_pos e]
    · rw [if_neg (fun q => e q.2), if_neg e]
  have hDE0 : DE S0 T m := by
    refine ⟨hDE.1, by rw [a 5 (by omega)]; exact hDE.2.1, hDE.2.2.1, fun k hk => ?_⟩
    rw [a 6 (by omega), a 7 (by omega), a 8 (by omega), a 9 (by omega), a 10 (by omega)]
    exact hDE.2.2.2 k hk
  have isC0 : ∀ e, isC S0 e c ↔ isC S e c := fun e => by unfold isC; rw [a 13 (by omega), a 14 (by omega)]
  -- the shape of the part's class
  have hSd : S.1 5 (2 * d) 0 = nI p ∧ ∀ k, k < p → S.1 6 (2 * d) k = r6 (T.1 5) d k := by
    have hne : 2 * d ≠ 2 * c := by omega
    obtain ⟨q1, q2⟩ := hCR.2.1 d p hd4 hp6 ((if_neg c1).trans hp)
    rw [uS_s S c 5 _ (by omega) (by omega), if_neg hne] at q1
    refine ⟨q1, fun k hk => ?_⟩
    have := (q2 k hk).1
    rw [uS_s S c 6 _ (by omega) (by omega), if_neg hne, vS_s _ _ 5 _ _ (by omega) (by omega) (by omega), if_neg c1] at this
    exact this
  -- counting
  have h12 : S.1 12 0 0 = nI L' := by
    have := hCR.2.2.2.2.1.2.1
    rw [u 12 (by omega)] at this
    exact this
  have hLj : L' ≤ 200 * j := hCR.2.2.2.2.1.1
  have h11 : S.1 11 0 0 = nI (cn (fun e => !decide (S.1 13 e 0 = 0)) 24) := by
    have : (uS S c).1 11 0 0 = nI (cn (fun r => !decide ((vS T c).1 14 r = -1)) 24) := hCR.2.2.2.2.2.1
    rw [u 11 (by omega), v14, cnt_rec hrec] at this
    exact this
  have hcnt : cn (isCb S0 c) 24 = cn (fun r => decide (T.1 14 r = nI c)) 24 := by
    refine (cn_bij σ' τ' (fun r hr hp' => ?_) (fun e he hp' => ?_)).symm
    · have h14 : T.1 14 r = nI c := by simpa using hp'
      obtain ⟨b1, b2, b3, b4, -⟩ := hrec.1 r hr (lc h14)
      exact ⟨b1, isCb_iff.mpr ((isC0 _).mpr ⟨b3, b4.trans h14⟩), b2⟩
    · have hC := (isC0 e).mp (isCb_iff.mp hp')
      obtain ⟨b1, b2, b3⟩ := hrec.2 e he hC.1
      have := (hrec.1 (τ' e) b1 b3).2.2.2.1
      rw [b2, hC.2] at this
      exact ⟨b1, by simpa using this.symm, b2⟩
  have hall := cn_le (isCb S0 c) 24
  refine ok_mono (q_splitAll (n := n) (S := S0) (T := T) (K := K) (c := c) (d := d) (p := p) (m := m) (s := s) (i := i) (x := x) (L := L') hn hc hd4 c1 hp6 hDE0 hSh c3 (by rw [a 5 (by omega), a 6 (by omega)]; exact hSd) (by rw [a 22 (by omega)]; exact h22) (by rw [a 24 (by omega)]; exact h24) (by rw [a 25 (by omega)]; exact h25) hs (by rw [a 12 (by omega)]; exact h12) (by omega) (by rw [a 11 (by omega), a 13 (by omega)]; exact h11) (by rw [a4, if_pos ⟨rfl, rfl⟩]) (by rw [hcnt, a 13 (by omega), ← cnt_rec hrec]; exact c5) g5) (fun S1 hS1 => ?_)
  obtain ⟨en, i1, i2, i3, i4, i5, i6, i7⟩ := hS1
  have i1' := fun g (h : g ≠ 4 ∧ g ≠ 11 ∧ g ≠ 12 ∧ g ≠ 13 ∧ g ≠ 14 ∧ g ≠ 15 ∧ g ≠ 17) => (i1 g h.1 h.2.1 h.2.2.1 h.2.2.2.1 h.2.2.2.2.1 h.2.2.2.2.2.1 h.2.2.2.2.2.2).trans (a g h.1)
  have hDE1 : DE S1 T m := by
    refine ⟨hDE.1, by rw [i1' 5 (by omega)]; exact hDE.2.1, hDE.2.2.1, fun k hk => ?_⟩
    rw [i1' 6 (by omega), i1' 7 (by omega), i1' 8 (by omega), i1' 9 (by omega), i1' 10 (by omega)]
    exact hDE.2.2.2 k hk
  refine ok_mono (R_split (n := n) (i := i) (d := d) (s := s) (S := S1) (T := T) (T' := T') (X := nI x) (by omega) hDE1 hSh (by rw [i1' 22 (by omega)]; exact h22) (by rw [i1' 23 (by omega)]; exact h23) (by rw [i1' 24 (by omega)]; exact h24) (by rw [i1' 25 (by omega)]; exact h25) hs g5 g6 g7 g8) (fun S' hS' => ?_)
  obtain ⟨hd', hfr'⟩ := hS'
  -- what a record's part is
  have n6 : ∀ r, r < 24 → T.1 14 r = nI c → _ := fun r hr h14 => i6 (σ r) (isC1 hr (cB hr h14)).1 (isC1 hr (cB hr h14)).1 ((isC0 _).mpr (isC1 hr (cB hr h14)).2)
  have low : ∀ r, r < 24 → T.1 14 r = nI c → cn (isCb S0 c) (σ r) < cn (isCb S0 c) 24 := fun r hr h14 => rk_lt (isC1 hr (cB hr h14)).1 (isCb_iff.mpr ((isC0 _).mpr (isC1 hr (cB hr h14)).2))
  have o7 : ∀ y, y < 24 → (∀ r, r < 24 → T.1 14 r = nI c → y ≠ en (σ r)) → _ := fun y hy hno => i7 y (fun e he _ hC => by
    obtain ⟨r, r1, r2, r3⟩ := rec1 he ((isC0 e).mp hC)
    rw [← r3]
    exact hno r r1 ((hcl r r1).mpr r2))
  have idinj : ∀ r, r < 24 → T.1 14 r = nI c → ∀ r', r' < 24 → T.1 14 r' = nI c → L' + 1 + cn (isCb S0 c) (σ r) = L' + 1 + cn (isCb S0 c) (σ r') → r = r' := fun r hr h14 r' hr' h14' e => by
    have := rk_inj (p := isCb S0 c) (isCb_iff.mpr ((isC0 _).mpr (isC1 hr (cB hr h14)).2)) (isCb_iff.mpr ((isC0 _).mpr (isC1 hr' (cB hr' h14')).2)) (by omega)
    exact inj1 hr (cB hr h14) hr' (cB hr' h14') this
  have enj : ∀ r, r < 24 → T.1 14 r = nI c → ∀ r', r' < 24 → T.1 14 r' = nI c → en (σ r) = en (σ r') → r = r' := fun r hr h14 r' hr' h14' e => by
    have h1 := (n6 r hr h14).2.2.1
    have h2 := (n6 r' hr' h14').2.2.1
    rw [e] at h1
    have l1 := low r hr h14
    have l2 := low r' hr' h14'
    exact idinj r hr h14 r' hr' h14' ((nI_eq (by omega) (by omega)).mp (h1.symm.trans h2))
  obtain ⟨σ2, s1, s2⟩ := fn_extP (P := fun r => r < 24 ∧ T.1 14 r = nI c) (f := ln) (t := fun r => en (σ r)) σ' (fun r hr r' hr' e => by rw [g3 r hr.1 hr.2 r' hr'.1 hr'.2 e])
  obtain ⟨τ2, t1, t2⟩ := fn_extP (P := fun r => r < 24 ∧ T.1 14 r = nI c) (f := fun r => en (σ r)) (t := ln) τ' (fun r hr r' hr' e => by rw [enj r hr.1 hr.2 r' hr'.1 hr'.2 e])
  have nln : ∀ {y}, T.1 14 y ≠ -1 → ∀ r, r < 24 → T.1 14 r = nI c → y ≠ ln r := fun {y} hy r hr h14 e => hy (by rw [e]; exact (g2 r hr h14).2.1)
  have clN : ∀ r, r < 24 → (T'.1 14 r = nI c ↔ T.1 14 r = nI c) := fun r hr => by
    by_cases hn' : ∃ r0, r0 < 24 ∧ T.1 14 r0 = nI c ∧ r = ln r0
    · obtain ⟨r0, a1, a3, a4⟩ := hn'
      obtain ⟨b1, b2, b3, -⟩ := g2 r0 a1 a3
      rw [a4, b2, b3]
      exact ⟨fun h => absurd (nI_inj4 hd4 hc h) c1, fun h => absurd h (m1_ne_nI (by omega))⟩
    · rw [(g4 r (fun r0 a1 a3 a4 => hn' ⟨r0, a1, a3, a4⟩)).1]
  have e4 : (vS T c).1 4 c = nI m := (if_pos rfl).trans hm
  have f6 : ∀ k, k < 6 → r6 ((vS T c).1 6) c k = T.1 30 k := fun k hk => by rw [vS_s _ _ 6 _ _ (by omega) (by omega) hk, if_pos rfl]
  have f6' : ∀ k, k < 6 → r6 ((vS T' c).1 6) c k = T'.1 30 k := fun k hk => by rw [vS_s _ _ 6 _ _ (by omega) (by omega) hk, if_pos rfl]
  have s16 : ∀ r k, r < 24 → T.1 14 r = nI c → k < 6 → r6 ((vS T c).1 16) r k = r6 (T.1 34) r k := fun r k hr h14 hk => by rw [vS_16 _ _ _ _ hk, if_pos h14]
  have s16' : ∀ r k, r < 24 → T.1 14 r = nI c → k < 6 → r6 ((vS T' c).1 16) r k = r6 (T'.1 34) r k := fun r k hr h14 hk => by rw [vS_16 _ _ _ _ hk, if_pos ((clN r hr).mpr h14)]
  obtain ⟨⟨w', hw', ew'⟩, dse⟩ := ds_or w hw d hd4
  have u' : ∀ g, g < 4 ∨ 10 < g → (uS S' c).1 g = S1.1 g := fun g hg => by rw [uS_o S' c g hg, hfr'.1 g (by omega)]
  have p4 : ∀ e, S'.1 4 e 0 = if e = d then 0 else S.1 4 e 0 := fun e => by
    rw [hfr'.1 4 (by omega), i2, a4]
    by_cases ee : e = d
    · rw [if_pos ⟨ee, rfl⟩, if_pos ee]
    · rw [if_neg (fun q => ee q.1), if_neg ee]
  have u4 : ∀ (Z : CSt) e, (uS Z c).1 4 e 0 = if e = c then 0 else Z.1 4 e 0 := fun Z e => by
    show (if e = c ∧ 0 = 0 then (0 : Int32) else Z.1 4 e 0) = _
    by_cases ee : e = c
    · rw [if_pos ⟨ee, rfl⟩, if_pos ee]
    · rw [if_neg (fun q => ee q.1), if_neg ee]
  refine ⟨σ2, τ2, L' + cn (isCb S0 c) 24, by omega, ?_, hd', fun r hr h14 => ?_, fun r k hr h14 hk => ?_, ?_, fun g hg => ?_, fun e => absurd (g11.symm.trans e) one_ne⟩
  · refine CR_split (m := (vS T c).1) (m' := (vS T' c).1) (s := (uS S c).1) (s' := (uS S' c).1) hMI hCR (c := c) (d := d) (q := m) (p := p) (q1 := cn (kM T s) m) (ln := ln) (en := fun r => en (σ r)) (idn := fun r => L' + 1 + cn (isCb S0 c) (σ r)) hc hd4 c1 e4 hm6 (by omega) ((if_neg c1).trans hp) hp6 (fun k hk => by rw [vS_s _ _ 6 _ _ (by omega) (by omega) (by omega), if_neg c1]; exact c2 k hk) ?_ (if_pos (Or.inl rfl)) ?_ (fun e he ee ed => ?_) ((if_pos rfl).trans g6) (fun e ee => ?_) (fun g a b e k ee hk => ?_) (fun r hr h14 => ?_) (fun r hr h14 => ?_) (fun y hy hno => ?_) (fun y k hy hk hno hne => ?_) (fun g a b => ?_) ?_ ?_ (fun g a b => ?_) (fun k hk h0 => ?_) ⟨by rw [f6' _ (by omega)]; exact g8.2.1, fun r hr h14 => ?_⟩ (fun r hr h14 => ?_) (fun y hno => ?_) (fun r hr h14 => ?_) (fun y hno => ?_) (fun g n1 n2 n3 n4 n5 n6' n7 n8 n9 => ?_) ((u4 S' c).trans (if_pos rfl)) ?_ (fun e ee ed => ?_) (fun g j' b1 b2 hj' hne => ?_) ⟨?_, fun k hk => ?_⟩ (fun r hr h14 => ?_) (fun r hr h14 r' hr' h14' e => ?_) (fun y hy hno => ?_) ?_ (by omega) (by omega) (by omega) ?_ (fun r k hr hl hne hk => ?_) (fun r k hr h14 hk => ?_) (fun r hr h14 => ?_)
    · rw [vS_o _ _ 2 (by omega) (by omega) (by omega), vS_o _ _ 2 (by omega) (by omega) (by omega), g1 2 (by omega)]
    · refine if_pos (Or.inr ?_)
      rw [g12, hds, dse d hd4]
      simp
    · show (if e = c ∨ dsB (T'.1 36 0) e = true then 0 else T'.1 3 e) = (if e = c ∨ dsB (T.1 36 0) e = true then 0 else T.1 3 e)
      rw [g12, hds, dse e he, g1 3 (by omega)]
      simp [ed]
    · show (if e = c then T'.1 28 0 else T'.1 4 e) = (if e = c then T.1 28 0 else T.1 4 e)
      rw [if_neg ee, if_neg ee, g1 4 (by omega)]
    · rw [vS_s _ _ g _ _ a b hk, vS_s _ _ g _ _ a b hk, if_neg ee, if_neg ee, g1 g (by omega)]
    · rw [v14] at h14 ⊢
      exact ⟨(g2 r hr h14).1, (g2 r hr h14).2.1⟩
    · rw [v14] at h14
      rw [vS_o T' c 14 (by omega) (by omega) (by omega), vS_o _ _ 15 (by omega) (by omega) (by omega), vS_o _ _ 2 (by omega) (by omega) (by omega)]
      exact ⟨(g2 r hr h14).2.2.1, (g2 r hr h14).2.2.2.1⟩
    · rw [v14] at hno
      rw [vS_o T' c 14 (by omega) (by omega) (by omega), v14, vS_o _ _ 15 (by omega) (by omega) (by omega), vS_o _ _ 15 (by omega) (by omega) (by omega)]
      obtain ⟨a1, a2, -⟩ := g4 y hno
      exact ⟨a1, a2⟩
    · rw [v14] at hno hne
      have hne' : ¬ T'.1 14 y = nI c := fun e => hne ((clN y hy).mp e)
      rw [vS_16 _ _ _ _ hk, vS_16 _ _ _ _ hk, if_neg hne', if_neg hne]
      exact (g4 y hno).2.2 k hk
    · rw [vS_o _ _ g (by omega) (by omega) (by omega), vS_o _ _ g (by omega) (by omega) (by omega), g1 g (by omega)]
    · rw [vS_o _ _ 17 (by omega) (by omega) (by omega), vS_o _ _ 17 (by omega) (by omega) (by omega), g1 17 (by omega)]
    · rw [vS_o _ _ 19 (by omega) (by omega) (by omega), vS_o _ _ 19 (by omega) (by omega) (by omega), g1 19 (by omega)]
    · rw [vS_o _ _ g (by omega) (by omega) (by omega), vS_o _ _ g (by omega) (by omega) (by omega), g1 g (by omega)]
    · obtain ⟨ii, j1, j2, j3⟩ := rk_sur hk
      rw [f6' k (by omega), ← j3, g7 30 ii (by omega) (by omega) j1 j2] at h0
      refine ⟨ii, j1, by rw [f6 ii (by omega)]; exact h0, fun r hr h14 => ?_⟩
      rw [v14] at h14
      rw [s16' r k hr h14 (by omega), s16 r ii hr h14 (by omega), ← j3]
      exact g9 r ii hr j1 j2
    · rw [v14] at h14
      rw [s16' r _ hr h14 (by omega)]
      exact g10 r hr h14
    · rw [v14] at h14
      exact s1 r ⟨hr, h14⟩
    · rw [v14] at hno
      exact s2 y (fun r hr => hno r hr.1 hr.2)
    · rw [v14] at h14
      exact t1 r ⟨hr, h14⟩
    · rw [v14] at hno
      exact t2 y (fun r hr => hno r hr.1 hr.2)
    · rw [uS_o S' c g (by omega), uS_o S c g (by omega), hfr'.1 g (by omega), i1' g ⟨n1, n2, n3, n4, n5, n6', n7⟩]
    · rw [u4, if_neg c1, p4, if_pos rfl]
    · rw [u4, u4, if_neg ee, if_neg ee, p4, if_neg ed]
    · rw [uS_s S' c g _ (by omega) (by omega), uS_s S c g _ (by omega) (by omega), if_neg hne, if_neg hne, hfr'.2 g j' (by omega) (by omega) (by omega), i1' g (by omega)]
    · rw [uS_s S' c 5 _ (by omega) (by omega), if_pos rfl]
      exact hd'.2.1
    · rw [uS_s S' c 6 _ (by omega) (by omega), uS_s S' c 7 _ (by omega) (by omega), uS_s S' c 8 _ (by omega) (by omega), uS_s S' c 9 _ (by omega) (by omega), if_pos rfl, if_pos rfl, if_pos rfl, if_pos rfl, vS_s _ _ 5 _ _ (by omega) (by omega) (by omega), vS_s _ _ 6 _ _ (by omega) (by omega) (by omega), vS_s _ _ 7 _ _ (by omega) (by omega) (by omega), vS_s _ _ 8 _ _ (by omega) (by omega) (by omega), if_pos rfl, if_pos rfl, if_pos rfl, if_pos rfl]
      obtain ⟨z1, z2, z3, z4, z5⟩ := hd'.2.2.2 k hk
      exact ⟨z1, z2, z3, z4⟩
    · rw [v14] at h14
      obtain ⟨b1, b2, b3, b4, b5, b6, b7, b8⟩ := n6 r hr h14
      have l1 := low r hr h14
      have hne : T'.1 14 (ln r) ≠ nI c := by
        rw [(g2 r hr h14).2.2.1]
        exact fun e => c1 (nI_inj4 hd4 hc e)
      rw [u 13 (by omega), u' 13 (by omega), u' 14 (by omega), u' 15 (by omega), u' 17 (by omega), vS_o _ _ 2 (by omega) (by omega) (by omega)]
      rw [a 13 (by omega)] at b2
      rw [a 3 (by omega)] at b5
      refine ⟨b1, b2, b3, by omega, by omega, b4, ?_, fun k hk => ?_⟩
      · rw [b5]
        have := (hCR.1.2 d hd4).1
        rw [u 3 (by omega), vS_o _ _ 2 (by omega) (by omega) (by omega)] at this
        exact this
      · rw [b6 k hk, vS_16 _ _ _ _ (by omega), if_neg hne, (g2 r hr h14).2.2.2.2 k hk]
        obtain ⟨q1, q2, q3, q4, q5, q6⟩ := fdP_good hSh (c3 k hk)
        have hv := hCR.2.2.2.2.2.2.1 r c (fdP T d m k) 0 ⟨hr, hc, h14, ⟨m, hm6, e4, q1⟩, by rw [f6 _ (by omega)]; exact q4⟩
        rw [if_pos rfl, u 17 (by omega), sg hr h14, s16 r _ hr h14 (by omega)] at hv
        rw [a 17 (by omega)]
        exact hv
    · rw [v14] at h14 h14'
      rw [idinj r hr h14 r' hr' h14' e]
    · rw [v14] at hno
      obtain ⟨z1, z2, z3, -⟩ := o7 y hy hno
      rw [u 13 (by omega), u' 13 (by omega), u 14 (by omega), u' 14 (by omega), u 15 (by omega), u' 15 (by omega), z1, z2, z3, a 13 (by omega), a 14 (by omega), a 15 (by omega)]
      exact ⟨rfl, rfl, rfl⟩
    · rw [u' 12 (by omega)]
      exact i3
    · rw [u' 11 (by omega), u' 13 (by omega)]
      exact i4
    · rw [v14] at hl hne
      obtain ⟨b1, b2, b3, b4, -⟩ := hrec.1 r hr hl
      have hno : ∀ r0, r0 < 24 → T.1 14 r0 = nI c → σ' r ≠ en (σ r0) := fun r0 hr0 h0 e => by
        have := (n6 r0 hr0 h0).2.1
        rw [← e, a 13 (by omega)] at this
        exact b3 this
      have := (o7 (σ' r) b1 hno).2.2.2 (fun hh => hne (by rw [← b4]; exact ((isC0 _).mp hh.2.2).2))
      rw [u 17 (by omega), u' 17 (by omega), this, a 17 (by omega)]
    · rw [v14] at h14
      obtain ⟨ii, j1, j2, j3⟩ := rk_sur hk
      obtain ⟨b1, b2, b3, b4, b5, b6, b7, b8⟩ := n6 r hr h14
      have hv := hCR.2.2.2.2.2.2.1 r c ii (T.1 30 ii) ⟨hr, hc, h14, ⟨m, hm6, e4, j1⟩, f6 ii (by omega)⟩
      rw [u 17 (by omega), sg hr h14, s16 r _ hr h14 (by omega)] at hv
      rw [u' 17 (by omega), sg hr h14, f6' k (by omega), s16' r k hr h14 (by omega), ← j3, b7 ii j1 j2, g7 30 ii (by omega) (by omega) j1 j2, g9 r ii hr j1 j2, a 17 (by omega)]
      exact hv
    · rw [v14] at h14
      rw [u' 17 (by omega), u' 13 (by omega), sg hr h14]
      exact (n6 r hr h14).2.2.2.2.2.2.2
  · have hT := (hcl r hr).mpr h14
    rw [s2 r (fun r0 hr0 => nln (lc hT) r0 hr0.1 hr0.2)]
    exact hσ r hr h14
  · rw [hfr'.1 18 (by omega), i1' 18 (by omega)]
    exact hbf r k hr h14 hk
  · have : ∀ g, 5 ≤ g → g ≤ 9 → S'.1 g (2 * c + 1) = S.1 g (2 * c + 1) := fun g b1 b2 => by rw [hfr'.2 g _ b1 (by omega) (by omega), i1' g (by omega)]
    unfold ShC
    rw [this 5 (by omega) (by omega), this 6 (by omega) (by omega), this 7 (by omega) (by omega), this 8 (by omega) (by omega), this 9 (by omega) (by omega)]
    exact hsb
  · rw [hfr'.1 g (by omega), i1' g (by omega)]
    exact hst.1 g hg
