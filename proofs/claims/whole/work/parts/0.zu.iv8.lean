/-! ===== formulas: the class's reckoning, ranges or values ===== -/
/-- a choice of zero or one may be looked at or not -/
theorem ok_unZ {X : Option (Int32 × CSt)} {Q : Int32 × CSt → Prop} (h : Ok (X.bind (fun z => bif isZ z.1 then (some (z.1, z.2)) else none)) Q) : Ok X Q := by
  rw [Ok_bind] at h
  refine ok_mono h (fun a ha => ?_)
  rw [Ok_bif] at ha
  exact Ok_some.mp ha.2
/-- one word of a formula -/
def wdO (n : Nat) (S : CSt) (i : Nat) (F : Int32 → Option (Int32 × CSt)) (w : Int32) : Option (Int32 × CSt) := if 10 ≤ w then (if w < 100 then (if ¬ w = 16 then m_X3_combine n S w else m_X3_negate n S) else m_X3_lay n S ((w - 200).toInt64) ((w - 200).toInt64)) else ((m_X4_placeOf n S i w).bind F)
theorem wdO_bind {β : Type} {n : Nat} {S : CSt} {i : Nat} {F : Int32 → Option (Int32 × CSt)} {w : Int32} (K : Int32 × CSt → Option β) : (wdO n S i F w).bind K = (if 10 ≤ w then (if w < 100 then (if ¬ w = 16 then ((m_X3_combine n S w).bind K) else ((m_X3_negate n S).bind K)) else ((m_X3_lay n S ((w - 200).toInt64) ((w - 200).toInt64)).bind K)) else ((m_X4_placeOf n S i w).bind (fun z => (F z).bind K))) := by
  unfold wdO
  by_cases h1 : 10 ≤ w
  · rw [if_pos h1, if_pos h1]
    by_cases h2 : w < 100
    · rw [if_pos h2, if_pos h2]
      by_cases h3 : ¬ w = 16
      · rw [if_pos h3, if_pos h3]
      · rw [if_neg h3, if_neg h3]
    · rw [if_neg h2, if_neg h2]
  · rw [if_neg h1, if_neg h1]
    exact Option.bind_assoc _ _ _
theorem q_reckonG {n : Nat} {S : CSt} {i len : Nat} {R : Int32 → Prop} {lo hi : Int32 → Int} {f : Nat → Int32} {ob : CSt → Int32 → Option (Int32 × CSt)} {body : (CSt × Int32 × Int32) → Option ((CSt × Int32 × Int32) ⊕ (CSt × Int32))} (hn : 12 < n) (hl : len ≤ 12) (h20 : S.1 20 i 0 = nI len) (hf : ∀ k, k < len → S.1 21 i k = f k) (hW : ∀ k, k < len → isW (f k)) (hr : rgt f len = some 1)
    (hbody : ∀ x : CSt × Int32 × Int32, body x = if (x.1.1 20 i 0) ≤ x.2.2 then (some (.inr (x.1, x.2.1))) else (if x.2.1 = 0 then (some (.inr (x.1, x.2.1))) else (bif inB x.2.2 12 then ((ob x.1 (x.1.1 21 i x.2.2.toNatClampNeg)).bind (fun z => nm (x.2.2 + 1) (fun y => some (.inl (z.2, z.1, y))))) else none)))
    (hob : ∀ (S' : CSt) (w : Int32) (h : Nat) (l u : Nat → Int), FrP S S' → stC S' h l u → isW w → tk w ≤ h → h < 12 → Ok (ob S' w) (obO R lo hi w S' h l u)) :
    Ok (nm (sI S 27 0 0 0) (fun S70 => (lpO body n (S70, 1, 0)).bind (fun w73 => if w73.2 = 0 then (some (0, w73.1)) else (if ¬ (w73.1.1 27 0 0) = 1 then (some (0, w73.1)) else (some (1, w73.1)))))) (fun o : Int32 × CSt => FrP S o.2 ∧ ((o.1 = 1 ∧ ∃ l u, ivN R lo hi f len 1 l u ∧ stC o.2 1 l u) ∨ (o.1 = 0 ∧ ¬ ∃ h l u, ivN R lo hi f len h l u))) := by
  rw [Ok_nm]
  have hloop : Ok (lpO body n (sI S 27 0 0 0, 1, 0)) (fun w : CSt × Int32 => FrP S w.1 ∧ ((w.2 = 1 ∧ ∃ l u, ivN R lo hi f len 1 l u ∧ stC w.1 1 l u) ∨ (w.2 = 0 ∧ ¬ ∃ h l u, ivN R lo hi f len h l u))) := by
    refine ok_for3 (N := len) (by omega) (I := fun k S' g => FrP S S' ∧ ((g = 1 ∧ ∃ h l u, ivN R lo hi f k h l u ∧ stC S' h l u) ∨ (g = 0 ∧ ¬ ∃ h l u, ivN R lo hi f len h l u))) (fun k S' g hk hI => ?_) ⟨FrP_27 _ _, Or.inl ⟨rfl, 0, (fun _ => 0), (fun _ => 0), ⟨rfl, rfl, rfl⟩, by rw [sI_at, if_pos ⟨rfl, rfl, rfl⟩]; rfl, by omega, fun i hi => by omega⟩⟩
    obtain ⟨hF, hI⟩ := hI
    rw [hbody]
    dsimp only
    rw [hF 20 (by omega), h20, Ok_ite]
    rcases hI with ⟨hg, h, l, u, hN, hs⟩ | ⟨hg, hno⟩
    · have eh := ivN_h hr hW hk hN
      obtain ⟨h0, e0, e1, ht⟩ := rgt_at hr hk
      rw [eh] at e0
      cases e0
      refine ⟨fun h3 => ?_, fun h3 => ?_⟩
      · rw [Ok_some]
        have ek := ge_eq (by omega) hk h3
        subst ek
        rw [hr] at eh
        cases eh
        exact ⟨hF, Or.inl ⟨hg, l, u, hN, hs⟩⟩
      · have hk2 := nge_lt (by omega) hk h3
        rw [hg, if_neg one_ne, Ok_bif, nI_clamp (by omega), hF 21 (by omega), hf k hk2]
        refine ⟨inB_nI (by omega) (by omega), ?_⟩
        refine ok_seq (hob S' (f k) h l u hF hs (hW k hk2) (ht hk2) (by omega)) (fun o ho => ?_)
        obtain ⟨f1, f2⟩ := ho
        have hF' : FrP S o.2 := FrP_trans hF f1
        rw [Ok_nm, Ok_some, nI_1]
        refine ⟨hk2, rfl, hF', ?_⟩
        rcases f2 with ⟨f2, f3⟩ | ⟨f2, h', l', u', f3, f4⟩
        · refine Or.inr ⟨f2, fun ⟨hx, lx, ux, hall⟩ => ?_⟩
          rw [show len = k + 1 + (len - (k + 1)) by omega] at hall
          obtain ⟨ha, la, ua, hb, lb, ub, hN2, hS2⟩ := ivN_pre hall
          obtain ⟨q1, q2, q3⟩ := ivN_fn hN hN2
          subst q1 q2 q3
          exact f3 ⟨_, _, _, hS2⟩
        · exact Or.inl ⟨f2, h', l', u', ⟨h, l, u, hN, f3⟩, f4⟩
    · refine ⟨fun _ => ?_, fun _ => ?_⟩
      · rw [Ok_some]
        exact ⟨hF, Or.inr ⟨hg, hno⟩⟩
      · rw [if_pos hg, Ok_some]
        exact ⟨hF, Or.inr ⟨hg, hno⟩⟩
  refine ok_seq hloop (fun w hw => ?_)
  obtain ⟨hF, hw⟩ := hw
  rcases hw with ⟨e, l, u, hN, hs⟩ | ⟨e, hno⟩
  · rw [e, if_neg one_ne, if_neg (fun h => h hs.1), Ok_some]
    exact ⟨hF, Or.inl ⟨rfl, l, u, hN, hs⟩⟩
  · rw [if_pos e, Ok_some]
    exact ⟨hF, Or.inr ⟨rfl, hno⟩⟩
theorem obey_split {n : Nat} {S : CSt} {i h K m0 : Nat} {na kd lo hi va vb : Nat → Int32} {l u : Nat → Int} {w : Int32} {F : Int32 → Option (Int32 × CSt)} (hn : 6 < n) (hSh : Sh K m0 na kd lo hi) (hS : ShC (S.1 5) (S.1 6) (S.1 7) (S.1 8) (S.1 9) i m0 na kd lo hi) (hs : stC S h l u) (hW : isW w) (ht : tk w ≤ h) (hp : h < 12)
    (hF : ∀ x, F x = (m_X4_isNumber n S i x).bind (fun z14 => if ¬ z14 = 0 then (bif inB x 6 then (bif inB x 6 then ((m_X3_lay n S ((va x.toNatClampNeg).toInt64) ((vb x.toNatClampNeg).toInt64)).bind (fun z19 => bif isZ z19.1 then (some (z19.1, z19.2)) else none)) else none) else none) else (some (0, S))))
    (hv : ∀ k, k < m0 → kd k = 0 → (va k).toInt ≤ (vb k).toInt ∧ nf (va k).toInt ∧ nf (vb k).toInt) : Ok (if 10 ≤ w then (if w < 100 then (if ¬ w = 16 then ((m_X3_combine n S w).bind (fun z25 => bif isZ z25.1 then (some (z25.1, z25.2)) else none)) else ((m_X3_negate n S ).bind (fun z28 => bif isZ z28.1 then (some (z28.1, z28.2)) else none))) else ((m_X3_lay n S ((w - 200).toInt64) ((w - 200).toInt64)).bind (fun z31 => bif isZ z31.1 then (some (z31.1, z31.2)) else none))) else ((m_X4_placeOf n S i w).bind (fun z34 => (F z34).bind (fun z36 => bif isZ z36.1 then (some (z36.1, z36.2)) else none)))) (obO (gR m0 na kd) (gV m0 na va) (gV m0 na vb) w S h l u) := by
  by_cases h10 : w < 10
  · rw [if_neg (Int32.not_le.mpr h10)]
    exact q_obeyG hn hSh hS hs h10 hp hF hv
  · rw [if_pos (Int32.not_lt.mp h10)]
    exact q_word _ _ _ (by omega) hs hW h10 ht (Or.inl hp)
theorem wdO_ok {n : Nat} {S : CSt} {i h K m0 : Nat} {na kd lo hi va vb : Nat → Int32} {l u : Nat → Int} {w : Int32} {F : Int32 → Option (Int32 × CSt)} (hn : 6 < n) (hSh : Sh K m0 na kd lo hi) (hS : ShC (S.1 5) (S.1 6) (S.1 7) (S.1 8) (S.1 9) i m0 na kd lo hi) (hs : stC S h l u) (hW : isW w) (ht : tk w ≤ h) (hp : h < 12)
    (hF : ∀ x, F x = (m_X4_isNumber n S i x).bind (fun z14 => if ¬ z14 = 0 then (bif inB x 6 then (bif inB x 6 then ((m_X3_lay n S ((va x.toNatClampNeg).toInt64) ((vb x.toNatClampNeg).toInt64)).bind (fun z19 => bif isZ z19.1 then (some (z19.1, z19.2)) else none)) else none) else none) else (some (0, S))))
    (hv : ∀ k, k < m0 → kd k = 0 → (va k).toInt ≤ (vb k).toInt ∧ nf (va k).toInt ∧ nf (vb k).toInt) : Ok (wdO n S i F w) (obO (gR m0 na kd) (gV m0 na va) (gV m0 na vb) w S h l u) := by
  have hx := obey_split hn hSh hS hs hW ht hp hF hv
  unfold wdO
  by_cases h1 : 10 ≤ w
  · rw [if_pos h1] at hx ⊢
    by_cases h2 : w < 100
    · rw [if_pos h2] at hx ⊢
      by_cases h3 : ¬ w = 16
      · rw [if_pos h3] at hx ⊢
        exact ok_unZ hx
      · rw [if_neg h3] at hx ⊢
        exact ok_unZ hx
    · rw [if_neg h2] at hx ⊢
      exact ok_unZ hx
  · rw [if_neg h1] at hx ⊢
    rw [Ok_bind] at hx ⊢
    exact ok_mono hx (fun a ha => ok_unZ ha)
theorem sh_nf {K m : Nat} {na kd lo hi : Nat → Int32} (h : Sh K m na kd lo hi) {k : Nat} (hk : k < m) (h0 : kd k = 0) : (lo k).toInt ≤ (hi k).toInt ∧ nf (lo k).toInt ∧ nf (hi k).toInt ∧ -1000000 ≤ (lo k).toInt ∧ (hi k).toInt ≤ 1000000 := by
  obtain ⟨r1, r2, r3⟩ : lo k ≤ hi k ∧ (-1000000) ≤ lo k ∧ hi k ≤ 1000000 := by
    rcases (h.2.2 k hk).2 with q | q
    · exact q.2
    · rcases q.1 with q | q
      · exact absurd (h0.symm.trans q) (by decide)
      · exact absurd (h0.symm.trans q) (by decide)
  simp only [Int32.le_iff_toInt_le, Int32.reduceToInt] at r1 r2 r3
  unfold nf
  omega
theorem q_fits {n : Nat} {S : CSt} {i i2 len m0 K : Nat} {na kd lo hi f : Nat → Int32} (hn : 12 < n) (hSh : Sh K m0 na kd lo hi) (hS : ShC (S.1 5) (S.1 6) (S.1 7) (S.1 8) (S.1 9) i2 m0 na kd lo hi) (hl : len ≤ 12) (h20 : S.1 20 i 0 = nI len) (hf : ∀ k, k < len → S.1 21 i k = f k) (hW : ∀ k, k < len → isW (f k)) (hr : rgt f len = some 1) : Ok (m_X7_formulaFits n S i i2) (fun o => FrP S o.2 ∧ ((o.1 = 1 ∧ Fit (gR m0 na kd) (gV m0 na lo) (gV m0 na hi) f len (S.1 24 i 0).toInt (S.1 25 i 0).toInt) ∨ (o.1 = 0 ∧ ¬ Fit (gR m0 na kd) (gV m0 na lo) (gV m0 na hi) f len (S.1 24 i 0).toInt (S.1 25 i 0).toInt))) := by
  have hR : Ok (m_X3_reckon_nul n S i i2) (fun o : Int32 × CSt => FrP S o.2 ∧ ((o.1 = 1 ∧ ∃ l u, ivN (gR m0 na kd) (gV m0 na lo) (gV m0 na hi) f len 1 l u ∧ stC o.2 1 l u) ∨ (o.1 = 0 ∧ ¬ ∃ h l u, ivN (gR m0 na kd) (gV m0 na lo) (gV m0 na hi) f len h l u))) := by
    unfold m_X3_reckon_nul
    refine q_reckonG (ob := fun S' w => wdO n S' i2 (fun z => m_X3_layField_nul n S' i2 z) w) hn hl h20 hf hW hr (fun x => by rw [wdO_bind]; rfl) (fun S' w h l u hF hs hw ht hp => ?_)
    have hS' : ShC (S'.1 5) (S'.1 6) (S'.1 7) (S'.1 8) (S'.1 9) i2 m0 na kd lo hi := by
      rw [hF 5 (by omega), hF 6 (by omega), hF 7 (by omega), hF 8 (by omega), hF 9 (by omega)]
      exact hS
    have hx := wdO_ok (n := n) (F := fun x => m_X3_layField_nul n S' i2 x) (va := S'.1 8 i2) (vb := S'.1 9 i2) (by omega) hSh hS' hs hw ht hp (fun x => rfl) (fun k hk h0 => by
      rw [(hS'.2 k hk).2.2.1, (hS'.2 k hk).2.2.2]
      have := sh_nf hSh hk h0
      exact ⟨this.1, this.2.1, this.2.2.1⟩)
    have e1 : ∀ w, gR m0 na kd w → gV m0 na (S'.1 8 i2) w = gV m0 na lo w ∧ gV m0 na (S'.1 9 i2) w = gV m0 na hi w := fun w ⟨k, k1, k2, k3⟩ => by
      unfold gV
      rw [plc_eq hSh.2.1 k1 k2, nI_clamp (by have := hSh.1; omega), (hS'.2 k k1).2.2.1, (hS'.2 k k1).2.2.2]
      exact ⟨rfl, rfl⟩
    refine ok_mono hx (fun o ho => ⟨ho.1, ?_⟩)
    rcases ho.2 with ⟨f2, f3⟩ | ⟨f2, h', l', u', f3, f4⟩
    · exact Or.inl ⟨f2, fun ⟨h', l', u', q⟩ => f3 ⟨h', l', u', ivS_cong (fun hRw => ⟨((e1 _ hRw).1).symm, ((e1 _ hRw).2).symm⟩) q⟩⟩
    · exact Or.inr ⟨f2, h', l', u', ivS_cong (e1 _) f3, f4⟩
  unfold m_X7_formulaFits
  refine ok_seq hR (fun o ho => ?_)
  obtain ⟨hF, ho2⟩ := ho
  rcases ho2 with ⟨e, l, u, hN, hs⟩ | ⟨e, hno⟩
  · rw [e, if_neg one_ne]
    obtain ⟨s1, s2, _⟩ := hs.2.2 0 (by omega)
    show Ok (bif inB (nI 0) 12 then (if (lg_cmp (o.2.2.1 0 0) ((o.2.1 24 i 0).toInt64)) < 0 then (some (0, o.2)) else (bif inB (nI 0) 12 then (if 0 < (lg_cmp (o.2.2.1 1 0) ((o.2.1 25 i 0).toInt64)) then (some (0, o.2)) else (some (1, o.2))) else none)) else none) _
    rw [inB_nI (by omega) (by omega), cond_true, cond_true, hF 24 (by omega), hF 25 (by omega)]
    by_cases h1 : lg_cmp (o.2.2.1 0 0) (S.1 24 i 0).toInt64 < 0
    · rw [if_pos h1, Ok_some]
      have := Int64.lt_iff_toInt_lt.mp ((lg_cmp_lt _ _).mp h1)
      rw [s1, Int32.toInt_toInt64] at this
      refine ⟨hF, Or.inr ⟨rfl, fun ⟨l', u', h3, h4, h5⟩ => ?_⟩⟩
      obtain ⟨_, q2, q3⟩ := ivN_fn hN h3
      rw [q2] at this
      omega
    · rw [if_neg h1]
      have g1 : ¬ (o.2.2.1 0 0).toInt < (S.1 24 i 0).toInt64.toInt := fun h3 => h1 ((lg_cmp_lt _ _).mpr (Int64.lt_iff_toInt_lt.mpr h3))
      rw [s1, Int32.toInt_toInt64] at g1
      by_cases h2 : 0 < lg_cmp (o.2.2.1 1 0) (S.1 25 i 0).toInt64
      · rw [if_pos h2, Ok_some]
        have := Int64.lt_iff_toInt_lt.mp ((lg_cmp_gt _ _).mp h2)
        rw [s2, Int32.toInt_toInt64] at this
        refine ⟨hF, Or.inr ⟨rfl, fun ⟨l', u', h3, h4, h5⟩ => ?_⟩⟩
        obtain ⟨_, q2, q3⟩ := ivN_fn hN h3
        rw [q3] at this
        omega
      · rw [if_neg h2, Ok_some]
        have g2 : ¬ (S.1 25 i 0).toInt64.toInt < (o.2.2.1 1 0).toInt := fun h3 => h2 ((lg_cmp_gt _ _).mpr (Int64.lt_iff_toInt_lt.mpr h3))
        rw [s2, Int32.toInt_toInt64] at g2
        exact ⟨hF, Or.inl ⟨rfl, l, u, hN, by omega, by omega⟩⟩
  · rw [e, if_pos rfl, Ok_some]
    exact ⟨hF, Or.inr ⟨rfl, fun ⟨l, u, h3, _⟩ => hno ⟨1, l, u, h3⟩⟩⟩
theorem to32 {x : Int64} (h1 : -2147483648 ≤ x.toInt) (h2 : x.toInt < 2147483648) : x.toInt32.toInt = x.toInt := by
  rw [Int64.toInt_toInt32]
  exact Int.bmod_eq_of_le (by omega) (by omega)
/-- the value of a formula -/
theorem q_value {n : Nat} {S : CSt} {i e c len m0 K : Nat} {na kd lo hi f va : Nat → Int32} {v : Nat → Int} (hn : 12 < n) (hc : c < 4) (h14 : S.1 14 e 0 = nI c) (hSh : Sh K m0 na kd lo hi) (hS : ShC (S.1 5) (S.1 6) (S.1 7) (S.1 8) (S.1 9) (2 * c + 1) m0 na kd lo hi) (hl : len ≤ 12) (h20 : S.1 20 i 0 = nI len) (hf : ∀ k, k < len → S.1 21 i k = f k) (hW : ∀ k, k < len → isW (f k)) (hr : rgt f len = some 1) (hva : ∀ k, k < m0 → kd k = 0 → S.1 18 e k = va k ∧ nf (va k).toInt) (hw : wN (gR m0 na kd) (gV m0 na va) f len 1 v) (hv1 : -1000000 ≤ v 0) (hv2 : v 0 ≤ 1000000) {β : Type} {G : CSt → Int32 → Option β} {Q : β → Prop} (hG : ∀ (S' : CSt) (x : Int32), FrP S S' → x.toInt = v 0 → Ok (G S' x) Q) : Ok (bif inB (S.1 14 e 0) 4 then ((m_X3_reckon_a18 n S i (2 * (S.1 14 e 0).toNatClampNeg + 1) e).bind (fun z70 => (m_X3_value n z70.2).bind (fun z72 => G z70.2 z72))) else none) Q := by
  have hR : Ok (m_X3_reckon_a18 n S i (2 * c + 1) e) (fun o : Int32 × CSt => FrP S o.2 ∧ ((o.1 = 1 ∧ ∃ l u, ivN (gR m0 na kd) (gV m0 na va) (gV m0 na va) f len 1 l u ∧ stC o.2 1 l u) ∨ (o.1 = 0 ∧ ¬ ∃ h l u, ivN (gR m0 na kd) (gV m0 na va) (gV m0 na va) f len h l u))) := by
    unfold m_X3_reckon_a18
    refine q_reckonG (ob := fun S' w => wdO n S' (2 * c + 1) (fun z => m_X3_layField_a18 n S' (2 * c + 1) z e) w) hn hl h20 hf hW hr (fun x => by rw [wdO_bind]; rfl) (fun S' w h l u hF hs hw ht hp => ?_)
    have hS' : ShC (S'.1 5) (S'.1 6) (S'.1 7) (S'.1 8) (S'.1 9) (2 * c + 1) m0 na kd lo hi := by
      rw [hF 5 (by omega), hF 6 (by omega), hF 7 (by omega), hF 8 (by omega), hF 9 (by omega)]
      exact hS
    have hx := wdO_ok (n := n) (F := fun x => m_X3_layField_a18 n S' (2 * c + 1) x e) (va := S'.1 18 e) (vb := S'.1 18 e) (by omega) hSh hS' hs hw ht hp (fun x => rfl) (fun k hk h0 => by
      rw [hF 18 (by omega), (hva k hk h0).1]
      exact ⟨Int.le_refl _, (hva k hk h0).2, (hva k hk h0).2⟩)
    have e1 : ∀ w, gR m0 na kd w → gV m0 na (S'.1 18 e) w = gV m0 na va w ∧ gV m0 na (S'.1 18 e) w = gV m0 na va w := fun w ⟨k, k1, k2, k3⟩ => by
      unfold gV
      rw [plc_eq hSh.2.1 k1 k2, nI_clamp (by have := hSh.1; omega), hF 18 (by omega), (hva k k1 k3).1]
      exact ⟨rfl, rfl⟩
    refine ok_mono hx (fun o ho => ⟨ho.1, ?_⟩)
    rcases ho.2 with ⟨f2, f3⟩ | ⟨f2, h', l', u', f3, f4⟩
    · exact Or.inl ⟨f2, fun ⟨h', l', u', q⟩ => f3 ⟨h', l', u', ivS_cong (fun hRw => ⟨((e1 _ hRw).1).symm, ((e1 _ hRw).2).symm⟩) q⟩⟩
    · exact Or.inr ⟨f2, h', l', u', ivS_cong (e1 _) f3, f4⟩
  rw [h14, inB_nI hc (by omega), cond_true, nI_clamp (by omega)]
  refine ok_seq hR (fun o ho => ?_)
  obtain ⟨hF, ho2⟩ := ho
  rcases ho2 with ⟨e, l, u, hN, hs⟩ | ⟨e, hno⟩
  · obtain ⟨s1, s2, _⟩ := hs.2.2 0 (by omega)
    obtain ⟨_, q2, q3⟩ := ivN_fn (wN_iv hw) hN
    have ev : m_X3_value n o.2 = some ((o.2.2.1 0 0).toInt32) := by
      show (bif inB (nI 0) 12 then (some ((o.2.2.1 0 0).toInt32)) else none) = _
      rw [inB_nI (by omega) (by omega), cond_true]
    rw [ev, Option.bind_some]
    rw [← q2] at s1
    exact hG _ _ hF (by rw [to32 (by omega) (by omega), s1])
  · exact absurd ⟨1, v, v, wN_iv hw⟩ hno
