/-! ===== formulas: the run over all words ===== -/
def ivN (R : Int32 → Prop) (lo hi : Int32 → Int) (f : Nat → Int32) : Nat → Nat → (Nat → Int) → (Nat → Int) → Prop
  | 0, h, l, u => h = 0 ∧ l = (fun _ => 0) ∧ u = (fun _ => 0)
  | k + 1, h', l', u' => ∃ h l u, ivN R lo hi f k h l u ∧ ivS R lo hi (f k) h l u h' l' u'
def wN (R : Int32 → Prop) (V : Int32 → Int) (f : Nat → Int32) : Nat → Nat → (Nat → Int) → Prop
  | 0, h, v => h = 0 ∧ v = (fun _ => 0)
  | k + 1, h', v' => ∃ h v, wN R V f k h v ∧ ivS R V V (f k) h v v h' v' v'
def Fit (R : Int32 → Prop) (lo hi : Int32 → Int) (f : Nat → Int32) (len : Nat) (b d : Int) : Prop := ∃ l u, ivN R lo hi f len 1 l u ∧ b ≤ l 0 ∧ u 0 ≤ d
theorem ivS_fn {R : Int32 → Prop} {lo hi : Int32 → Int} {w : Int32} {h h1 h2 : Nat} {l u l1 u1 l2 u2 : Nat → Int} (a : ivS R lo hi w h l u h1 l1 u1) (b : ivS R lo hi w h l u h2 l2 u2) : h1 = h2 ∧ l1 = l2 ∧ u1 = u2 := by
  rcases a with ⟨a1, a2, a3, a4, a5⟩ | ⟨a1, a2, a3, a4, a5⟩ | ⟨a1, a2, a3, a4, a5, a6, a7, a8, a9⟩ | ⟨a1, a2, a3, a4, a5, a6, a7, a8, a9⟩ <;> rcases b with ⟨b1, b2, b3, b4, b5⟩ | ⟨b1, b2, b3, b4, b5⟩ | ⟨b1, b2, b3, b4, b5, b6, b7, b8, b9⟩ | ⟨b1, b2, b3, b4, b5, b6, b7, b8, b9⟩
  · exact ⟨a3.trans b3.symm, a4.trans b4.symm, a5.trans b5.symm⟩
  · exact absurd a1 b1
  · exact absurd a1 b1
  · exact absurd a1 b1
  · exact absurd b1 a1
  · exact ⟨a3.trans b3.symm, a4.trans b4.symm, a5.trans b5.symm⟩
  · exact absurd b2 a2
  · exact absurd b2 a2
  · exact absurd b1 a1
  · exact absurd a2 b2
  · exact ⟨a5.trans b5.symm, a6.trans b6.symm, a7.trans b7.symm⟩
  · exact absurd a3 b3
  · exact absurd b1 a1
  · exact absurd a2 b2
  · exact absurd b3 a3
  · exact ⟨a5.trans b5.symm, a7.trans b7.symm, a8.trans b8.symm⟩
theorem ivN_fn {R : Int32 → Prop} {lo hi : Int32 → Int} {f : Nat → Int32} : ∀ {k h1 h2 : Nat} {l1 u1 l2 u2 : Nat → Int}, ivN R lo hi f k h1 l1 u1 → ivN R lo hi f k h2 l2 u2 → h1 = h2 ∧ l1 = l2 ∧ u1 = u2
  | 0, h1, h2, l1, u1, l2, u2, a, b => ⟨a.1.trans b.1.symm, a.2.1.trans b.2.1.symm, a.2.2.trans b.2.2.symm⟩
  | k + 1, h1, h2, l1, u1, l2, u2, ⟨h, l, u, a1, a2⟩, ⟨h', l', u', b1, b2⟩ => by
    obtain ⟨e1, e2, e3⟩ := ivN_fn a1 b1
    subst e1 e2 e3
    exact ivS_fn a2 b2
theorem ivN_pre {R : Int32 → Prop} {lo hi : Int32 → Int} {f : Nat → Int32} {k : Nat} : ∀ {d h : Nat} {l u : Nat → Int}, ivN R lo hi f (k + d) h l u → ∃ h l u, ivN R lo hi f k h l u
  | 0, h, l, u, a => ⟨h, l, u, a⟩
  | d + 1, h, l, u, ⟨_, _, _, a, _⟩ => ivN_pre (d := d) a
theorem ivS_cong {R : Int32 → Prop} {lo hi lo' hi' : Int32 → Int} {w : Int32} {h h' : Nat} {l u l' u' : Nat → Int} (he : R w → lo w = lo' w ∧ hi w = hi' w) (a : ivS R lo hi w h l u h' l' u') : ivS R lo' hi' w h l u h' l' u' := by
  rcases a with ⟨a1, a2, a3, a4, a5⟩ | a | a | a
  · exact Or.inl ⟨a1, a2, a3, by rw [a4, (he a2).1], by rw [a5, (he a2).2]⟩
  · exact Or.inr (Or.inl a)
  · exact Or.inr (Or.inr (Or.inl a))
  · exact Or.inr (Or.inr (Or.inr a))
theorem ivN_cong {R : Int32 → Prop} {lo hi lo' hi' : Int32 → Int} {f g : Nat → Int32} (he : ∀ w, R w → lo w = lo' w ∧ hi w = hi' w) : ∀ {k h : Nat} {l u : Nat → Int}, (∀ i, i < k → f i = g i) → ivN R lo hi f k h l u → ivN R lo' hi' g k h l u
  | 0, h, l, u, _, a => a
  | k + 1, h, l, u, hf, ⟨h0, l0, u0, a1, a2⟩ => ⟨h0, l0, u0, ivN_cong he (fun i hi => hf i (by omega)) a1, by rw [← hf k (by omega)]; exact ivS_cong (he _) a2⟩
theorem Fit_cong {R : Int32 → Prop} {lo hi : Int32 → Int} {f g : Nat → Int32} {len : Nat} {b d : Int} (hf : ∀ i, i < len → f i = g i) : Fit R lo hi f len b d ↔ Fit R lo hi g len b d :=
  ⟨fun ⟨l, u, a, b⟩ => ⟨l, u, ivN_cong (fun _ _ => ⟨rfl, rfl⟩) hf a, b⟩, fun ⟨l, u, a, b⟩ => ⟨l, u, ivN_cong (fun _ _ => ⟨rfl, rfl⟩) (fun i hi => (hf i hi).symm) a, b⟩⟩
theorem opZ_mn (x : Int) : mn4 x x x x = x ∧ mx4 x x x x = x := by
  unfold mn4 mx4 mnZ mxZ
  constructor <;> (repeat' split) <;> omega
theorem vw_in {R : Int32 → Prop} {lo hi V : Int32 → Int} {w : Int32} {h h' : Nat} {l u l' u' v : Nat → Int} (hs : ivS R lo hi w h l u h' l' u') (hV : R w → lo w ≤ V w ∧ V w ≤ hi w) (hin : ∀ i, i < h → l i ≤ v i ∧ v i ≤ u i) : ∃ v', ivS R V V w h v v h' v' v' ∧ ∀ i, i < h' → l' i ≤ v' i ∧ v' i ≤ u' i := by
  obtain ⟨v', hv', hin'⟩ := vl_in hs hV hin
  refine ⟨v', ?_, hin'⟩
  rcases hs with ⟨a1, a2, a3, a4, a5⟩ | ⟨a1, a2, a3, a4, a5⟩ | ⟨a1, a2, a3, a4, a5, a6, a7, a8, a9⟩ | ⟨a1, a2, a3, a4, a5, a6, a7, a8, a9, a10⟩ <;> rcases hv' with ⟨b1, b3, b4⟩ | ⟨b1, b2, b3, b4⟩ | ⟨b1, b2, b3, b4, b5⟩ | ⟨b1, b2, b3, b4, b5, b6⟩
  · exact Or.inl ⟨a1, a2, a3, b4, b4⟩
  · exact absurd a1 b1
  · exact absurd a1 b1
  · exact absurd a1 b1
  · exact absurd b1 a1
  · exact Or.inr (Or.inl ⟨a1, a2, a3, b4, b4⟩)
  · exact absurd b2 a2
  · exact absurd b2 a2
  · exact absurd b1 a1
  · exact absurd a2 b2
  · have hb := hin' (h - 1) (by omega)
    refine Or.inr (Or.inr (Or.inl ⟨a1, a2, a3, a4, a5, b5, b5, ?_, ?_⟩))
    · unfold nf at a8 a9 ⊢; omega
    · unfold nf at a8 a9 ⊢; omega
  · exact absurd a3 b3
  · exact absurd b1 a1
  · exact absurd a2 b2
  · exact absurd b3 a3
  · have hb := hin' (h - 2) (by omega)
    have e1 : (ivO (v (h - 2)) (v (h - 2)) (v (h - 1)) (v (h - 1)) w).1 = opZ w (v (h - 2)) (v (h - 1)) := (opZ_mn _).1
    have e2 : (ivO (v (h - 2)) (v (h - 2)) (v (h - 1)) (v (h - 1)) w).2 = opZ w (v (h - 2)) (v (h - 1)) := (opZ_mn _).2
    refine Or.inr (Or.inr (Or.inr ⟨a1, a2, a3, a4, a5, ⟨fun h => ?_, fun h => ⟨b5.2 h, b5.2 h, b5.2 h, b5.2 h⟩⟩, by rw [e1]; exact b6, by rw [e2]; exact b6, by omega, by omega⟩))
    exact b5.1 h.1 (by omega)
theorem run_in {R : Int32 → Prop} {lo hi V : Int32 → Int} {f : Nat → Int32} (hV : ∀ w, R w → lo w ≤ V w ∧ V w ≤ hi w) : ∀ {k h : Nat} {l u : Nat → Int}, ivN R lo hi f k h l u → ∃ v, wN R V f k h v ∧ ∀ i, i < h → l i ≤ v i ∧ v i ≤ u i
  | 0, h, l, u, a => ⟨fun _ => 0, ⟨a.1, rfl⟩, fun i hi => by rw [a.1] at hi; omega⟩
  | k + 1, h', l', u', ⟨h, l, u, a1, a2⟩ => by
    obtain ⟨v, b1, b2⟩ := run_in hV a1
    obtain ⟨v', c1, c2⟩ := vw_in a2 (hV _) b2
    exact ⟨v', ⟨h, v, b1, c1⟩, c2⟩
theorem wN_iv {R : Int32 → Prop} {V : Int32 → Int} {f : Nat → Int32} : ∀ {k h : Nat} {v : Nat → Int}, wN R V f k h v → ivN R V V f k h v v
  | 0, h, v, a => ⟨a.1, a.2, a.2⟩
  | k + 1, h', v', ⟨h, v, a1, a2⟩ => ⟨h, v, v, wN_iv a1, a2⟩
theorem ivS_h {R : Int32 → Prop} {lo hi : Int32 → Int} {w : Int32} {h h' : Nat} {l u l' u' : Nat → Int} (hW : isW w) (hs : ivS R lo hi w h l u h' l' u') : h' = h + 1 - tk w := by
  rcases isW_cases hW with ⟨c1, c2⟩ | ⟨c1, c2, c3, c4⟩ | ⟨c1, c2, c3, c4⟩ | ⟨c1, c2, c3, c4, c5⟩ <;> rcases hs with ⟨a1, a2, a3, a4, a5⟩ | ⟨a1, a2, a3, a4, a5⟩ | ⟨a1, a2, a3, a4, a5, a6, a7, a8, a9⟩ | ⟨a1, a2, a3, a4, a5, a6, a7, a8, a9, a10⟩ <;> first | omega | (exfalso; exact absurd c1 a1) | (exfalso; exact absurd a1 c1) | (exfalso; exact absurd c2 a2) | (exfalso; exact absurd a2 c2) | (exfalso; exact absurd c3 a3) | (exfalso; exact absurd a3 c3)
/-- the words are right: how high the pile is before each, and that there is enough on it -/
theorem rgt_at {f : Nat → Int32} {len k : Nat} (h1 : rgt f len = some 1) (hk : k ≤ len) : ∃ h, rgt f k = some h ∧ h ≤ k ∧ (k < len → tk (f k) ≤ h) := by
  cases e : rgt f k with
  | none =>
    have := rgt_none e (len - k)
    rw [show k + (len - k) = len by omega, h1] at this
    cases this
  | some h =>
    refine ⟨h, rfl, rgt_le f k h e, fun hk2 => ?_⟩
    by_cases ht : tk (f k) ≤ h
    · exact ht
    · have := rgt_none (rgt_f e ht) (len - (k + 1))
      rw [show k + 1 + (len - (k + 1)) = len by omega, h1] at this
      cases this
theorem ivN_h {R : Int32 → Prop} {lo hi : Int32 → Int} {f : Nat → Int32} {len : Nat} (h1 : rgt f len = some 1) (hW : ∀ k, k < len → isW (f k)) : ∀ {k h : Nat} {l u : Nat → Int}, k ≤ len → ivN R lo hi f k h l u → rgt f k = some h
  | 0, h, l, u, _, a => by rw [a.1]; rfl
  | k + 1, h', l', u', hk, ⟨h, l, u, a1, a2⟩ => by
    have e := ivN_h h1 hW (by omega) a1
    obtain ⟨h0, e0, _, ht⟩ := rgt_at h1 (show k ≤ len by omega)
    rw [e] at e0
    cases e0
    rw [rgt_t e (ht (by omega)), ivS_h (hW k (by omega)) a2]
theorem p_fits {n : Nat} {T : MSt} {K c m0 i len : Nat} {b d : Int32} {f : Nat → Int32} (hn : 12 < n) (hc : c < 4) (hi6 : i < 6) (h27 : T.1 27 0 = nI c) (hm0 : T.1 4 c = nI m0) (hSh : Sh K m0 (r6 (T.1 5) c) (r6 (T.1 6) c) (r6 (T.1 7) c) (r6 (T.1 8) c)) (hl : len ≤ 12) (h24 : T.1 24 i = nI len) (hf : ∀ k, k < len → T.1 25 (12 * i + k) = f k) (hW : ∀ k, k < len → isW (f k)) (hr : rgt f len = some 1) : Ok (m_X8_fits n T (nI i) b d) (fun o => FrJ T o.2 ∧ ((o.1 = 1 ∧ Fit (fR T c m0) (fLo T c m0) (fHi T c m0) f len b.toInt d.toInt) ∨ (o.1 = 0 ∧ ¬ Fit (fR T c m0) (fLo T c m0) (fHi T c m0) f len b.toInt d.toInt))) := by
  have fr0 : FrJ T (mI T 40 0 0) := fun g hg => by
    funext l
    rw [mI_at, if_neg (fun h => hg h.1)]
  have fR_eq : ∀ {T' : MSt}, FrJ T T' → fR T' c m0 = fR T c m0 ∧ fLo T' c m0 = fLo T c m0 ∧ fHi T' c m0 = fHi T c m0 := fun {T'} hF => by
    refine ⟨?_, ?_, ?_⟩
    · unfold fR; rw [hF 5 (by omega), hF 6 (by omega)]
    · unfold fLo; rw [hF 5 (by omega), hF 7 (by omega)]
    · unfold fHi; rw [hF 5 (by omega), hF 8 (by omega)]
  have hloop : Ok (lpO (b_X8_fits_8 n (nI i) b d) n (mI T 40 0 0, 0)) (sumE (fun w => FrJ T w ∧ ¬ ∃ h l u, ivN (fR T c m0) (fLo T c m0) (fHi T c m0) f len h l u) (fun w => FrJ T w ∧ ∃ l u, ivN (fR T c m0) (fLo T c m0) (fHi T c m0) f len 1 l u ∧ stM w 1 l u)) := by
    refine ok_for2 (N := len) (by omega) (I := fun k T' => FrJ T T' ∧ ∃ h l u, ivN (fR T c m0) (fLo T c m0) (fHi T c m0) f k h l u ∧ stM T' h l u) (fun k T' hk hI => ?_) ⟨fr0, 0, (fun _ => 0), (fun _ => 0), ⟨rfl, rfl, rfl⟩, mI_eq _ _ _ _, by omega, fun i hi => by omega⟩
    obtain ⟨hF, h, l, u, hN, hs⟩ := hI
    have eh := ivN_h hr hW hk hN
    obtain ⟨h0, e0, e1, ht⟩ := rgt_at hr hk
    rw [eh] at e0
    cases e0
    unfold b_X8_fits_8
    dsimp only
    rw [Ok_bif, nI_clamp (by omega), hF 24 (by omega), h24, Ok_ite]
    refine ⟨inB_nI hi6 (by omega), fun h3 => ?_, fun h3 => ?_⟩
    · rw [Ok_some]
      have ek := ge_eq (by omega) hk h3
      subst ek
      rw [hr] at eh
      cases eh
      exact ⟨hF, l, u, hN, hs⟩
    · have hk2 := nge_lt (by omega) hk h3
      rw [Ok_bif, ix12, nI_clamp (by omega), hF 25 (by omega), hf k hk2]
      refine ⟨inB_nI (by omega) (by omega), ?_⟩
      obtain ⟨g1, g2, g3⟩ := fR_eq hF
      have hL := p_lay (n := n) (T := T') (K := K) (c := c) (m0 := m0) (w := f k) (by omega) hc (by rw [hF 27 (by omega)]; exact h27) (by rw [hF 4 (by omega)]; exact hm0) (by rw [hF 5 (by omega), hF 6 (by omega), hF 7 (by omega), hF 8 (by omega)]; exact hSh) hs (hW k hk2) (ht hk2) (by omega)
      rw [g1, g2, g3] at hL
      refine ok_seq hL (fun o ho => ?_)
      obtain ⟨f1, f2⟩ := ho
      have hF' : FrJ T o.2 := fun g hg => (f1 g hg).trans (hF g hg)
      rcases f2 with ⟨f2, f3⟩ | ⟨f2, h', l', u', f3, f4⟩
      · rw [f2, if_neg (fun h => h rfl), Ok_some]
        refine ⟨hF', fun ⟨hx, lx, ux, hall⟩ => ?_⟩
        rw [show len = k + 1 + (len - (k + 1)) by omega] at hall
        obtain ⟨ha, la, ua, hb, lb, ub, hN2, hS2⟩ := ivN_pre hall
        obtain ⟨q1, q2, q3⟩ := ivN_fn hN hN2
        subst q1 q2 q3
        exact f3 ⟨_, _, _, hS2⟩
      · rw [f2, if_pos one_ne, Ok_nm, Ok_some, nI_1]
        exact ⟨hk2, rfl, hF', h', l', u', ⟨h, l, u, hN, f3⟩, f4⟩
  unfold m_X8_fits
  rw [Ok_nm]
  refine ok_seq hloop (fun o ho => ?_)
  cases o with
  | inl w =>
    refine ok_eq (a := (0, w)) rfl ⟨ho.1, Or.inr ⟨rfl, fun ⟨l, u, h3, _⟩ => ho.2 ⟨1, l, u, h3⟩⟩⟩
  | inr w =>
    obtain ⟨hF, l, u, hN, hs⟩ := ho
    obtain ⟨s1, s2, _⟩ := hs.2.2 0 (by omega)
    show Ok (bif inB (nI 0) 12 then (if (lg_cmp (w.2 41 0) b.toInt64) < 0 then (some (0, w)) else (bif inB (nI 0) 12 then (if 0 < (lg_cmp (w.2 42 0) d.toInt64) then (some (0, w)) else (some (1, w))) else none)) else none) _
    rw [inB_nI (by omega) (by omega), cond_true, cond_true]
    by_cases h1 : lg_cmp (w.2 41 0) b.toInt64 < 0
    · rw [if_pos h1, Ok_some]
      have := Int64.lt_iff_toInt_lt.mp ((lg_cmp_lt _ _).mp h1)
      rw [s1, Int32.toInt_toInt64] at this
      refine ⟨hF, Or.inr ⟨rfl, fun ⟨l', u', h3, h4, h5⟩ => ?_⟩⟩
      obtain ⟨_, q2, q3⟩ := ivN_fn hN h3
      rw [q2] at this
      omega
    · rw [if_neg h1]
      have g1 : ¬ (w.2 41 0).toInt < b.toInt64.toInt := fun h3 => h1 ((lg_cmp_lt _ _).mpr (Int64.lt_iff_toInt_lt.mpr h3))
      rw [s1, Int32.toInt_toInt64] at g1
      by_cases h2 : 0 < lg_cmp (w.2 42 0) d.toInt64
      · rw [if_pos h2, Ok_some]
        have := Int64.lt_iff_toInt_lt.mp ((lg_cmp_gt _ _).mp h2)
        rw [s2, Int32.toInt_toInt64] at this
        refine ⟨hF, Or.inr ⟨rfl, fun ⟨l', u', h3, h4, h5⟩ => ?_⟩⟩
        obtain ⟨_, q2, q3⟩ := ivN_fn hN h3
        rw [q3] at this
        omega
      · rw [if_neg h2, Ok_some]
        have g2 : ¬ d.toInt64.toInt < (w.2 42 0).toInt := fun h3 => h2 ((lg_cmp_gt _ _).mpr (Int64.lt_iff_toInt_lt.mpr h3))
        rw [s2, Int32.toInt_toInt64] at g2
        exact ⟨hF, Or.inl ⟨rfl, l, u, hN, by omega, by omega⟩⟩
