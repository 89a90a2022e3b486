/-! ===== change: a number reckoned by a formula ===== -/
theorem p_numCol {n : Nat} {T : MSt} {c m i : Nat} {val : Nat → Int32} (hn : 24 < n) (h6 : m < 6) (hm : T.1 28 0 = nI (m + 1)) (h27 : T.1 27 0 = nI c)
    (hval : ∀ (T' : MSt) r, r < 24 → T.1 14 r = nI c → (∀ g, g ≠ 40 → g ≠ 34 → T'.1 g = T.1 g) → Ok (m_X8_value n T' (nI i) (nI r)) (fun o => FrJ T' o.2 ∧ o.1 = val r)) :
    Ok (lpO (b_X8_numberField_28 n (nI i)) n (T, 0)) (fun T' => (∀ g, g ≠ 40 → g ≠ 34 → T'.1 g = T.1 g) ∧ ∀ r k, r < 24 → k < 6 → r6 (T'.1 34) r k = if k = m ∧ T.1 14 r = nI c then val r else r6 (T.1 34) r k) := by
  refine ok_for2 (N := 24) hn (I := fun q T' => (∀ g, g ≠ 40 → g ≠ 34 → T'.1 g = T.1 g) ∧ ∀ r k, r < 24 → k < 6 → r6 (T'.1 34) r k = if k = m ∧ T.1 14 r = nI c ∧ r < q then val r else r6 (T.1 34) r k) (fun q T' hq hI => ?_) ⟨fun _ _ _ => rfl, fun r k hr hk => by rw [if_neg (by omega)]⟩
  obtain ⟨hF, h34⟩ := hI
  unfold b_X8_numberField_28
  dsimp only
  rw [Ok_ite]
  refine ⟨fun h => ?_, fun h => ?_⟩
  · have e : q = 24 := ge_eq (by decide) hq h
    rw [Ok_some]
    subst e
    refine ⟨hF, fun r k hr hk => ?_⟩
    rw [h34 r k hr hk]
    have : (k = m ∧ T.1 14 r = nI c ∧ r < 24) ↔ (k = m ∧ T.1 14 r = nI c) := ⟨fun h => ⟨h.1, h.2.1⟩, fun h => ⟨h.1, h.2, hr⟩⟩
    simp only [this]
  · have hq2 : q < 24 := nge_lt (by decide) hq h
    rw [Ok_bif, nI_clamp (by omega), hF 14 (by omega) (by omega), hF 27 (by omega) (by omega), h27, Ok_ite]
    refine ⟨inB_nI hq2 (by omega), fun h1 => ?_, fun h1 => ?_⟩
    · rw [Ok_nm, Ok_some, nI_1]
      refine ⟨hq2, rfl, hF, fun r k hr hk => ?_⟩
      rw [h34 r k hr hk]
      have : (k = m ∧ T.1 14 r = nI c ∧ r < q + 1) ↔ (k = m ∧ T.1 14 r = nI c ∧ r < q) := ⟨fun h => ⟨h.1, h.2.1, by
        have : r ≠ q := fun e => h1 (by rw [← e]; exact h.2.1)
        omega⟩, fun h => ⟨h.1, h.2.1, by omega⟩⟩
      simp only [this]
    · have h1 : T.1 14 q = nI c := Decidable.not_not.mp h1
      refine ok_seq (hval T' q hq2 h1 hF) (fun o ho => ?_)
      rw [hF 28 (by omega) (by omega), hm, ix6, show 6 * q + (m + 1) = (6 * q + m) + 1 by omega, nI_pred, Ok_bif, nI_clamp (by omega)]
      refine ⟨inB_nI (by omega) (by omega), ?_⟩
      rw [Ok_nm, Ok_nm, Ok_some, nI_1]
      refine ⟨hq2, rfl, fun g g1 g2 => ?_, fun r k hr hk => ?_⟩
      · funext l
        rw [mI_at, if_neg (fun h => g2 h.1), ho.1 g g1, hF g g1 g2]
      · show (mI o.2 34 (6 * q + m) o.1).1 34 (6 * r + k) = _
        rw [mI_at, ho.1 34 (by omega)]
        by_cases e : r = q ∧ k = m
        · rw [if_pos ⟨rfl, by omega⟩, if_pos ⟨e.2, by rw [e.1]; exact h1, by omega⟩, ho.2, e.1]
        · rw [if_neg (by omega)]
          show r6 (T'.1 34) r k = _
          rw [h34 r k hr hk]
          have : (k = m ∧ T.1 14 r = nI c ∧ r < q + 1) ↔ (k = m ∧ T.1 14 r = nI c ∧ r < q) := ⟨fun h => ⟨h.1, h.2.1, by omega⟩, fun h => ⟨h.1, h.2.1, by omega⟩⟩
          simp only [this]
/-- the script's formula fits -/
def Fits (B : MSt) (c m0 : Nat) (f : Nat → Int32) (len : Nat) (b d : Int32) : Prop := Fit (gR m0 (r6 (B.1 5) c) (r6 (B.1 6) c)) (gV m0 (r6 (B.1 5) c) (r6 (B.1 7) c)) (gV m0 (r6 (B.1 5) c) (r6 (B.1 8) c)) f len b.toInt d.toInt
/-- what is reckoned for each record of class c -/
def ValsOf (B : MSt) (c m0 : Nat) (f : Nat → Int32) (len : Nat) (b d : Int32) (val : Nat → Int32) : Prop := ∀ r, r < 24 → B.1 14 r = nI c → (b ≤ val r ∧ val r ≤ d) ∧ ∃ v, wN (gR m0 (r6 (B.1 5) c) (r6 (B.1 6) c)) (gV m0 (r6 (B.1 5) c) (r6 (B.1 16) r)) f len 1 v ∧ (val r).toInt = v 0
theorem base_sh {K : Nat} {B : MSt} {c m0 : Nat} (hB : MI K B.1) (hc : c < 4) (hm0 : m0 ≤ 6) (hB4 : B.1 4 c = nI m0) : Sh K m0 (r6 (B.1 5) c) (r6 (B.1 6) c) (r6 (B.1 7) c) (r6 (B.1 8) c) := by
  obtain ⟨q, hq, hS⟩ := hB.2.1 c hc
  have : m0 = q := (nI_eq (by omega) (by have := hS.1; omega)).mp (hB4.symm.trans hq)
  rw [this]
  exact hS
theorem base_val {K : Nat} {B : MSt} {c m0 r k : Nat} (hB : MI K B.1) (hc : c < 4) (hm0 : m0 ≤ 6) (hB4 : B.1 4 c = nI m0) (hr : r < 24) (h14 : B.1 14 r = nI c) (hk : k < m0) (h0 : r6 (B.1 6) c k = 0) : r6 (B.1 7) c k ≤ r6 (B.1 16) r k ∧ r6 (B.1 16) r k ≤ r6 (B.1 8) c k := hB.2.2.2.1.1 r c k ⟨hr, hc, h14, ⟨m0, hm0, hB4, hk⟩, h0⟩
theorem base_nf {K : Nat} {B : MSt} {c m0 r k : Nat} (hB : MI K B.1) (hc : c < 4) (hm0 : m0 ≤ 6) (hB4 : B.1 4 c = nI m0) (hr : r < 24) (h14 : B.1 14 r = nI c) (hk : k < m0) (h0 : r6 (B.1 6) c k = 0) : nf (r6 (B.1 16) r k).toInt := by
  obtain ⟨v1, v2⟩ := base_val hB hc hm0 hB4 hr h14 hk h0
  have := sh_nf (base_sh hB hc hm0 hB4) hk h0
  simp only [Int32.le_iff_toInt_le] at v1 v2
  unfold nf at this ⊢
  omega
theorem vals_ex {K : Nat} {B : MSt} {c m0 len : Nat} {f : Nat → Int32} {b d : Int32} (hB : MI K B.1) (hc : c < 4) (hm0 : m0 ≤ 6) (hB4 : B.1 4 c = nI m0) (hbd : b ≤ d ∧ (-1000000) ≤ b ∧ d ≤ 1000000) (hfit : Fits B c m0 f len b d) : ∃ val, ValsOf B c m0 f len b d val := by
  obtain ⟨l, u, hN, hl, hu⟩ := hfit
  have hSh := base_sh hB hc hm0 hB4
  have : ∀ r, ∃ x : Int32, r < 24 → B.1 14 r = nI c → (b ≤ x ∧ x ≤ d) ∧ ∃ v, wN (gR m0 (r6 (B.1 5) c) (r6 (B.1 6) c)) (gV m0 (r6 (B.1 5) c) (r6 (B.1 16) r)) f len 1 v ∧ x.toInt = v 0 := fun r => by
    by_cases hr : r < 24 ∧ B.1 14 r = nI c
    · obtain ⟨v, hv, hin⟩ := run_in (V := gV m0 (r6 (B.1 5) c) (r6 (B.1 16) r)) (fun w hR => by
        obtain ⟨k, k1, k2, k3⟩ := hR
        unfold gV
        rw [plc_eq hSh.2.1 k1 k2, nI_clamp (by omega)]
        have := base_val hB hc hm0 hB4 hr.1 hr.2 k1 k3
        simp only [Int32.le_iff_toInt_le] at this
        exact this) hN
      have h0 := hin 0 (by omega)
      obtain ⟨_, r2, r3⟩ := hbd
      simp only [Int32.le_iff_toInt_le, Int32.reduceToInt] at r2 r3
      have e : (Int32.ofInt (v 0)).toInt = v 0 := by
        rw [Int32.toInt_ofInt]
        show Int.bmod (v 0) 4294967296 = v 0
        exact Int.bmod_eq_of_le (by omega) (by omega)
      refine ⟨Int32.ofInt (v 0), fun _ _ => ⟨⟨?_, ?_⟩, v, hv, e⟩⟩
      · rw [Int32.le_iff_toInt_le, e]; omega
      · rw [Int32.le_iff_toInt_le, e]; omega
    · exact ⟨0, fun h1 h2 => absurd ⟨h1, h2⟩ hr⟩
  exact Classical.axiomOfChoice this
theorem wN_cong {R : Int32 → Prop} {V V' : Int32 → Int} {f : Nat → Int32} (he : ∀ w, R w → V w = V' w) : ∀ {k h : Nat} {v : Nat → Int}, wN R V f k h v → wN R V' f k h v
  | 0, h, v, a => a
  | k + 1, h, v, ⟨h0, v0, a1, a2⟩ => ⟨h0, v0, wN_cong he a1, ivS_cong (fun hR => ⟨he _ hR, he _ hR⟩) a2⟩
theorem fits_eq {B T : MSt} {c m0 len : Nat} {f : Nat → Int32} {b d : Int32} (e5 : T.1 5 = B.1 5) (e6 : T.1 6 = B.1 6) (e7 : T.1 7 = B.1 7) (e8 : T.1 8 = B.1 8) : Fit (fR T c m0) (fLo T c m0) (fHi T c m0) f len b.toInt d.toInt ↔ Fits B c m0 f len b d := by
  unfold fR fLo fHi Fits gR gV
  rw [e5, e6, e7, e8]
theorem num_val {n : Nat} {K : Nat} {B T T' : MSt} {c m0 m i len r : Nat} {b d : Int32} {f val : Nat → Int32} (hn : 24 < n) (hB : MI K B.1) (hB4 : B.1 4 c = nI m0) (h : JM K B T c m0 m) (hc : c < 4) (hm0 : m0 ≤ 6) (hi6 : i < 6) (hbd : b ≤ d ∧ (-1000000) ≤ b ∧ d ≤ 1000000) (hl : len ≤ 12) (h24 : B.1 24 i = nI len) (hf : ∀ k, k < len → B.1 25 (12 * i + k) = f k) (hW : ∀ k, k < len → isW (f k)) (hr : rgt f len = some 1) (hval : ValsOf B c m0 f len b d val) (hr24 : r < 24) (h14 : T.1 14 r = nI c) (q : ∀ g, g < 28 → T'.1 g = T.1 g) : Ok (m_X8_value n T' (nI i) (nI r)) (fun o => FrJ T' o.2 ∧ o.1 = val r) := by
  have hShB := base_sh hB hc hm0 hB4
  obtain ⟨hM, hm6, hm, h27, h26, hfr, hcl, hcv, -⟩ := id h
  have fB : ∀ g, (g < 14 ∨ (17 ≤ g ∧ g ≤ 25)) → T'.1 g = B.1 g := fun g hg => (q g (by omega)).trans (hfr.1 g (by omega))
  have e5 := fB 5 (by omega)
  have e6 := fB 6 (by omega)
  have e7 := fB 7 (by omega)
  have e8 := fB 8 (by omega)
  have hB14 := (hcl r hr24).mp h14
  obtain ⟨⟨v1, v2⟩, v, hv, ev⟩ := hval r hr24 hB14
  have q16 : ∀ k, k < 6 → r6 (T'.1 16) r k = r6 (B.1 16) r k := fun k hk => by rw [q 16 (by omega)]; exact (hcv r k hr24 hB14 hk).2
  simp only [Int32.le_iff_toInt_le, Int32.reduceToInt] at v1 v2
  obtain ⟨_, r2, r3⟩ := hbd
  simp only [Int32.le_iff_toInt_le, Int32.reduceToInt] at r2 r3
  have hv' : wN (gR m0 (r6 (T'.1 5) c) (r6 (T'.1 6) c)) (gV m0 (r6 (T'.1 5) c) (r6 (T'.1 16) r)) f len 1 v := by
    rw [e5, e6]
    refine wN_cong (fun w ⟨k, k1, k2, k3⟩ => ?_) hv
    unfold gV
    rw [plc_eq hShB.2.1 k1 k2, nI_clamp (by omega), q16 k (by omega)]
  refine ok_mono (p_value (n := n) (T := T') (K := K) (c := c) (m0 := m0) (i := i) (r := r) (by omega) hc hi6 hr24 (by rw [q 27 (by omega)]; exact h27) (by rw [fB 4 (by omega)]; exact hB4) (by rw [e5, e6, e7, e8]; exact hShB) hl (by rw [fB 24 (by omega)]; exact h24) (by rw [fB 25 (by omega)]; exact hf) hW hr (fun k hk h0 => ?_) hv' (by omega) (by omega)) (fun o ho => ⟨ho.1, Int32.toInt_inj.mp (ho.2.trans ev.symm)⟩)
  rw [e6] at h0
  rw [q16 k (by omega)]
  exact base_nf hB hc hm0 hB4 hr24 hB14 hk h0
theorem A_number {n : Nat} {K : Nat} {B T : MSt} {c m0 m x i len : Nat} {b d : Int32} {f : Nat → Int32} (hn : 24 < n) (hB : MI K B.1) (hB4 : B.1 4 c = nI m0) (h : JM K B T c m0 m) (hc : c < 4) (hm0 : m0 ≤ 6) (hx : x < 10) (hi6 : i < 6) (hbd : b ≤ d ∧ (-1000000) ≤ b ∧ d ≤ 1000000) (hl : len ≤ 12) (h24 : B.1 24 i = nI len) (hf : ∀ k, k < len → B.1 25 (12 * i + k) = f k) (hW : ∀ k, k < len → isW (f k)) (hr : rgt f len = some 1) :
    (∃ T', m_X8_numberField n T (nI i) (nI x) b d = some (0, T') ∧ FrT B T' ∧ ¬ (Fits B c m0 f len b d ∧ (∀ k, k < m → T.1 29 k ≠ nI x) ∧ m < 6)) ∨
    (Fits B c m0 f len b d ∧ (∀ k, k < m → T.1 29 k ≠ nI x) ∧ m < 6 ∧ ∃ T' val, ValsOf B c m0 f len b d val ∧ m_X8_numberField n T (nI i) (nI x) b d = some (1, T') ∧ JM K B T' c m0 (m + 1) ∧ (∀ g, g < 28 ∨ (34 < g ∧ g < 40) → T'.1 g = T.1 g) ∧ T'.1 28 0 = nI (m + 1) ∧ (∀ k, T'.1 29 k = if k = m then nI x else T.1 29 k) ∧ (∀ k, T'.1 30 k = if k = m then 0 else T.1 30 k) ∧ (∀ k, T'.1 31 k = if k = m then b else T.1 31 k) ∧ (∀ k, T'.1 32 k = if k = m then d else T.1 32 k) ∧ (∀ k, T'.1 33 k = if k = m then -1 else T.1 33 k) ∧ ∀ r k, r < 24 → k < 6 → r6 (T'.1 34) r k = if k = m ∧ T.1 14 r = nI c then val r else r6 (T.1 34) r k) := by
  have hSh := JM_sh h hc
  have hShB := base_sh hB hc hm0 hB4
  obtain ⟨hM, hm6, hm, h27, h26, hfr, hcl, hcv, -⟩ := id h
  have fB : ∀ g, (g < 14 ∨ (17 ≤ g ∧ g ≤ 25)) → T.1 g = B.1 g := fun g hg => hfr.1 g (by omega)
  have e5 := fB 5 (by omega)
  have e6 := fB 6 (by omega)
  have e7 := fB 7 (by omega)
  have e8 := fB 8 (by omega)
  obtain ⟨o, ho, hF, ho2⟩ := p_fits (n := n) (T := T) (K := K) (c := c) (m0 := m0) (i := i) (b := b) (d := d) (by omega) hc hi6 h27 (by rw [fB 4 (by omega)]; exact hB4) (by rw [e5, e6, e7, e8]; exact hShB) hl (by rw [fB 24 (by omega)]; exact h24) (by rw [fB 25 (by omega)]; exact hf) hW hr
  rw [fits_eq e5 e6 e7 e8] at ho2
  have frT : FrT B o.2 := ⟨fun g hg => by rw [hF g (by omega)]; exact hfr.1 g hg, fun r hr => by rw [hF 14 (by omega), hF 15 (by omega)]; exact hfr.2.1 r hr, fun l hl => by rw [hF 16 (by omega)]; exact hfr.2.2 l hl⟩
  unfold m_X8_numberField
  rw [ho, Option.bind_some]
  rcases ho2 with ⟨e1, hfit⟩ | ⟨e0, hno⟩
  · rw [e1, if_neg one_ne, p_append (by omega) hm6 (by rw [hF 28 (by omega)]; exact hm), hF 29 (by omega)]
    by_cases hok : plc (T.1 29) m (nI x) = -1 ∧ m < 6
    · have hne : ∀ k, k < m → T.1 29 k ≠ nI x := by
        rcases plc_nn (f := T.1 29) (x := nI x) hm6 with ⟨h1, h2⟩ | ⟨k0, hk0, h1, h2, h3, h4⟩
        · exact h2
        · exact absurd hok.1 h3
      obtain ⟨val, hval⟩ := vals_ex hB hc hm0 hB4 hbd hfit
      obtain ⟨d29, d30, d31, d32, d33, d28, dfr⟩ := dA_at (T := o.2) (m := m) (x1 := nI x) (x2 := 0) (x3 := b) (x4 := d)
      rw [hF 29 (by omega)] at d29
      rw [hF 30 (by omega)] at d30
      rw [hF 31 (by omega)] at d31
      rw [hF 32 (by omega)] at d32
      rw [hF 33 (by omega)] at d33
      have dT : ∀ g, g < 28 ∨ (33 < g ∧ g ≠ 40) → (dA o.2 m (nI x) 0 b d).1 g = T.1 g := fun g hg => by rw [dfr g (by omega), hF g (by omega)]
      obtain ⟨T', hT', g1, g2⟩ := p_numCol (n := n) (T := dA o.2 m (nI x) 0 b d) (c := c) (m := m) (i := i) (val := val) hn hok.2 d28 (by rw [dT 27 (by omega)]; exact h27) (fun T' r hr24 h14 hfr' => by
        rw [dT 14 (by omega)] at h14
        have q : ∀ g, g < 28 → T'.1 g = T.1 g := fun g hg => by rw [hfr' g (by omega) (by omega), dT g (by omega)]
        exact num_val hn hB hB4 h hc hm0 hi6 hbd hl h24 hf hW hr hval hr24 h14 q)
      have fr' : ∀ g, g < 28 ∨ (34 < g ∧ g < 40) → T'.1 g = T.1 g := fun g hg => by rw [g1 g (by omega) (by omega), dT g (by omega)]
      have t28 : T'.1 28 0 = nI (m + 1) := by rw [g1 28 (by omega) (by omega)]; exact d28
      have t29 : ∀ k, T'.1 29 k = if k = m then nI x else T.1 29 k := fun k => by rw [g1 29 (by omega) (by omega)]; exact d29 k
      have t30 : ∀ k, T'.1 30 k = if k = m then 0 else T.1 30 k := fun k => by rw [g1 30 (by omega) (by omega)]; exact d30 k
      have t31 : ∀ k, T'.1 31 k = if k = m then b else T.1 31 k := fun k => by rw [g1 31 (by omega) (by omega)]; exact d31 k
      have t32 : ∀ k, T'.1 32 k = if k = m then d else T.1 32 k := fun k => by rw [g1 32 (by omega) (by omega)]; exact d32 k
      have t33 : ∀ k, T'.1 33 k = if k = m then -1 else T.1 33 k := fun k => by rw [g1 33 (by omega) (by omega)]; exact d33 k
      have t34 : ∀ r k, r < 24 → k < 6 → r6 (T'.1 34) r k = if k = m ∧ T.1 14 r = nI c then val r else r6 (T.1 34) r k := fun r k hr hk => by
        have := g2 r k hr hk
        rw [dT 14 (by omega), dT 34 (by omega)] at this
        exact this
      refine Or.inr ⟨hfit, hne, hok.2, T', val, hval, ?_, ?_, fr', t28, t29, t30, t31, t32, t33, t34⟩
      · rw [if_pos hok, Option.bind_some, if_pos one_ne]
        show (lpO (b_X8_numberField_28 n (nI i)) n (dA o.2 m (nI x) 0 b d, 0)).bind _ = _
        rw [hT']
        rfl
      · refine JM_reshape h hc hm0 fr' t28 (Sh_snoc hSh hok.2 hx hne t29 t30 t31 t32 (Or.inl ⟨rfl, hbd⟩)) (ψ := fun k => k) (fs := fun k => k = m) (fun k hk => ?_) (fun k hk _ k2 hk2 _ e => e) (fun k r hk h0 hr h14 => ?_) (fun k hk h2' => ⟨k, by omega, by omega, rfl⟩)
        · by_cases e : k = m
          · refine Or.inl ⟨e, (t33 k).trans (if_pos e), ?_, fun e1 => ?_⟩
            · rw [t30 k, if_pos e]; decide
            · rw [t30 k, if_pos e] at e1
              exact absurd e1 (by decide)
          · refine Or.inr ⟨e, by omega, (t30 k).trans (if_neg e), (t33 k).trans (if_neg e), fun _ => ⟨(t31 k).trans (if_neg e), fun r hr h14 => ?_⟩⟩
            rw [t34 r k hr (by omega), if_neg (fun h => e h.1)]
        · by_cases e : k = m
          · rw [t31 k, t32 k, t34 r k hr (by omega), if_pos e, if_pos e, if_pos ⟨e, (hcl r hr).mpr h14⟩]
            exact (hval r hr h14).1
          · rw [t30 k, if_neg e] at h0
            rw [t31 k, t32 k, t34 r k hr (by omega), if_neg e, if_neg e, if_neg (fun h => e h.1)]
            exact (JM_val h hc hr h14 (by omega)).1 h0
    · refine Or.inl ⟨o.2, ?_, frT, fun ⟨_, q1, q2⟩ => hok ⟨plc_none q1, q2⟩⟩
      rw [if_neg hok, Option.bind_some]
      rfl
  · rw [e0, if_pos rfl]
    exact Or.inl ⟨o.2, rfl, frT, fun ⟨q, _⟩ => hno q⟩
