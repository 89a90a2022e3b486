/-! ===== change: fields are taken out one by one ===== -/
theorem cn_and_ne {p : Nat → Bool} {f0 : Nat} (hp : p f0 = true) : ∀ i, cn (fun i => p i && !decide (i = f0)) i = if i ≤ f0 then cn p i else cn p i - 1
  | 0 => by rw [if_pos (by omega)]; rfl
  | i + 1 => by
    have ih := cn_and_ne hp i
    show cn (fun i => p i && !decide (i = f0)) i + (if (p i && !decide (i = f0)) = true then 1 else 0) = _
    rw [ih]
    have e1 : cn p (i + 1) = cn p i + if p i = true then 1 else 0 := rfl
    by_cases h1 : i = f0
    · subst h1
      rw [if_pos (by omega), if_neg (show ¬ i + 1 ≤ i by omega), e1, hp]
      simp
    · by_cases h2 : i < f0
      · rw [if_pos (show i ≤ f0 by omega), if_pos (show i + 1 ≤ f0 by omega), e1]
        simp [h1]
      · rw [if_neg (show ¬ i ≤ f0 by omega), if_neg (show ¬ i + 1 ≤ f0 by omega), e1]
        have : 0 < cn p i := by
          have := rk_lt (p := p) (i := f0) (m := i) (by omega) hp
          omega
        have e2 : (p i && !decide (i = f0)) = p i := by simp [h1]
        rw [e2]
        split <;> omega
theorem RemM_comp {T T' T'' : MSt} {m f0 : Nat} {p : Nat → Bool} (h : RemM T T' m p) (h' : RemM T' T'' (cn p m) (fun i => !decide (i = cn p f0))) (hf : f0 < m) (hp : p f0 = true) : RemM T T'' m (fun i => p i && !decide (i = f0)) := by
  obtain ⟨a1, a2, a3, a4⟩ := h
  obtain ⟨b1, b2, b3, b4⟩ := h'
  have lt0 := rk_lt hf hp
  have key : ∀ i, i < m → (p i && !decide (i = f0)) = true → p i = true ∧ cn p i < cn p m ∧ (!decide (cn p i = cn p f0)) = true ∧ cn (fun i => !decide (i = cn p f0)) (cn p i) = cn (fun i => p i && !decide (i = f0)) i := fun i hi hk => by
    simp only [Bool.and_eq_true, Bool.not_eq_true', decide_eq_false_iff_not] at hk
    obtain ⟨k1, k2⟩ := hk
    refine ⟨k1, rk_lt hi k1, ?_, ?_⟩
    · simp only [Bool.not_eq_true', decide_eq_false_iff_not]
      exact fun e => k2 (rk_inj k1 hp e)
    · rw [cn_ne, cn_and_ne hp]
      by_cases h2 : i ≤ f0
      · rw [if_pos h2, if_pos (cn_mono p h2)]
      · rw [if_neg h2]
        have : cn p f0 < cn p i := rk_lt (by omega) hp
        rw [if_neg (by omega)]
  refine ⟨fun g hg => by rw [b1 g hg, a1 g hg], ?_, fun g i g1 g2 hi hk => ?_, fun r i hr hi hk => ?_⟩
  · rw [b2, cn_ne, cn_and_ne hp, if_neg (by omega), if_neg (by omega)]
  · obtain ⟨k1, k2, k3, k4⟩ := key i hi hk
    rw [← k4, b3 g (cn p i) g1 g2 k2 k3, a3 g i g1 g2 hi k1]
  · obtain ⟨k1, k2, k3, k4⟩ := key i hi hk
    rw [← k4, b4 r (cn p i) hr k2 k3, a4 r i hr hi k1]
theorem RemM_cong {T T' : MSt} {m : Nat} {p q : Nat → Bool} (h : RemM T T' m p) (he : ∀ i, i < m → p i = q i) : RemM T T' m q := by
  have hc : ∀ i, i ≤ m → cn p i = cn q i := fun i hi => cn_cong (fun k hk => he k (by omega))
  obtain ⟨a1, a2, a3, a4⟩ := h
  refine ⟨a1, by rw [← hc m (Nat.le_refl _)]; exact a2, fun g i g1 g2 hi hk => ?_, fun r i hr hi hk => ?_⟩
  · rw [← hc i (by omega)]; exact a3 g i g1 g2 hi (by rw [he i hi]; exact hk)
  · rw [← hc i (by omega)]; exact a4 r i hr hi (by rw [he i hi]; exact hk)
theorem cn_true : ∀ m, cn (fun _ => true) m = m
  | 0 => rfl
  | m + 1 => by
    show cn (fun _ => true) m + _ = _
    rw [cn_true m, if_pos rfl]
theorem RemM_refl {T : MSt} {m : Nat} (hm : T.1 28 0 = nI m) : RemM T T m (fun _ => true) :=
  ⟨fun _ _ => rfl, by rw [cn_true]; exact hm, fun g i _ _ _ _ => by rw [cn_true], fun r i _ _ _ => by rw [cn_true]⟩
/-- what is kept when the first k fields of class d are taken out -/
def kpn (T : MSt) (d m : Nat) : Nat → Nat → Bool
  | 0, _ => true
  | k + 1, i => kpn T d m k i && !decide (i = fdP T d m k)
theorem kpn_iff {T : MSt} {d m i : Nat} : ∀ k, (kpn T d m k i = true ↔ ∀ j, j < k → i ≠ fdP T d m j)
  | 0 => ⟨fun _ j hj => absurd hj (Nat.not_lt_zero _), fun _ => rfl⟩
  | k + 1 => by
    show (kpn T d m k i && !decide (i = fdP T d m k)) = true ↔ _
    simp only [Bool.and_eq_true, Bool.not_eq_true', decide_eq_false_iff_not, kpn_iff k]
    refine ⟨fun ⟨h1, h2⟩ j hj => ?_, fun h => ⟨fun j hj => h j (by omega), h k (by omega)⟩⟩
    rcases Nat.lt_succ_iff_lt_or_eq.mp hj with h5 | h5
    · exact h1 j h5
    · rw [h5]; exact h2
theorem rem_names {T T' : MSt} {m K : Nat} {p : Nat → Bool} (h : RemM T T' m p) (hSh : Sh K m (T.1 29) (T.1 30) (T.1 31) (T.1 32)) : ∀ a, a < cn p m → ∀ b, b < cn p m → T'.1 29 a = T'.1 29 b → a = b := fun a ha b hb e => by
  obtain ⟨i, i1, i2, i3⟩ := rk_sur ha
  obtain ⟨j, j1, j2, j3⟩ := rk_sur hb
  rw [← i3, ← j3, h.2.2.1 29 i (by omega) (by omega) i1 i2, h.2.2.1 29 j (by omega) (by omega) j1 j2] at e
  rw [← i3, ← j3, hSh.2.1 i i1 j j1 e]
theorem p_takeAll {n : Nat} {T T2 : MSt} {K d p m : Nat} {x1 : Int32} (hn : 24 < n) (hd : d < 4) (hp : T.1 4 d = nI p) (hShd : Sh K p (r6 (T.1 5) d) (r6 (T.1 6) d) (r6 (T.1 7) d) (r6 (T.1 8) d)) (hSh : Sh K m (T.1 29) (T.1 30) (T.1 31) (T.1 32)) (hG : ∀ k, k < p → GoodF T d m k) (hm : T.1 28 0 = nI m) (h2 : ∀ g, (4 ≤ g ∧ g ≤ 5) ∨ (28 ≤ g ∧ g ≤ 34) → T2.1 g = T.1 g) : Ok (lpO (b_X8_splitField_164 n x1 (nI d)) n (T2, 0)) (fun T' => RemM T2 T' m (kpn T d m p)) := by
  have hp6 := hShd.1
  have hm6 := hSh.1
  have hSh2 : Sh K m (T2.1 29) (T2.1 30) (T2.1 31) (T2.1 32) := by rw [h2 29 (by omega), h2 30 (by omega), h2 31 (by omega), h2 32 (by omega)]; exact hSh
  refine ok_for2 (N := p) (by omega) (I := fun k T' => RemM T2 T' m (kpn T d m k)) (fun k T' hk hI => ?_) (RemM_cong (RemM_refl (by rw [h2 28 (by omega)]; exact hm)) (fun i hi => rfl))
  unfold b_X8_splitField_164
  dsimp only
  rw [Ok_bif, nI_clamp (by omega), hI.1 4 (by omega), h2 4 (by omega), hp, Ok_ite]
  refine ⟨inB_nI hd (by omega), fun h3 => ?_, fun h3 => ?_⟩
  · rw [Ok_some]
    have ek := ge_eq (by omega) hk h3
    subst ek
    exact hI
  · have hk2 := nge_lt (by omega) hk h3
    obtain ⟨f1, f2, f3, -⟩ := fdP_good hSh (hG k hk2)
    have hkeep : kpn T d m k (fdP T d m k) = true := (kpn_iff k).mpr (fun j hj e => by
      obtain ⟨-, -, g3, -⟩ := fdP_good hSh (hG j (by omega))
      rw [← e, f3] at g3
      have := hShd.2.1 k hk2 j (by omega) g3
      omega)
    have cle := cn_le (kpn T d m k) m
    have clt := rk_lt f1 hkeep
    have hpl : plc (T'.1 29) (cn (kpn T d m k) m) (r6 (T.1 5) d k) = nI (cn (kpn T d m k) (fdP T d m k)) := plc_eq (rem_names hI hSh2) clt (by
      rw [hI.2.2.1 29 _ (by omega) (by omega) f1 hkeep, h2 29 (by omega), f3])
    rw [Ok_bif, ix6, nI_clamp (by omega), hI.1 5 (by omega), h2 5 (by omega), p_findDraft (by omega) (by omega) hI.2.1]
    refine ⟨inB_nI (by omega) (by omega), ?_⟩
    show Ok ((some (plc (T'.1 29) (cn (kpn T d m k) m) (r6 (T.1 5) d k))).bind _) _
    rw [hpl, Ok_bind, Ok_some, p_takeField hn (by omega) hI.2.1 clt, Ok_bind, Ok_some, Ok_nm, Ok_some, nI_1]
    exact ⟨hk2, rfl, RemM_comp hI (tkF_rem (by omega) clt) f1 hkeep⟩
/-- the draft's fields whose names are not in the set -/
def kM (T : MSt) (s i : Nat) : Bool := !bt s (T.1 29 i).toNatClampNeg
theorem kM_kpn {T : MSt} {K d p m s : Nat} (hShd : Sh K p (r6 (T.1 5) d) (r6 (T.1 6) d) (r6 (T.1 7) d) (r6 (T.1 8) d)) (hSh : Sh K m (T.1 29) (T.1 30) (T.1 31) (T.1 32)) (hG : ∀ k, k < p → GoodF T d m k) (hS : SetOk T d p s) : ∀ i, i < m → kpn T d m p i = kM T s i := fun i hi => by
  obtain ⟨⟨a, ha, ea⟩, -⟩ := hSh.2.2 i hi
  have e : (T.1 29 i).toNatClampNeg = a := by rw [ea, nI_clamp (by omega)]
  have h1 : kpn T d m p i = true ↔ kM T s i = true := by
    rw [kpn_iff]
    unfold kM
    rw [e]
    simp only [Bool.not_eq_true']
    refine ⟨fun h => ?_, fun h j hj ej => ?_⟩
    · cases hb : bt s a
      · rfl
      · obtain ⟨k, k1, k2⟩ := (hS a ha).mp hb
        obtain ⟨f1, f2, f3, -⟩ := fdP_good hSh (hG k k1)
        exact absurd (hSh.2.1 i hi _ f1 (ea.trans (k2.symm.trans f3.symm))) (h k k1)
    · obtain ⟨f1, f2, f3, -⟩ := fdP_good hSh (hG j hj)
      rw [← ej, ea] at f3
      rw [(hS a ha).mpr ⟨j, hj, f3.symm⟩] at h
      cases h
  cases h2 : kpn T d m p i <;> cases h3 : kM T s i
  · rfl
  · rw [h2, h3] at h1; exact absurd (h1.mpr rfl) (by decide)
  · rw [h2, h3] at h1; exact absurd (h1.mp rfl) (by decide)
  · rfl
theorem p_lineCol {n : Nat} {T : MSt} {m : Nat} (hn : 24 < n) (h6 : m < 6) (hm : T.1 28 0 = nI (m + 1)) : lpO (b_X8_splitField_234 n) n (T, 0) = some (mR T 34 (fun l => if l < 144 ∧ l % 6 = m then T.1 43 (l / 6) else T.1 34 l)) := by
  refine ok_get (ok_for2 (N := 24) hn (I := fun r S => S = mR T 34 (fun l => if l < 6 * r ∧ l % 6 = m then T.1 43 (l / 6) else T.1 34 l)) (fun r S hr hS => ?_) (mR_self T 34 (funext fun l => if_neg (fun h => by omega))))
  have e28 : S.1 28 0 = nI (m + 1) := by rw [hS]; exact hm
  have e43 : S.1 43 = T.1 43 := by rw [hS]; rfl
  unfold b_X8_splitField_234
  dsimp only
  rw [e28, e43, ix6, show 6 * r + (m + 1) = (6 * r + m) + 1 by omega, nI_pred, Ok_ite]
  refine ⟨fun h => ?_, fun h => ?_⟩
  · have e : r = 24 := ge_eq (by decide) hr h
    rw [Ok_some]
    subst e
    exact hS
  · have hr2 : r < 24 := nge_lt (by decide) hr h
    rw [Ok_bif, Ok_bif, Ok_nm, Ok_nm, Ok_some, nI_clamp (by omega), nI_clamp (by omega)]
    refine ⟨inB_nI (by omega) (by omega), inB_nI (by omega) (by omega), hr2, nI_1 r, ?_⟩
    show mI S 34 (6 * r + m) (T.1 43 r) = _
    rw [hS]
    refine mI_mR _ _ _ _ _ _ (fun l => ?_)
    by_cases e : l = 6 * r + m
    · rw [if_pos e, if_pos (by omega), show l / 6 = r by omega]
    · rw [if_neg e]
      have : (l < 6 * (r + 1) ∧ l % 6 = m) ↔ (l < 6 * r ∧ l % 6 = m) := by omega
      simp only [this]
