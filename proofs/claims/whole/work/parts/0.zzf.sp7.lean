/-! ===== change: a class is split: the reference's step ===== -/
def SplM (T T' : MSt) (c d p m s : Nat) (x : Int32) (ln : Nat → Nat) : Prop :=
  (∀ g, (g < 14 ∨ (16 < g ∧ g < 28) ∨ (36 < g ∧ g < 43)) → T'.1 g = T.1 g) ∧
  (∀ r, r < 24 → T.1 14 r = nI c → ln r < 24 ∧ T.1 14 (ln r) = -1 ∧ T'.1 14 (ln r) = nI d ∧ T'.1 15 (ln r) = T.1 2 d ∧ ∀ k, k < p → r6 (T'.1 16) (ln r) k = r6 (T.1 34) r (fdP T d m k)) ∧
  (∀ r, r < 24 → T.1 14 r = nI c → ∀ r', r' < 24 → T.1 14 r' = nI c → ln r = ln r' → r = r') ∧
  (∀ y, (∀ r, r < 24 → T.1 14 r = nI c → y ≠ ln r) → T'.1 14 y = T.1 14 y ∧ T'.1 15 y = T.1 15 y ∧ ∀ k, k < 6 → r6 (T'.1 16) y k = r6 (T.1 16) y k) ∧
  cn (kM T s) m < 6 ∧ T'.1 28 0 = nI (cn (kM T s) m + 1) ∧
  (∀ g i, 29 ≤ g → g ≤ 33 → i < m → kM T s i = true → T'.1 g (cn (kM T s) i) = T.1 g i) ∧
  (T'.1 29 (cn (kM T s) m) = x ∧ T'.1 30 (cn (kM T s) m) = 2 ∧ T'.1 31 (cn (kM T s) m) = nI d ∧ T'.1 32 (cn (kM T s) m) = nI d ∧ T'.1 33 (cn (kM T s) m) = -1) ∧
  (∀ r i, r < 24 → i < m → kM T s i = true → r6 (T'.1 34) r (cn (kM T s) i) = r6 (T.1 34) r i) ∧
  (∀ r, r < 24 → T.1 14 r = nI c → r6 (T'.1 34) r (cn (kM T s) m) = nI (ln r)) ∧
  T'.1 35 0 = 1 ∧ T'.1 36 0 = (T.1 36 0 ||| (1 <<< (nI d &&& 31))) ∧
  cn (fun r => !decide (T'.1 14 r = -1)) 24 = cn (fun r => !decide (T.1 14 r = -1)) 24 + cn (fun r => decide (T.1 14 r = nI c)) 24
theorem p_split {n : Nat} {T : MSt} {K c d p m s x : Nat} (hn : 24 < n) (hK4 : K ≤ 4) (hc : c < 4) (hd : d < 4) (hp : T.1 4 d = nI p) (hShd : Sh K p (r6 (T.1 5) d) (r6 (T.1 6) d) (r6 (T.1 7) d) (r6 (T.1 8) d)) (hm : T.1 28 0 = nI m) (hSh : Sh K m (T.1 29) (T.1 30) (T.1 31) (T.1 32)) (h27 : T.1 27 0 = nI c) (hs : s < 1024) (hs1 : 1 ≤ s) (hx : x < 10) (hcl : ∀ r, r < 24 → T.1 14 r = -1 ∨ ∃ e, e < 4 ∧ T.1 14 r = nI e) (hC : CanS T c d p m s) :
    (NameOk T m s x → ∃ T' ln, m_X8_splitField n T (nI x) (nI d) (nI s) = some (1, T') ∧ SplM T T' c d p m s (nI x) ln) ∧
    (¬ NameOk T m s x → ∃ T', m_X8_splitField n T (nI x) (nI d) (nI s) = some (0, T') ∧ (∀ g, (g < 14 ∨ (16 < g ∧ g < 28) ∨ (36 < g ∧ g < 43)) → T'.1 g = T.1 g) ∧ (∀ r, 24 ≤ r → T'.1 14 r = T.1 14 r ∧ T'.1 15 r = T.1 15 r) ∧ ∀ l, 144 ≤ l → T'.1 16 l = T.1 16 l) := by
  have hm6 := hSh.1
  obtain ⟨c1, c2, c3, c4, c5⟩ := id hC
  have hcan : m_X8_canSplit n T (nI d) (nI s) = some 1 := by
    rcases p_canSplit (n := n) hn hK4 hc hd hp hShd hm hSh h27 hs hcl with ⟨h, -⟩ | ⟨-, h⟩
    · exact h
    · exact absurd hC h
  obtain ⟨T2, hT2, ln, i1, i2, i3, i4, i5⟩ := p_parts (n := n) (T := T) (T1 := mR T 43 (fun l => if l < 24 then -1 else T.1 43 l)) (x1 := nI x) hn hc hd c1 hShd.1 hp hm h27 hSh c3 hcl c5 (fun g hg => by rw [mR_at, if_neg hg])
  obtain ⟨T3, hT3, hR0⟩ := p_takeAll (n := n) (T := T) (T2 := T2) (x1 := nI x) hn hd hp hShd hSh c3 hm (fun g hg => i1 g (by omega) (by omega) (by omega) (by omega))
  have hR := RemM_cong hR0 (kM_kpn hShd hSh c3 c4)
  obtain ⟨r1, r2, r3, r4⟩ := id hR
  -- less than six are left
  have hlt : cn (kM T s) m < 6 := by
    obtain ⟨y, y1, y2⟩ := bt_some hs hs1
    obtain ⟨k, k1, k2⟩ := (c4 y y1).mp y2
    obtain ⟨f1, f2, f3, -⟩ := fdP_good hSh (c3 k k1)
    have hf : kM T s (fdP T d m k) = false := by
      unfold kM
      rw [f3, k2, nI_clamp (by omega), y2]
      rfl
    have := cn_strict (p := fun _ => true) (q := kM T s) (fun _ _ => rfl) (i := fdP T d m k) rfl hf f1
    rw [cn_true] at this
    omega
  have cle := cn_le (kM T s) m
  -- rows 29 to 34 of T2 are T's
  have t29 : ∀ g, 28 ≤ g → g ≤ 34 → T2.1 g = T.1 g := fun g g1 g2 => i1 g (by omega) (by omega) (by omega) (by omega)
  let U : MSt := mI (mI T3 35 0 1) 36 0 (T3.1 36 0 ||| (1 <<< (nI d &&& 31)))
  have u : ∀ g, g ≠ 35 → g ≠ 36 → U.1 g = T3.1 g := fun g g1 g2 => by
    funext l
    show (mI (mI T3 35 0 1) 36 0 (T3.1 36 0 ||| (1 <<< (nI d &&& 31)))).1 g l = _
    rw [mI_at, if_neg (fun h => g2 h.1), mI_at, if_neg (fun h => g1 h.1)]
  have hname : plc (U.1 29) (cn (kM T s) m) (nI x) = -1 ↔ NameOk T m s x := by
    rw [u 29 (by omega) (by omega)]
    refine ⟨fun h k hk e => ?_, fun h => plc_none (fun a ha e => ?_)⟩
    · cases hb : bt s x
      · exfalso
        have hkp : kM T s k = true := by
          unfold kM
          rw [e, nI_clamp (by omega), hb]
          rfl
        rcases plc_spec (T3.1 29) (nI x) (cn (kM T s) m) with ⟨-, h2⟩ | ⟨q, hq1, h2, -⟩
        · exact h2 (cn (kM T s) k) (rk_lt hk hkp) (by rw [r3 29 k (by omega) (by omega) hk hkp, t29 29 (by omega) (by omega)]; exact e)
        · have hq := cn_le (kM T s) m
          rw [h] at h2
          exact m1_ne_nI (by omega) h2
      · rfl
    · obtain ⟨i, j1, j2, j3⟩ := rk_sur ha
      rw [← j3, r3 29 i (by omega) (by omega) j1 j2, t29 29 (by omega) (by omega)] at e
      have := h i j1 e
      unfold kM at j2
      rw [e, nI_clamp (by omega), this] at j2
      cases j2
  have happ := p_append (n := n) (T := U) (x1 := nI x) (x2 := 2) (x3 := nI d) (x4 := nI d) (by omega) (by omega : cn (kM T s) m ≤ 6) (by rw [u 28 (by omega) (by omega)]; exact r2)
  have road : m_X8_splitField n T (nI x) (nI d) (nI s) = (m_X8_append n U (nI x) 2 (nI d) (nI d)).bind (fun z179 => if ¬ z179.1 = 0 then ((lpO (b_X8_splitField_234 n ) n (z179.2, 0)).bind (fun w183 => some (1, w183))) else (some (0, z179.2))) := by
    unfold m_X8_splitField
    rw [hcan, Option.bind_some, if_pos one_ne, p_line0 hn, Option.bind_some, hT2, Option.bind_some, hT3, Option.bind_some]
    rfl
  have frU : ∀ g, (g < 14 ∨ (16 < g ∧ g < 28) ∨ (36 < g ∧ g < 43)) → U.1 g = T.1 g := fun g hg => by rw [u g (by omega) (by omega), r1 g (by omega), i1 g (by omega) (by omega) (by omega) (by omega)]
  have u14 : ∀ g, 14 ≤ g → g ≤ 16 → U.1 g = T2.1 g := fun g g1 g2 => by rw [u g (by omega) (by omega), r1 g (by omega)]
  refine ⟨fun hN => ?_, fun hN => ?_⟩
  · rw [if_pos ⟨hname.mpr hN, hlt⟩] at happ
    obtain ⟨d29, d30, d31, d32, d33, d28, dfr⟩ := dA_at (T := U) (m := cn (kM T s) m) (x1 := nI x) (x2 := 2) (x3 := nI d) (x4 := nI d)
    let W : MSt := mR (dA U (cn (kM T s) m) (nI x) 2 (nI d) (nI d)) 34 (fun l => if l < 144 ∧ l % 6 = cn (kM T s) m then (dA U (cn (kM T s) m) (nI x) 2 (nI d) (nI d)).1 43 (l / 6) else (dA U (cn (kM T s) m) (nI x) 2 (nI d) (nI d)).1 34 l)
    have w : ∀ g, g ≠ 34 → W.1 g = (dA U (cn (kM T s) m) (nI x) 2 (nI d) (nI d)).1 g := fun g hg => by
      show (mR _ 34 _).1 g = _
      rw [mR_at, if_neg hg]
    have wu : ∀ g, g < 28 ∨ 34 < g → W.1 g = U.1 g := fun g hg => by rw [w g (by omega), dfr g (by omega)]
    have w34 : ∀ r k, r < 24 → k < 6 → r6 (W.1 34) r k = if k = cn (kM T s) m then T2.1 43 r else r6 (T3.1 34) r k := fun r k hr hk => by
      show (if 6 * r + k < 144 ∧ (6 * r + k) % 6 = cn (kM T s) m then (dA U (cn (kM T s) m) (nI x) 2 (nI d) (nI d)).1 43 ((6 * r + k) / 6) else (dA U (cn (kM T s) m) (nI x) 2 (nI d) (nI d)).1 34 (6 * r + k)) = _
      by_cases e : k = cn (kM T s) m
      · rw [if_pos e, if_pos (by omega), dfr 43 (by omega), u 43 (by omega) (by omega), r1 43 (by omega), show (6 * r + k) / 6 = r by omega]
      · rw [if_neg e, if_neg (by omega), dfr 34 (by omega), u 34 (by omega) (by omega)]
        rfl
    have lt : ∀ {i}, i < m → kM T s i = true → cn (kM T s) i ≠ cn (kM T s) m := fun {i} hi hk => by
      have := rk_lt hi hk
      omega
    refine ⟨W, ln, ?_, fun g hg => by rw [wu g (by omega), frU g hg], fun r hr h14 => ?_, fun r hr h14 r' hr' h14' => i3 r hr hr h14 r' hr' hr' h14', fun y hy => ?_, hlt, by rw [w 28 (by omega)]; exact d28, fun g i g1 g2 hi hk => ?_, ⟨?_, ?_, ?_, ?_, ?_⟩, fun r i hr hi hk => ?_, fun r hr h14 => ?_, ?_, ?_, ?_⟩
    · rw [road, happ, Option.bind_some, if_pos one_ne]
      show (lpO (b_X8_splitField_234 n) n (dA U (cn (kM T s) m) (nI x) 2 (nI d) (nI d), 0)).bind _ = _
      rw [p_lineCol hn hlt d28]
      rfl
    · obtain ⟨a1, a2, a3, a4, a5, a6⟩ := i2 r hr hr h14
      rw [wu 14 (by omega), wu 15 (by omega), wu 16 (by omega), u14 14 (by omega) (by omega), u14 15 (by omega) (by omega), u14 16 (by omega) (by omega)]
      exact ⟨a1, a2, a3, a4, a6⟩
    · rw [wu 14 (by omega), wu 15 (by omega), wu 16 (by omega), u14 14 (by omega) (by omega), u14 15 (by omega) (by omega), u14 16 (by omega) (by omega)]
      exact i4 y (fun r hr _ h14 => hy r hr h14)
    · have hne := lt hi hk
      have hv : T3.1 g (cn (kM T s) i) = T.1 g i := by rw [r3 g i g1 g2 hi hk, t29 g (by omega) (by omega)]
      rw [w g (by omega)]
      rcases (show g = 29 ∨ g = 30 ∨ g = 31 ∨ g = 32 ∨ g = 33 by omega) with e | e | e | e | e
      · subst e; rw [d29, if_neg hne, u 29 (by omega) (by omega)]; exact hv
      · subst e; rw [d30, if_neg hne, u 30 (by omega) (by omega)]; exact hv
      · subst e; rw [d31, if_neg hne, u 31 (by omega) (by omega)]; exact hv
      · subst e; rw [d32, if_neg hne, u 32 (by omega) (by omega)]; exact hv
      · subst e; rw [d33, if_neg hne, u 33 (by omega) (by omega)]; exact hv
    · rw [w 29 (by omega), d29, if_pos rfl]
    · rw [w 30 (by omega), d30, if_pos rfl]
    · rw [w 31 (by omega), d31, if_pos rfl]
    · rw [w 32 (by omega), d32, if_pos rfl]
    · rw [w 33 (by omega), d33, if_pos rfl]
    · have := rk_lt hi hk
      rw [w34 r _ hr (by omega), if_neg (lt hi hk), r4 r i hr hi hk, t29 34 (by omega) (by omega)]
    · rw [w34 r _ hr (by omega), if_pos rfl]
      exact (i2 r hr hr h14).2.2.2.2.1
    · rw [wu 35 (by omega)]
      show (mI (mI T3 35 0 1) 36 0 (T3.1 36 0 ||| (1 <<< (nI d &&& 31)))).1 35 0 = _
      rw [mI_at, if_neg (by omega), mI_eq]
    · rw [wu 36 (by omega)]
      show (mI (mI T3 35 0 1) 36 0 (T3.1 36 0 ||| (1 <<< (nI d &&& 31)))).1 36 0 = _
      rw [mI_eq, r1 36 (by omega), i1 36 (by omega) (by omega) (by omega) (by omega)]
    · rw [wu 14 (by omega), u14 14 (by omega) (by omega)]
      exact i5
  · rw [if_neg (fun h => hN (hname.mp h.1))] at happ
    have hln : ∀ y, 24 ≤ y → ∀ r, r < 24 → r < 24 → T.1 14 r = nI c → y ≠ ln r := fun y hy r hr _ h14 e => by
      have := (i2 r hr hr h14).1
      omega
    refine ⟨U, ?_, frU, fun r hr => ?_, fun l hl => ?_⟩
    · rw [road, happ, Option.bind_some, if_neg (fun h => h rfl)]
    · rw [u14 14 (by omega) (by omega), u14 15 (by omega) (by omega)]
      obtain ⟨a1, a2, -⟩ := i4 r (hln r hr)
      exact ⟨a1, a2⟩
    · rw [u14 16 (by omega) (by omega)]
      have := (i4 (l / 6) (hln _ (by omega))).2.2 (l % 6) (by omega)
      unfold r6 at this
      rw [show 6 * (l / 6) + l % 6 = l by omega] at this
      exact this
