/-! ===== change: may a part be joined back: the class ===== -/
theorem q_isHeld {n : Nat} {S : CSt} {x : Int32} (hn : 24 < n) : (m_X7_isHeld n S x = some 1 ∧ ∃ i, i < 8 ∧ S.1 19 0 i = x) ∨ (m_X7_isHeld n S x = some 0 ∧ ¬ ∃ i, i < 8 ∧ S.1 19 0 i = x) := by
  have h : Ok (lpO (b_X7_isHeld_2 n S x) n 0) (sumE (fun _ => ∃ i, i < 8 ∧ S.1 19 0 i = x) (fun _ => ¬ ∃ i, i < 8 ∧ S.1 19 0 i = x)) := by
    refine ok_for1 (N := 8) (by omega) (I := fun k => ∀ i, i < k → S.1 19 0 i ≠ x) (fun k hk hI => ?_) (fun j hj => absurd hj (Nat.not_lt_zero _))
    unfold b_X7_isHeld_2
    rw [Ok_ite]
    refine ⟨fun h3 => ?_, fun h3 => ?_⟩
    · rw [Ok_some]
      have ek : k = 8 := ge_eq (by decide) hk h3
      subst ek
      exact fun ⟨i, hi, e⟩ => hI i hi e
    · have hk2 : k < 8 := nge_lt (by decide) hk h3
      rw [Ok_bif, nI_clamp (by omega), Ok_ite]
      refine ⟨inB_nI hk2 (by omega), fun h4 => ?_, fun h4 => ?_⟩
      · rw [Ok_nm, Ok_some, nI_1]
        refine ⟨hk2, rfl, fun j hj => ?_⟩
        rcases Nat.lt_succ_iff_lt_or_eq.mp hj with h5 | h5
        · exact hI j h5
        · rw [h5]; exact h4
      · rw [Ok_some]
        exact ⟨k, hk2, Decidable.not_not.mp h4⟩
  obtain ⟨w, hw, hq⟩ := h
  unfold m_X7_isHeld
  rw [hw, Option.bind_some]
  cases w with
  | inl w => exact Or.inl ⟨rfl, hq⟩
  | inr w => exact Or.inr ⟨rfl, hq⟩
theorem q_someRoot {n : Nat} {S : CSt} {c o : Nat} (hn : 24 < n) (ho : o < 6) : (m_X7_someRootHolds n S (nI c) (nI o) = some 1 ∧ ∃ e i, e < 24 ∧ isC S e c ∧ i < 8 ∧ S.1 19 0 i = S.1 17 e o) ∨ (m_X7_someRootHolds n S (nI c) (nI o) = some 0 ∧ ¬ ∃ e i, e < 24 ∧ isC S e c ∧ i < 8 ∧ S.1 19 0 i = S.1 17 e o) := by
  have h : Ok (lpO (b_X7_someRootHolds_2 n S (nI c) (nI o)) n 0) (sumE (fun _ => ∃ e i, e < 24 ∧ isC S e c ∧ i < 8 ∧ S.1 19 0 i = S.1 17 e o) (fun _ => ¬ ∃ e i, e < 24 ∧ isC S e c ∧ i < 8 ∧ S.1 19 0 i = S.1 17 e o)) := by
    refine ok_for1 (N := 24) hn (I := fun k => ∀ e, e < k → isC S e c → ∀ i, i < 8 → S.1 19 0 i ≠ S.1 17 e o) (fun k hk hI => ?_) (fun j hj => absurd hj (Nat.not_lt_zero _))
    unfold b_X7_someRootHolds_2
    rw [Ok_ite]
    refine ⟨fun h3 => ?_, fun h3 => ?_⟩
    · rw [Ok_some]
      have ek : k = 24 := ge_eq (by decide) hk h3
      subst ek
      exact fun ⟨e, i, he, hC, hi, h⟩ => hI e he hC i hi h
    · have hk2 : k < 24 := nge_lt (by decide) hk h3
      rw [Ok_bif, nI_clamp (by omega), q_isOf, Ok_bind, Ok_some]
      refine ⟨inB_nI hk2 (by omega), ?_⟩
      by_cases hC : isC S k c
      · rw [show (!decide (S.1 13 k 0 = 0) && decide (S.1 14 k 0 = nI c)) = true from isCb_iff.mpr hC, if_pos rfl, if_neg one_ne, Ok_bif, nI_clamp (by omega)]
        refine ⟨inB_nI ho (by omega), ?_⟩
        rcases q_isHeld (n := n) (S := S) (x := S.1 17 k o) hn with ⟨e, i, hi, h⟩ | ⟨e, h⟩
        · rw [e, Ok_bind, Ok_some, if_neg one_ne, Ok_some]
          exact ⟨k, i, hk2, hC, hi, h⟩
        · rw [e, Ok_bind, Ok_some, if_pos rfl, Ok_nm, Ok_some, nI_1]
          refine ⟨hk2, rfl, fun e' he' hC' i hi h' => ?_⟩
          rcases Nat.lt_succ_iff_lt_or_eq.mp he' with h5 | h5
          · exact hI e' h5 hC' i hi h'
          · rw [h5] at h'
            exact h ⟨i, hi, h'⟩
      · have hb : (!decide (S.1 13 k 0 = 0) && decide (S.1 14 k 0 = nI c)) = false := by
          cases hx : (!decide (S.1 13 k 0 = 0) && decide (S.1 14 k 0 = nI c))
          · rfl
          · exact absurd (isCb_iff.mp hx) hC
        rw [hb, if_neg (show ¬ (false = true) by decide), if_pos rfl, Ok_nm, Ok_some, nI_1]
        refine ⟨hk2, rfl, fun e' he' hC' i hi h' => ?_⟩
        rcases Nat.lt_succ_iff_lt_or_eq.mp he' with h5 | h5
        · exact hI e' h5 hC' i hi h'
        · rw [h5] at hC'
          exact hC hC'
  obtain ⟨w, hw, hq⟩ := h
  unfold m_X7_someRootHolds
  rw [hw, Option.bind_some]
  cases w with
  | inl w => exact Or.inl ⟨rfl, hq⟩
  | inr w => exact Or.inr ⟨rfl, hq⟩
theorem q_canJoin {n d p m k0 K : Nat} {S : CSt} {T : MSt} (hn : 6 < n) (h : DE S T m) (hSh : Sh K m (T.1 29) (T.1 30) (T.1 31) (T.1 32)) (hp6 : p ≤ 6) (hS : ShC (S.1 5) (S.1 6) (S.1 7) (S.1 8) (S.1 9) (2 * d) p (r6 (T.1 5) d) (r6 (T.1 6) d) (r6 (T.1 7) d) (r6 (T.1 8) d)) (hk0 : k0 < m) : (m_X7_canJoin n S (nI k0) (2 * d) = some 1 ∧ ((∀ k, k < p → r6 (T.1 6) d k = 0) ∧ m - 1 + p ≤ 6 ∧ ∀ k, k < p → ∀ f, f < m → f ≠ k0 → T.1 29 f ≠ r6 (T.1 5) d k)) ∨ (m_X7_canJoin n S (nI k0) (2 * d) = some 0 ∧ ¬ ((∀ k, k < p → r6 (T.1 6) d k = 0) ∧ m - 1 + p ≤ 6 ∧ ∀ k, k < p → ∀ f, f < m → f ≠ k0 → T.1 29 f ≠ r6 (T.1 5) d k)) := by
  have hm6 := hSh.1
  have e7 : (∀ k, k < p → S.1 7 (2 * d) k = 0) ↔ ∀ k, k < p → r6 (T.1 6) d k = 0 := ⟨fun h k hk => by rw [← (hS.2 k hk).2.1]; exact h k hk, fun h k hk => by rw [(hS.2 k hk).2.1]; exact h k hk⟩
  unfold m_X7_canJoin
  rcases q_hasRef (n := n) (S := S) (i := 2 * d) hn hp6 hS.1 with ⟨a1, a2⟩ | ⟨a1, a2⟩
  · rw [a1, Option.bind_some, if_neg (fun h => h rfl), h.2.1, hS.1, show nI m - 1 = nI (m - 1) from pk_sub (b := 1) (by omega), nI_add]
    by_cases h6 : m - 1 + p ≤ 6
    · rw [if_pos (show nI (m - 1 + p) ≤ (6 : Int32) from (nI_leI (b := 6) (by omega) (by decide)).mpr h6)]
      have hloop : Ok (lpO (b_X7_canJoin_30 n S (nI k0) (2 * d)) n 0) (sumE (fun _ => ¬ ∀ k, k < p → ∀ f, f < m → f ≠ k0 → T.1 29 f ≠ r6 (T.1 5) d k) (fun _ => ∀ k, k < p → ∀ f, f < m → f ≠ k0 → T.1 29 f ≠ r6 (T.1 5) d k)) := by
        refine ok_for1 (N := p) (by omega) (I := fun q => ∀ k, k < q → ∀ f, f < m → f ≠ k0 → T.1 29 f ≠ r6 (T.1 5) d k) (fun k hk hI => ?_) (fun j hj => absurd hj (Nat.not_lt_zero _))
        unfold b_X7_canJoin_30
        rw [hS.1, Ok_ite]
        refine ⟨fun h3 => ?_, fun h3 => ?_⟩
        · rw [Ok_some]
          have ek := ge_eq (by omega) hk h3
          subst ek
          exact hI
        · have hk2 := nge_lt (by omega) hk h3
          rw [Ok_bif, nI_clamp (by omega), (hS.2 k hk2).1, q_place8 hn h hSh, Ok_bind, Ok_some]
          refine ⟨inB_nI (by omega) (by omega), ?_⟩
          have next : (∀ f, f < m → f ≠ k0 → T.1 29 f ≠ r6 (T.1 5) d k) → ∀ k', k' < k + 1 → ∀ f, f < m → f ≠ k0 → T.1 29 f ≠ r6 (T.1 5) d k' := fun hx k' hk' => by
            rcases Nat.lt_succ_iff_lt_or_eq.mp hk' with h5 | h5
            · exact hI k' h5
            · rw [h5]; exact hx
          rcases plc_nn (f := T.1 29) (x := r6 (T.1 5) d k) hm6 with ⟨g1, g2⟩ | ⟨f0, hf0, g1, g2, g3, g4⟩
          · rw [if_pos g1, Ok_nm, Ok_some, nI_1]
            exact ⟨hk2, rfl, next (fun f hf _ => g2 f hf)⟩
          · rw [if_neg g3]
            by_cases e : f0 = k0
            · rw [if_pos (by rw [g1, e]), Ok_nm, Ok_some, nI_1]
              exact ⟨hk2, rfl, next (fun f hf hne e2 => hne (by rw [← e]; exact hSh.2.1 f hf f0 hf0 (e2.trans g2.symm)))⟩
            · rw [if_neg (fun h => e ((nI_eq (by omega) (by omega)).mp (g1.symm.trans h))), Ok_some]
              exact fun hall => hall k hk2 f0 hf0 e g2
      obtain ⟨w, hw, hq⟩ := hloop
      rw [hw, Option.bind_some]
      cases w with
      | inl w => exact Or.inr ⟨rfl, fun hC => hq hC.2.2⟩
      | inr w => exact Or.inl ⟨rfl, e7.mp a2, h6, hq⟩
    · rw [if_neg (show ¬ nI (m - 1 + p) ≤ (6 : Int32) from fun h => h6 ((nI_leI (b := 6) (by omega) (by decide)).mp h))]
      exact Or.inr ⟨rfl, fun hC => h6 hC.2.1⟩
  · rw [a1, Option.bind_some, if_pos one_ne]
    exact Or.inr ⟨rfl, fun hC => a2 (e7.mpr hC.1)⟩
def JoinOk (T : MSt) (c m : Nat) (a : Int32) : Prop := ∃ k0 d p, k0 < m ∧ T.1 29 k0 = a ∧ T.1 30 k0 = 2 ∧ d < 4 ∧ T.1 31 k0 = nI d ∧ p ≤ 6 ∧ T.1 4 d = nI p ∧ CanJ T c d p m k0
/-- the ids of two live records are the same only if the records are -/
theorem id_inj {j K L : Nat} {σ τ : Nat → Nat} {s : Nat → Nat → Nat → Int32} {m : Nat → Nat → Int32} (hC : CR j K L σ τ s m) {p p' : Nat} (hp : p < 24) (hl : m 14 p ≠ -1) (hp' : p' < 24) (hl' : m 14 p' ≠ -1) (e : s 13 (σ p) 0 = s 13 (σ p') 0) : p = p' := by
  obtain ⟨a1, a2, a3, -⟩ := hC.2.2.2.1.1 p hp hl
  obtain ⟨b1, b2, b3, -⟩ := hC.2.2.2.1.1 p' hp' hl'
  have := hC.2.2.2.2.1.2.2.2 (σ p) a1 a3 (σ p') b1 e
  rw [← a2, ← b2, this]
theorem B_join {n i j K L c m0 m : Nat} {σ τ : Nat → Nat} {S D : CSt} {T B : MSt} {rec : Int32} (hn : 24 < n) (hMB : MI K B.1) (hCB : CR j K L σ τ D.1 B.1) (hB4 : B.1 4 c = nI m0) (hm0 : m0 ≤ 6) (hM : JM K B T c m0 m) (hc : c < 4) (h : DE S T m) (hSB : ∀ d p, d < 4 → p ≤ 6 → T.1 4 d = nI p → ShC (S.1 5) (S.1 6) (S.1 7) (S.1 8) (S.1 9) (2 * d) p (r6 (T.1 5) d) (r6 (T.1 6) d) (r6 (T.1 7) d) (r6 (T.1 8) d)) (hSD : ∀ g, g = 13 ∨ g = 14 ∨ g = 17 ∨ g = 19 → S.1 g = D.1 g) (h22 : S.1 22 i 0 = 6) : (m_X7_canDo n S i (nI c) rec = some (1, S) ∧ JoinOk T c m (S.1 23 i 0)) ∨ (m_X7_canDo n S i (nI c) rec = some (0, S) ∧ ¬ JoinOk T c m (S.1 23 i 0)) := by
  have hSh := JM_sh hM hc
  obtain ⟨hMI, hm6, hm, h27, h26, hfr, hcl, hcv, hor, hoi, -⟩ := id hM
  have hK4 : K ≤ 4 := hMB.1.1
  unfold m_X7_canDo
  rw [q_place8 (by omega) h hSh, Option.bind_some, h22, if_neg (by decide), if_neg (by decide), if_neg (by decide), if_neg (by decide), if_neg (by decide), if_neg (by decide), if_pos rfl]
  rcases plc_nn (f := T.1 29) (x := S.1 23 i 0) h.1 with ⟨h1, h2⟩ | ⟨k0, hk0, h1, h2, h3, h4⟩
  · rw [h1, q_isOwn0, Option.bind_some, if_pos rfl]
    exact Or.inr ⟨rfl, fun ⟨k, d, p, k1, k2, _⟩ => h2 k k1 k2⟩
  · have huniq : ∀ {k}, k < m → T.1 29 k = S.1 23 i 0 → k = k0 := fun {k} hk e => hSh.2.1 k hk k0 hk0 (e.trans h2.symm)
    obtain ⟨d6, d7, d8, d9, d10⟩ := h.2.2.2 k0 hk0
    rw [h1, q_isOwn h.1 h.2.1 hk0, Option.bind_some, d7]
    by_cases h30 : T.1 30 k0 = 2
    · rw [if_pos h30, if_neg one_ne, inB_nI (by omega) (by omega), cond_true, cond_true, cond_true, nI_clamp (by omega), d10]
      rcases hor k0 hk0 with e33 | ⟨o, o1, o2, o3, o4⟩
      · rw [if_pos e33]
        refine Or.inr ⟨rfl, fun ⟨k, d, p, k1, k2, k3, k4, k5, k6, k7, k8⟩ => ?_⟩
        rw [huniq k1 k2] at k8
        exact k8.1 (by rw [e33]; exact m1_lt)
      · obtain ⟨d, hdK, e31⟩ : ∃ d, d < K ∧ T.1 31 k0 = nI d := by
          rcases (hSh.2.2 k0 hk0).2 with z | ⟨-, d, z1, z2, -⟩
          · exact absurd (h30.symm.trans z.1) (by decide)
          · exact ⟨d, z1, z2⟩
        have hd4 : d < 4 := by omega
        obtain ⟨p, hp, hShd⟩ := hMB.2.1 d hd4
        have hp6 := hShd.1
        have hTp : T.1 4 d = nI p := by rw [hfr.1 4 (by omega)]; exact hp
        rw [if_neg (by rw [o2]; exact nI_ne_m1 (by omega)), d8, e31, inB_nI hd4 (by omega), cond_true, nI_clamp (by omega), o2]
        -- what is held
        have held : (∃ e i, e < 24 ∧ isC S e c ∧ i < 8 ∧ S.1 19 0 i = S.1 17 e o) ↔ HeldM T c k0 24 := by
          have hkB : r6 (B.1 6) c o = 2 := o3.trans h30
          have fB : ∀ r, r < 24 → B.1 14 r = nI c → Fld (B.1 4) (B.1 6) (B.1 14) r c o 2 := fun r hr h14 => ⟨hr, hc, h14, ⟨m0, hm0, hB4, o1⟩, hkB⟩
          have r19 := hCB.2.2.2.2.2.2.2.1
          have e19 : T.1 19 = B.1 19 := hfr.1 19 (by omega)
          have val : ∀ r, r < 24 → B.1 14 r = nI c → D.1 17 (σ r) o = tr σ (D.1 13) (r6 (B.1 16) r o) := fun r hr h14 => by
            have := hCB.2.2.2.2.2.2.1 r c o 2 (fB r hr h14)
            rw [if_neg (by decide)] at this
            exact this
          refine ⟨fun ⟨e, q, he, hC, hq, heq⟩ => ?_, fun ⟨r, q, hr, hq, h14, hpos, heq⟩ => ?_⟩
          · unfold isC at hC
            rw [hSD 13 (by omega), hSD 14 (by omega)] at hC
            obtain ⟨t1, t2, t3⟩ := hCB.2.2.2.1.2 e he hC.1
            have c14 := (hCB.2.2.2.1.1 (τ e) t1 t3).2.2.2.1
            rw [t2, hC.2] at c14
            rw [hSD 19 (by omega), hSD 17 (by omega), r19 q hq, ← t2, val (τ e) t1 c14.symm] at heq
            obtain ⟨y, y1, y2, y3⟩ := hMB.2.2.2.1.2.2.1 (τ e) c o (fB (τ e) t1 c14.symm)
            have yl : B.1 14 y ≠ -1 := by
              rcases ref_live hMB (fB (τ e) t1 c14.symm) (by decide) with z | ⟨y', z1, z2, z3⟩
              · rw [y2] at z
                exact absurd z (nI_ne_m1 (by omega))
              · have := (nI_eq (by omega) (by omega)).mp (y2.symm.trans z2)
                rw [this]; exact z3
            rw [y2, tr_nI _ _ y1] at heq
            rcases hMB.2.2.2.2.1 q hq with z | ⟨y', z1, z2, z3⟩
            · rw [z, tr_m1] at heq
              exact absurd heq.symm (hCB.2.2.2.1.1 y y1 yl).2.2.1
            · rw [z2, tr_nI _ _ z1] at heq
              have ey := id_inj hCB z1 z3 y1 yl heq
              refine ⟨τ e, q, t1, hq, (hcl _ t1).mpr c14.symm, by rw [e19, z2]; exact nI_pos (by omega), ?_⟩
              rw [(o4 (by rw [h30]; decide)).2 (τ e) t1 c14.symm, e19, z2, y2, ey]
          · have hB14 := (hcl r hr).mp h14
            obtain ⟨s1, s2, s3, s4, -⟩ := hCB.2.2.2.1.1 r hr (by rw [hB14]; exact nI_ne_m1 (by omega))
            refine ⟨σ r, q, s1, ?_, hq, ?_⟩
            · unfold isC
              rw [hSD 13 (by omega), hSD 14 (by omega)]
              exact ⟨s3, s4.trans hB14⟩
            · rw [(o4 (by rw [h30]; decide)).2 r hr hB14, e19] at heq
              rw [hSD 19 (by omega), hSD 17 (by omega), r19 q hq, val r hr hB14, heq]
        have fin : ∀ P : Prop, (P ↔ HeldM T c k0 24) → ((∀ k, k < p → r6 (T.1 6) d k = 0) ∧ m - 1 + p ≤ 6 ∧ ∀ k, k < p → ∀ f, f < m → f ≠ k0 → T.1 29 f ≠ r6 (T.1 5) d k) → ¬ P → JoinOk T c m (S.1 23 i 0) := fun P hP hq hno => ⟨k0, d, p, hk0, h2, h30, hd4, e31, hp6, hTp, by rw [o2]; exact nI_pos (by omega), hq.1, fun hh => hno (hP.mpr hh), hq.2.1, hq.2.2⟩
        have back : JoinOk T c m (S.1 23 i 0) → CanJ T c d p m k0 := fun ⟨k, d', p', k1, k2, k3, k4, k5, k6, k7, k8⟩ => by
          have ek := huniq k1 k2
          subst ek
          have ed := nI_inj4 k4 hd4 (k5.symm.trans e31)
          subst ed
          have ep : p' = p := (nI_eq (by omega) (by omega)).mp (k7.symm.trans hTp)
          subst ep
          exact k8
        rcases q_canJoin (n := n) (by omega) h hSh hp6 (hSB d p hd4 hp6 hTp) hk0 with ⟨a1, a2⟩ | ⟨a1, a2⟩
        · rw [a1, Option.bind_some, if_neg one_ne]
          rcases q_someRoot (n := n) (S := S) (c := c) (o := o) hn (by omega) with ⟨b1, b2⟩ | ⟨b1, b2⟩
          · rw [b1, Option.bind_some, if_pos one_ne]
            exact Or.inr ⟨rfl, fun hJ => (back hJ).2.2.1 (held.mp b2)⟩
          · rw [b1, Option.bind_some, if_neg (fun h => h rfl)]
            exact Or.inl ⟨rfl, fin _ held a2 b2⟩
        · rw [a1, Option.bind_some, if_pos rfl]
          exact Or.inr ⟨rfl, fun hJ => a2 ⟨(back hJ).2.1, (back hJ).2.2.2.1, (back hJ).2.2.2.2⟩⟩
    · rw [if_neg h30, if_pos rfl]
      refine Or.inr ⟨rfl, fun ⟨k, d, p, k1, k2, k3, _⟩ => ?_⟩
      rw [huniq k1 k2] at k3
      exact h30 k3
