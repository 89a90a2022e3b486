/-! ===== change: may a class be split: the class ===== -/
def NameOk (T : MSt) (m s x : Nat) : Prop := ∀ k, k < m → T.1 29 k = nI x → bt s x = true
theorem bt_some {s : Nat} (hs : s < 1024) (h1 : 1 ≤ s) : ∃ y, y < 10 ∧ bt s y = true := by
  by_cases h : ∃ y, y < 10 ∧ bt s y = true
  · exact h
  · exfalso
    have : s = 0 := bt_ext hs (by omega) (fun y hy => by
      have e0 : bt 0 y = false := by unfold bt; simp
      rw [e0]
      cases hb : bt s y
      · rfl
      · exact absurd ⟨y, hy, hb⟩ h)
    omega
theorem q_canSplit {n i d p m s x K : Nat} {S : CSt} {T : MSt} (hn : 6 < n) (h : DE S T m) (hSh : Sh K m (T.1 29) (T.1 30) (T.1 31) (T.1 32)) (hShd : Sh K p (r6 (T.1 5) d) (r6 (T.1 6) d) (r6 (T.1 7) d) (r6 (T.1 8) d)) (hS : ShC (S.1 5) (S.1 6) (S.1 7) (S.1 8) (S.1 9) (2 * d) p (r6 (T.1 5) d) (r6 (T.1 6) d) (r6 (T.1 7) d) (r6 (T.1 8) d)) (h25 : S.1 25 i 0 = nI s) (hs : s < 1024) (hs1 : 1 ≤ s) (h23 : S.1 23 i 0 = nI x) (hx : x < 10) : (m_X7_canSplit n S i (2 * d) = some 1 ∧ ((∀ k, k < p → r6 (T.1 6) d k = 0) ∧ (∀ k, k < p → GoodF T d m k) ∧ SetOk T d p s ∧ NameOk T m s x)) ∨ (m_X7_canSplit n S i (2 * d) = some 0 ∧ ¬ ((∀ k, k < p → r6 (T.1 6) d k = 0) ∧ (∀ k, k < p → GoodF T d m k) ∧ SetOk T d p s ∧ NameOk T m s x)) := by
  have hp6 := hShd.1
  have hm6 := hSh.1
  have e7 : (∀ k, k < p → S.1 7 (2 * d) k = 0) ↔ ∀ k, k < p → r6 (T.1 6) d k = 0 := ⟨fun h k hk => by rw [← (hS.2 k hk).2.1]; exact h k hk, fun h k hk => by rw [(hS.2 k hk).2.1]; exact h k hk⟩
  unfold m_X7_canSplit
  rcases q_hasRef (n := n) (S := S) (i := 2 * d) hn hp6 hS.1 with ⟨a1, a2⟩ | ⟨a1, a2⟩
  · rw [a1, Option.bind_some, if_neg (fun h => h rfl)]
    obtain ⟨t, t1, t2, t3⟩ := q_nameSet (n := n) (S := S) (i := 2 * d) hn hp6 hS.1 (fun k hk => by rw [(hS.2 k hk).1]; exact (hShd.2.2 k hk).1)
    have t3' : ∀ y, y < 10 → (bt t y = true ↔ ∃ k, k < p ∧ r6 (T.1 5) d k = nI y) := fun y hy => by
      rw [t3 y hy]
      exact ⟨fun ⟨k, k1, k2⟩ => ⟨k, k1, by rw [← (hS.2 k k1).1]; exact k2⟩, fun ⟨k, k1, k2⟩ => ⟨k, k1, by rw [(hS.2 k k1).1]; exact k2⟩⟩
    rw [t2, Option.bind_some, h25]
    by_cases hts : t = s
    · subst hts
      rw [if_pos rfl]
      have hloop : Ok (lpO (b_X7_canSplit_22 n S i (2 * d)) n 0) (sumE (fun _ => ¬ ∀ k, k < p → GoodF T d m k) (fun _ => ∀ k, k < p → GoodF T d m k)) := by
        refine ok_for1 (N := p) (by omega) (I := fun k => ∀ j, j < k → GoodF T d m j) (fun k hk hI => ?_) (fun j hj => absurd hj (Nat.not_lt_zero _))
        unfold b_X7_canSplit_22
        rw [hS.1, Ok_ite]
        refine ⟨fun h3 => ?_, fun h3 => ?_⟩
        · rw [Ok_some]
          have ek := ge_eq (by omega) hk h3
          subst ek
          exact hI
        · have hk2 := nge_lt (by omega) hk h3
          obtain ⟨c1, c2, c3, c4⟩ := hS.2 k hk2
          rw [Ok_bif, nI_clamp (by omega), c1, q_place8 hn h hSh, Ok_bind, Ok_some]
          refine ⟨inB_nI (by omega) (by omega), ?_⟩
          rcases plc_nn (f := T.1 29) (x := r6 (T.1 5) d k) hm6 with ⟨g1, g2⟩ | ⟨f0, hf0, g1, g2, g3, g4⟩
          · rw [g1, q_isNumber0, Ok_bind, Ok_some, if_pos rfl, Ok_some]
            exact fun hall => by
              obtain ⟨f, f1, f2, -⟩ := hall k hk2
              exact g2 f f1 f2
          · rw [g1, q_isNumber hm6 h.2.1 hf0, Ok_bind, Ok_some, (h.2.2.2 f0 hf0).2.1]
            have huniq : ∀ {f}, f < m → T.1 29 f = r6 (T.1 5) d k → f = f0 := fun {f} hf e => hSh.2.1 f hf f0 hf0 (e.trans g2.symm)
            by_cases h30 : T.1 30 f0 = 0
            · rw [if_pos h30, if_neg one_ne, Ok_bif, Ok_bif, q_within hm6 h.2.1 hf0, Ok_bind, Ok_some, c3, c4, (h.2.2.2 f0 hf0).2.2.1, (h.2.2.2 f0 hf0).2.2.2.1]
              refine ⟨inB_nI (by omega) (by omega), inB_nI (by omega) (by omega), ?_⟩
              by_cases hw : r6 (T.1 7) d k ≤ T.1 31 f0 ∧ T.1 32 f0 ≤ r6 (T.1 8) d k
              · rw [if_pos hw, if_pos one_ne, Ok_nm, Ok_some, nI_1]
                refine ⟨hk2, rfl, fun j hj => ?_⟩
                rcases Nat.lt_succ_iff_lt_or_eq.mp hj with h5 | h5
                · exact hI j h5
                · rw [h5]
                  exact ⟨f0, hf0, g2, h30, hw⟩
              · rw [if_neg hw, if_neg (fun h => h rfl), Ok_some]
                exact fun hall => by
                  obtain ⟨f, f1, f2, f3, f4⟩ := hall k hk2
                  rw [huniq f1 f2] at f4
                  exact hw f4
            · rw [if_neg h30, if_pos rfl, Ok_some]
              exact fun hall => by
                obtain ⟨f, f1, f2, f3, f4⟩ := hall k hk2
                rw [huniq f1 f2] at f3
                exact h30 f3
      obtain ⟨w, hw, hq⟩ := hloop
      rw [hw, Option.bind_some]
      cases w with
      | inl w => exact Or.inr ⟨rfl, fun hC => hq hC.2.1⟩
      | inr w =>
        show (((m_X4_placeOf n S 8 (S.1 23 i 0)).bind (fun z81 => if z81 = (-1) then (m_X7_canSplit_J122 n S (2 * d)) else ((m_X7_isIn n S (S.1 23 i 0) (nI t)).bind (fun z84 => if ¬ z84 = 0 then (m_X7_canSplit_J122 n S (2 * d)) else (m_X7_canSplit_J123 n S (2 * d) 1))))) = some (1 : Int32) ∧ _) ∨ (((m_X4_placeOf n S 8 (S.1 23 i 0)).bind (fun z81 => if z81 = (-1) then (m_X7_canSplit_J122 n S (2 * d)) else ((m_X7_isIn n S (S.1 23 i 0) (nI t)).bind (fun z84 => if ¬ z84 = 0 then (m_X7_canSplit_J122 n S (2 * d)) else (m_X7_canSplit_J123 n S (2 * d) 1))))) = some (0 : Int32) ∧ _)
        have p1 : 1 ≤ p := by
          obtain ⟨y, y1, y2⟩ := bt_some hs hs1
          obtain ⟨k, k1, -⟩ := (t3' y y1).mp y2
          omega
        have good : m_X7_canSplit_J122 n S (2 * d) = some 1 := by
          unfold m_X7_canSplit_J122 m_X7_canSplit_J123
          rw [if_neg (fun h => h rfl), h.2.1, hS.1]
          refine if_neg (fun h6 => ?_)
          have h6 := Int32.le_iff_toInt_le.mp h6
          rw [Int32.toInt_sub, nI_toInt (by omega), nI_toInt (by omega), show (6 : Int32).toInt = 6 by decide] at h6
          rw [Int.bmod_eq_of_le (by omega) (by omega)] at h6
          omega
        have yes : NameOk T m t x → m_X7_canSplit_J122 n S (2 * d) = some 1 ∧ ((∀ k, k < p → r6 (T.1 6) d k = 0) ∧ (∀ k, k < p → GoodF T d m k) ∧ SetOk T d p t ∧ NameOk T m t x) := fun hN => ⟨good, e7.mp a2, hq, t3', hN⟩
        rw [q_place8 hn h hSh, Option.bind_some, h23]
        rcases plc_nn (f := T.1 29) (x := nI x) hm6 with ⟨g1, g2⟩ | ⟨f0, hf0, g1, g2, g3, g4⟩
        · rw [if_pos g1]
          exact Or.inl (yes (fun k hk e => absurd e (g2 k hk)))
        · rw [if_neg g3, q_isIn (by omega) hx, Option.bind_some]
          by_cases hb : bt t x = true
          · rw [if_pos hb, if_pos one_ne]
            exact Or.inl (yes (fun k hk e => hb))
          · rw [if_neg hb, if_neg (fun h => h rfl)]
            refine Or.inr ⟨?_, fun hC => hb (hC.2.2.2 f0 hf0 g2)⟩
            unfold m_X7_canSplit_J123
            exact if_pos one_ne
    · rw [if_neg (fun h => hts ((nI_eq (by omega) (by omega)).mp h))]
      refine Or.inr ⟨rfl, fun hC => hts ?_⟩
      refine bt_ext t1 hs (fun y hy => ?_)
      have := (t3' y hy).trans (hC.2.2.1 y hy).symm
      cases h1 : bt t y <;> cases h2 : bt s y
      · rfl
      · rw [h1, h2] at this
        exact absurd (this.mpr rfl) (by decide)
      · rw [h1, h2] at this
        exact absurd (this.mp rfl) (by decide)
      · rfl
  · rw [a1, Option.bind_some, if_pos one_ne]
    exact Or.inr ⟨rfl, fun hC => a2 (e7.mpr hC.1)⟩
theorem B_split {n i c d p m s x K : Nat} {S : CSt} {T : MSt} (hn : 24 < n) (hK4 : K ≤ 4) (hc : c < 4) (hd : d < 4) (h : DE S T m) (hSh : Sh K m (T.1 29) (T.1 30) (T.1 31) (T.1 32)) (hShd : Sh K p (r6 (T.1 5) d) (r6 (T.1 6) d) (r6 (T.1 7) d) (r6 (T.1 8) d)) (hS : ShC (S.1 5) (S.1 6) (S.1 7) (S.1 8) (S.1 9) (2 * d) p (r6 (T.1 5) d) (r6 (T.1 6) d) (r6 (T.1 7) d) (r6 (T.1 8) d)) (h22 : S.1 22 i 0 = 5) (h24 : S.1 24 i 0 = nI d) (h25 : S.1 25 i 0 = nI s) (hs : s < 1024) (hs1 : 1 ≤ s) (h23 : S.1 23 i 0 = nI x) (hx : x < 10) (hcnt : cn (fun e => !decide (S.1 13 e 0 = 0) && decide (S.1 14 e 0 = nI c)) 24 = cn (fun r => decide (T.1 14 r = nI c)) 24) : (m_X7_canDo n S i (nI c) (nI (cn (fun r => !decide (T.1 14 r = -1)) 24)) = some (1, S) ∧ (CanS T c d p m s ∧ NameOk T m s x)) ∨ (m_X7_canDo n S i (nI c) (nI (cn (fun r => !decide (T.1 14 r = -1)) 24)) = some (0, S) ∧ ¬ (CanS T c d p m s ∧ NameOk T m s x)) := by
  unfold m_X7_canDo
  rw [q_place8 (by omega) h hSh, Option.bind_some, h22, if_neg (by decide), if_neg (by decide), if_neg (by decide), if_neg (by decide), if_neg (by decide), if_pos rfl, h24]
  by_cases hdc : d = c
  · rw [if_pos (by rw [hdc])]
    exact Or.inr ⟨rfl, fun hC => hC.1.1 hdc⟩
  · rw [if_neg (fun h => hdc (nI_inj4 hd hc h)), inB_nI hd (by omega), cond_true, nI_clamp (by omega)]
    rcases q_canSplit (n := n) (by omega) h hSh hShd hS h25 hs hs1 h23 hx with ⟨a1, a2, a3, a4, a5⟩ | ⟨a1, a2⟩
    · rw [a1, Option.bind_some, if_neg one_ne, q_countOf hn, hcnt, Option.bind_some, nI_add]
      have b1 := cn_le (fun r => !decide (T.1 14 r = -1)) 24
      have b2 := cn_le (fun r => decide (T.1 14 r = nI c)) 24
      by_cases h24' : cn (fun r => !decide (T.1 14 r = -1)) 24 + cn (fun r => decide (T.1 14 r = nI c)) 24 ≤ 24
      · rw [if_neg (show ¬ (24 : Int32) < _ from fun h => by have := (nI_ltI (a := 24) (by decide) (by omega)).mp h; omega)]
        exact Or.inl ⟨rfl, ⟨hdc, a2, a3, a4, h24'⟩, a5⟩
      · rw [if_pos (show (24 : Int32) < _ from (nI_ltI (a := 24) (by decide) (by omega)).mpr (by omega))]
        exact Or.inr ⟨rfl, fun hC => h24' hC.1.2.2.2.2⟩
    · rw [a1, Option.bind_some, if_pos rfl]
      exact Or.inr ⟨rfl, fun hC => a2 ⟨hC.1.2.1, hC.1.2.2.1, hC.1.2.2.2.1, hC.2⟩⟩
