/-! ===== formulas: the values of the reference ===== -/
theorem wN_pre {R : Int32 → Prop} {V : Int32 → Int} {f : Nat → Int32} {k : Nat} : ∀ {d h : Nat} {v : Nat → Int}, wN R V f (k + d) h v → ∃ h v, wN R V f k h v
  | 0, h, v, a => ⟨h, v, a⟩
  | d + 1, h, v, ⟨_, _, a, _⟩ => wN_pre (d := d) a
theorem p_value {n : Nat} {T : MSt} {K c m0 i r len : Nat} {f : Nat → Int32} {v : Nat → Int} (hn : 12 < n) (hc : c < 4) (hi6 : i < 6) (hr24 : r < 24) (h27 : T.1 27 0 = nI c) (hm0 : T.1 4 c = nI m0) (hSh : Sh K m0 (r6 (T.1 5) c) (r6 (T.1 6) c) (r6 (T.1 7) c) (r6 (T.1 8) c)) (hl : len ≤ 12) (h24 : T.1 24 i = nI len) (hf : ∀ k, k < len → T.1 25 (12 * i + k) = f k) (hW : ∀ k, k < len → isW (f k)) (hr : rgt f len = some 1) (hnf : ∀ k, k < m0 → r6 (T.1 6) c k = 0 → nf (r6 (T.1 16) r k).toInt) (hw : wN (gR m0 (r6 (T.1 5) c) (r6 (T.1 6) c)) (gV m0 (r6 (T.1 5) c) (r6 (T.1 16) r)) f len 1 v) (hv1 : -1000000 ≤ v 0) (hv2 : v 0 ≤ 1000000) : Ok (m_X8_value n T (nI i) (nI r)) (fun o => FrJ T o.2 ∧ o.1.toInt = v 0) := by
  have h06 := hSh.1
  have fr0 : FrJ T (mI T 40 0 0) := fun g hg => by
    funext l
    rw [mI_at, if_neg (fun h => hg h.1)]
  have hloop : Ok (lpO (b_X8_value_7 n (nI i) (nI r)) n (mI T 40 0 0, 0)) (fun w => FrJ T w ∧ (w.2 41 0).toInt = v 0) := by
    refine ok_for2 (N := len) (by omega) (I := fun k T' => FrJ T T' ∧ ∃ h v', wN (gR m0 (r6 (T.1 5) c) (r6 (T.1 6) c)) (gV m0 (r6 (T.1 5) c) (r6 (T.1 16) r)) f k h v' ∧ T'.1 40 0 = nI h ∧ ∀ q, q < h → (T'.2 41 q).toInt = v' q ∧ nf (v' q)) (fun k T' hk hI => ?_) ⟨fr0, 0, (fun _ => 0), ⟨rfl, rfl⟩, mI_eq _ _ _ _, fun i hi => by omega⟩
    obtain ⟨hF, h, v', hN, h40, hst⟩ := hI
    have eh := ivN_h hr hW hk (wN_iv hN)
    obtain ⟨h0, e0, e1, ht⟩ := rgt_at hr hk
    rw [eh] at e0
    cases e0
    unfold b_X8_value_7
    dsimp only
    rw [Ok_bif, nI_clamp (by omega), hF 24 (by omega), h24, Ok_ite]
    refine ⟨inB_nI hi6 (by omega), fun h3 => ?_, fun h3 => ?_⟩
    · rw [Ok_some]
      have ek := ge_eq (by omega) hk h3
      subst ek
      obtain ⟨q1, q2, _⟩ := ivN_fn (wN_iv hN) (wN_iv hw)
      subst q1 q2
      exact ⟨hF, (hst 0 (by omega)).1⟩
    · have hk2 := nge_lt (by omega) hk h3
      have ht := ht hk2
      have hw2 := hw
      rw [show len = k + 1 + (len - (k + 1)) by omega] at hw2
      obtain ⟨h2, v2, hb, vb, hN2, hS⟩ := wN_pre hw2
      obtain ⟨q1, q2, _⟩ := ivN_fn (wN_iv hN) (wN_iv hN2)
      subst q1 q2
      have hN' : wN (gR m0 (r6 (T.1 5) c) (r6 (T.1 6) c)) (gV m0 (r6 (T.1 5) c) (r6 (T.1 16) r)) f (k + 1) h2 v2 := ⟨h, v', hN, hS⟩
      rw [Ok_bif, ix12, nI_clamp (by omega), hF 25 (by omega), hf k hk2, Ok_nm]
      refine ⟨inB_nI (by omega) (by omega), ?_⟩
      -- a value is laid
      have push : ∀ {x : Int64} {a : Int}, x.toInt = a → nf a → h2 = h + 1 → v2 = upZ v' h a → Ok (m_X8_value_J90 n T' (nI i) (nI r) (nI k) (T'.1 40 0) x) (sumE (fun y => k < len ∧ y.2 = nI (k + 1) ∧ FrJ T y.1 ∧ ∃ h v', wN (gR m0 (r6 (T.1 5) c) (r6 (T.1 6) c)) (gV m0 (r6 (T.1 5) c) (r6 (T.1 16) r)) f (k + 1) h v' ∧ y.1.1 40 0 = nI h ∧ ∀ q, q < h → (y.1.2 41 q).toInt = v' q ∧ nf (v' q)) (fun w => FrJ T w ∧ (w.2 41 0).toInt = v 0)) := fun {x a} ha na eh2 ev2 => by
        unfold m_X8_value_J90
        rw [h40, Ok_bif, nI_clamp (by omega)]
        refine ⟨inB_nI (by omega) (by omega), ?_⟩
        show Ok (some (Sum.inl (mI (mJ T' 41 h x) 40 0 (T'.1 40 0 + 1), nI k + 1))) _
        rw [h40, nI_1, nI_1, Ok_some]
        refine ⟨hk2, rfl, fun g hg => ?_, h + 1, v2, by rw [← eh2]; exact hN', mI_eq _ _ _ _, fun q hq => ?_⟩
        · funext l
          rw [mI_at, if_neg (fun h => hg h.1)]
          show T'.1 g l = _
          rw [hF g hg]
        · show ((mJ T' 41 h x).2 41 q).toInt = _ ∧ _
          rw [mJ_at, ev2]
          unfold upZ
          by_cases e : q = h
          · rw [if_pos ⟨rfl, e⟩, if_pos e]
            exact ⟨ha, na⟩
          · rw [if_neg (fun h => e h.2), if_neg e]
            exact hst q (by omega)
      rcases isW_cases (hW k hk2) with ⟨c1, c2⟩ | ⟨c1, c2, c3, c4⟩ | ⟨c1, c2, c3, c4⟩ | ⟨c1, c2, c3, c4, c5⟩ <;> rcases hS with ⟨a1, a2, a3, a4, a5⟩ | ⟨a1, a2, a3, a4, a5⟩ | ⟨a1, a2, a3, a4, a5, a6, a7, a8, a9⟩ | ⟨a1, a2, a3, a4, a5, a6, a7, a8, a9, a10⟩
      · rw [if_pos c1]
        obtain ⟨k0, k1, k2, k3⟩ := a2
        unfold m_X8_value_J44
        rw [if_neg (Int32.not_le.mpr c1), hF 27 (by omega), h27, p_find (by omega) hc h06 (by rw [hF 4 (by omega)]; exact hm0), hF 5 (by omega), Ok_bind, Ok_some, plc_eq hSh.2.1 k1 k2, ix6, Ok_bif, nI_clamp (by omega), hF 16 (by omega)]
        refine ⟨inB_nI (by omega) (by omega), push (x := (T.1 16 (6 * r + k0)).toInt64) (a := gV m0 (r6 (T.1 5) c) (r6 (T.1 16) r) (f k)) ?_ ?_ a3 a4⟩
        · unfold gV; rw [Int32.toInt_toInt64, plc_eq hSh.2.1 k1 k2, nI_clamp (by omega)]; rfl
        · unfold gV; rw [plc_eq hSh.2.1 k1 k2, nI_clamp (by omega)]; exact hnf k0 k1 k3
      · exact absurd c1 a1
      · exact absurd c1 a1
      · exact absurd c1 a1
      · exact absurd a1 c1
      · rw [if_neg c1, if_neg c2]
        unfold m_X8_value_J44
        rw [if_pos (Int32.not_lt.mp c1)]
        have hlow : ¬ (f k).toInt < 100 := fun h => c2 (Int32.lt_iff_toInt_lt.mpr (by rw [show (100 : Int32).toInt = 100 by decide]; exact h))
        exact push (lit_64 c2 c4) (by unfold nf; omega) a3 a4
      · exact absurd a2 c2
      · exact absurd a2 c2
      · exact absurd a1 c1
      · exact absurd c2 a2
      · rw [if_neg c1, if_pos c2, if_neg (fun h => h c3)]
        have hh : 1 ≤ h := a4
        have e1 : nI h - 1 = nI (h - 1) := pk_sub (b := 1) hh
        obtain ⟨q1, q2⟩ := hst (h - 1) (by omega)
        rw [h40, e1, Ok_bif, Ok_bif, nI_clamp (by omega)]
        refine ⟨inB_nI (by omega) (by omega), inB_nI (by omega) (by omega), ?_⟩
        show Ok (some (Sum.inl (mJ T' 41 (h - 1) (-(T'.2 41 (h - 1))), nI k + 1))) _
        rw [nI_1, Ok_some]
        refine ⟨hk2, rfl, fun g hg => hF g hg, h2, v2, hN', h40.trans (by rw [a5]), fun q hq => ?_⟩
        show ((mJ T' 41 (h - 1) (-(T'.2 41 (h - 1)))).2 41 q).toInt = _ ∧ _
        rw [mJ_at]
        by_cases e : q = h - 1
        · rw [if_pos ⟨rfl, e⟩, e]
          refine ⟨?_, a8⟩
          rw [a6]
          unfold nf at q2
          unfold upZ
          rw [j_neg (by omega) (by omega), q1, if_pos rfl]
        · rw [if_neg (fun h => e h.2), a6]
          unfold upZ
          rw [if_neg e]
          exact hst q (by omega)
      · exact absurd c3 a3
      · exact absurd a1 c1
      · exact absurd c2 a2
      · exact absurd a3 c3
      · rw [if_neg c1, if_pos c2, if_pos c3]
        have hh : 2 ≤ h := a4
        have e1 : nI h - 1 = nI (h - 1) := pk_sub (b := 1) (by omega)
        have e2 : nI (h - 1) - 1 = nI (h - 2) := by rw [show h - 2 = h - 1 - 1 by omega]; exact pk_sub (b := 1) (by omega)
        obtain ⟨q1, q2⟩ := hst (h - 2) (by omega)
        obtain ⟨q3, q4⟩ := hst (h - 1) (by omega)
        have f40 : (mI T' 40 0 (nI (h - 1))).1 40 0 = nI (h - 1) := mI_eq _ _ _ _
        have hok : okZ (f k) (T'.2 41 (h - 2)).toInt (T'.2 41 (h - 1)).toInt := by
          rw [q1, q3]
          exact ⟨fun e h0 => a6.1 ⟨e, by omega, by omega⟩, fun e => (a6.2 e).1⟩
        obtain ⟨z, z1, z2⟩ := p_reckon (n := n) (S := mI T' 40 0 (nI (h - 1))) (by rw [q1]; exact q2) (by rw [q3]; exact q4) hok
        rw [h40, e1, Ok_nm, f40, e2, Ok_bif, Ok_bif, nI_clamp (by omega), nI_clamp (by omega)]
        refine ⟨inB_nI (by omega) (by omega), inB_nI (by omega) (by omega), ?_⟩
        show Ok ((m_X8_reckon n (mI T' 40 0 (nI (h - 1))) (f k) (T'.2 41 (h - 2)) (T'.2 41 (h - 1))).bind _) _
        rw [z1, Ok_bind, Ok_some, Ok_bif]
        refine ⟨inB_nI (by omega) (by omega), ?_⟩
        show Ok (some (Sum.inl (mJ (mI T' 40 0 (nI (h - 1))) 41 (h - 2) z, nI k + 1))) _
        rw [nI_1, Ok_some]
        have ez : v2 = upZ v' (h - 2) (opZ (f k) (v' (h - 2)) (v' (h - 1))) := by
          rw [a7]
          unfold ivO
          rw [(opZ_mn _).1]
        refine ⟨hk2, rfl, fun g hg => ?_, h2, v2, hN', ?_, fun q hq => ?_⟩
        · funext l
          show (mI T' 40 0 (nI (h - 1))).1 g l = _
          rw [mI_at, if_neg (fun h => hg h.1), hF g hg]
        · rw [a5]; exact f40
        · show ((mJ (mI T' 40 0 (nI (h - 1))) 41 (h - 2) z).2 41 q).toInt = _ ∧ _
          rw [mJ_at]
          by_cases e : q = h - 2
          · rw [if_pos ⟨rfl, e⟩, e]
            refine ⟨?_, a9, a10⟩
            rw [ez, z2, q1, q3]
            unfold upZ
            rw [if_pos rfl]
          · rw [if_neg (fun h => e h.2), ez]
            unfold upZ
            rw [if_neg e]
            exact hst q (by omega)
  unfold m_X8_value
  rw [Ok_nm]
  refine ok_seq hloop (fun w hw2 => ?_)
  show Ok (bif inB (nI 0) 12 then (some ((w.2 41 0).toInt32, w)) else none) _
  rw [inB_nI (by omega) (by omega), cond_true, Ok_some]
  exact ⟨hw2.1, by rw [to32 (by rw [hw2.2]; omega) (by rw [hw2.2]; omega), hw2.2]⟩
