/-! ===== make, the reference's ===== -/
theorem ma_cl {K : Nat} {M : MSt} {c i0 k0 N : Nat} {S : MSt} {ln cl : Nat → Nat} {ch : Nat → Nat → Nat} (h : maI K M c i0 k0 N S ln cl ch) (hK4 : K ≤ 4) (hM : MIrec K (M.1 2) (M.1 14) (M.1 15)) : ∀ r, r < 24 → S.1 14 r = -1 ∨ ∃ c, c < 4 ∧ S.1 14 r = nI c := by
  obtain ⟨a1, a2, a3, a4, -⟩ := h
  intro r hr
  by_cases e : ∃ j, j < N ∧ r = ln j
  · obtain ⟨j, hj, e⟩ := e
    obtain ⟨-, c2, -, -, c5, -⟩ := a2 j hj
    exact Or.inr ⟨cl j, by omega, by rw [e]; exact c5⟩
  · rw [(a4 r (fun j hj h => e ⟨j, hj, h⟩)).1]
    rcases hM r hr with h | ⟨c, hc, h, -⟩
    · exact Or.inl h
    · exact Or.inr ⟨c, by omega, h⟩
def famE (M : MSt) (c i0 k0 N : Nat) (cl : Nat → Nat) : Prop := fam M.1 c + smN (fun j => fam M.1 (cl j)) i0 + smN (fun k => if r6 (M.1 6) (cl i0) k = 2 then fam M.1 (r6 (M.1 7) (cl i0) k).toNatClampNeg else 0) k0 = i0 + smN (fun j => fam M.1 (cl j)) N
theorem famE_le {K : Nat} {M : MSt} (hM : MI K M.1) {c i0 k0 N q : Nat} {cl : Nat → Nat} (h : famE M c i0 k0 N cl) (hi : i0 < N) (hc : cl i0 < 4) (hq : M.1 4 (cl i0) = nI q) (hq6 : q ≤ 6) (hk : k0 ≤ q) : N + (smN (fun k => if r6 (M.1 6) (cl i0) k = 2 then fam M.1 (r6 (M.1 7) (cl i0) k).toNatClampNeg else 0) q - smN (fun k => if r6 (M.1 6) (cl i0) k = 2 then fam M.1 (r6 (M.1 7) (cl i0) k).toNatClampNeg else 0) k0) ≤ fam M.1 c := by
  have g1 := smN_ge (f := fun j => fam M.1 (cl j)) (fun _ => fam_pos _) (a := i0 + 1) (b := N) (by omega)
  have g2 : smN (fun j => fam M.1 (cl j)) (i0 + 1) = smN (fun j => fam M.1 (cl j)) i0 + fam M.1 (cl i0) := rfl
  have g3 := fam_eq hM hc hq hq6
  have g4 := smN_mono (fun k => if r6 (M.1 6) (cl i0) k = 2 then fam M.1 (r6 (M.1 7) (cl i0) k).toNatClampNeg else 0) (a := k0) (b := q) hk
  unfold famE at h
  omega
theorem famE_own {M : MSt} {c i0 k N d : Nat} {cl cl' : Nat → Nat} (h : famE M c i0 k N cl) (hi : i0 < N) (h1 : ∀ j, j < N → cl' j = cl j) (h2 : cl' N = d) (hx : (if r6 (M.1 6) (cl i0) k = 2 then fam M.1 (r6 (M.1 7) (cl i0) k).toNatClampNeg else 0) = fam M.1 d) : famE M c i0 (k + 1) (N + 1) cl' := by
  unfold famE at h ⊢
  have hgi : ∀ b, b ≤ N → smN (fun j => fam M.1 (cl' j)) b = smN (fun j => fam M.1 (cl j)) b := fun b hb => smN_cong (fun j hj => by rw [h1 j (by omega)])
  rw [h1 i0 hi, hgi i0 (by omega)]
  show _ + _ + (smN _ k + (if r6 (M.1 6) (cl i0) k = 2 then fam M.1 (r6 (M.1 7) (cl i0) k).toNatClampNeg else 0)) = i0 + (smN _ N + fam M.1 (cl' N))
  rw [hx, h2, hgi N (Nat.le_refl _)]
  omega
theorem p_makeR {n : Nat} {M : MSt} {K c : Nat} (hn : 60 < n) (hM : MI K M.1) (hroom : cn (fun r => !decide (M.1 14 r = -1)) 24 + fam M.1 c ≤ 24) {i0 N0 : Nat} {S0 : MSt} {ln0 cl0 : Nat → Nat} {ch0 : Nat → Nat → Nat} {x2 x3 x5 : Int32} (h : maI K M c i0 0 N0 S0 ln0 cl0 ch0) (hi : i0 < N0) (he : famE M c i0 0 N0 cl0) : Ok (lpO (b_X8_make_99 n x2 x3 x5 (nI (ln0 i0)) (nI (cl0 i0))) n (S0, nI N0, 0)) (fun w => ∃ N ln cl ch, w.2 = nI N ∧ maI K M c (i0 + 1) 0 N w.1 ln cl ch ∧ i0 < N ∧ ln 0 = ln0 0 ∧ fam M.1 c + smN (fun j => fam M.1 (cl j)) (i0 + 1) = i0 + 1 + smN (fun j => fam M.1 (cl j)) N) := by
  have hK4 := hM.1.1
  have hd0 : cl0 i0 < 4 := by have := (h.2.1 i0 hi).2.1; omega
  obtain ⟨q, hq, hSh⟩ := hM.2.1 (cl0 i0) hd0
  have hq6 := hSh.1
  have hl0 := (h.2.1 i0 hi).1
  refine ok_for3 (N := q) (by omega) (I := fun k S a => ∃ N ln cl ch, a = nI N ∧ maI K M c i0 k N S ln cl ch ∧ i0 < N ∧ famE M c i0 k N cl ∧ ln i0 = ln0 i0 ∧ cl i0 = cl0 i0 ∧ ln 0 = ln0 0) (fun k S a hk hI => ?_) ⟨N0, ln0, cl0, ch0, rfl, h, hi, he, rfl, rfl, rfl⟩
  obtain ⟨N, ln, cl, ch, e1, e2, e3, e4, e5, e6, e7⟩ := hI
  subst e1
  have hNle := famE_le hM e4 e3 (by rw [e6]; exact hd0) (by rw [e6]; exact hq) hq6 hk
  have s4 := e2.2.2.2.2.2.1 4 (by unfold frM; omega)
  have s6 := e2.2.2.2.2.2.1 6 (by unfold frM; omega)
  have s7 := e2.2.2.2.2.2.1 7 (by unfold frM; omega)
  unfold b_X8_make_99
  dsimp only
  rw [s4, s6, s7, Ok_bif, nI_clamp (by omega : cl0 i0 < 2 ^ 31), hq, ix6, ix6, Ok_ite]
  refine ⟨inB_nI hd0 (by omega), fun h => ?_, fun h => ?_⟩
  · have e : k = q := ge_eq (by omega) hk h
    rw [Ok_some]
    refine ⟨N, ln, cl, ch, rfl, ma_done e2 (fun i k' hi' ho => ?_), e3, e7, ?_⟩
    · obtain ⟨q', o1, o2, o3, -⟩ := ho
      constructor
      · intro hx; omega
      · intro hx
        rcases hx with hx | hx
        · rcases Nat.lt_succ_iff_lt_or_eq.mp hx with h4 | h4
          · exact Or.inl h4
          · refine Or.inr ⟨h4, ?_⟩
            rw [h4, e6] at o2
            have := (nI_eq (by omega) (by omega)).mp (o2.symm.trans hq)
            omega
        · omega
    · have g3 := fam_eq hM hd0 hq hq6
      unfold famE at e4
      rw [e6, e] at e4
      show _ + (smN _ i0 + fam M.1 (cl i0)) = _
      rw [e6, g3]
      omega
  · have hk2 : k < q := nge_lt (by omega) hk h
    rw [Ok_bif, nI_clamp (by omega : 6 * cl0 i0 + k < 2 ^ 31), Ok_ite]
    refine ⟨inB_nI (by omega) (by omega), fun h2 => ?_, fun h2 => ?_⟩
    · have h2 : ¬ r6 (M.1 6) (cl0 i0) k = 2 := h2
      rw [Ok_nm, Ok_some]
      refine ⟨hk2, nI_1 k, N, ln, cl, ch, rfl, ma_done e2 (fun i k' hi' ho => ?_), e3, ?_, e5, e6, e7⟩
      · constructor
        · intro hx; omega
        · intro hx
          rcases hx with hx | ⟨hx1, hx2⟩
          · exact Or.inl hx
          · rcases Nat.lt_succ_iff_lt_or_eq.mp hx2 with h4 | h4
            · exact Or.inr ⟨hx1, h4⟩
            · obtain ⟨q', -, -, -, o4⟩ := ho
              rw [hx1, h4, e6] at o4
              exact absurd o4 h2
      · unfold famE at e4 ⊢
        rw [e6] at e4 ⊢
        show _ + _ + (smN _ k + (if r6 (M.1 6) (cl0 i0) k = 2 then _ else 0)) = _
        rw [if_neg h2]
        omega
    · have h2 : r6 (M.1 6) (cl0 i0) k = 2 := Decidable.not_not.mp h2
      obtain ⟨d, hd1, hd2, -⟩ := kid_of hM hd0 hq hq6 hk2 h2
      obtain ⟨q2, hq2, hSh2⟩ := hM.2.1 d (by omega)
      have hfd := fam_pos (m := M.1) d
      have hx : (if r6 (M.1 6) (cl0 i0) k = 2 then fam M.1 (r6 (M.1 7) (cl0 i0) k).toNatClampNeg else 0) = fam M.1 d := by
        rw [if_pos h2, hd2, nI_clamp (by omega)]
      have hmono := smN_mono (fun k => if r6 (M.1 6) (cl0 i0) k = 2 then fam M.1 (r6 (M.1 7) (cl0 i0) k).toNatClampNeg else 0) (a := k + 1) (b := q) (by omega)
      have hstep : smN (fun k => if r6 (M.1 6) (cl0 i0) k = 2 then fam M.1 (r6 (M.1 7) (cl0 i0) k).toNatClampNeg else 0) (k + 1) = smN (fun k => if r6 (M.1 6) (cl0 i0) k = 2 then fam M.1 (r6 (M.1 7) (cl0 i0) k).toNatClampNeg else 0) k + fam M.1 d := by
        rw [← hx]; rfl
      rw [e6] at hNle
      have hcnt := e2.2.2.2.2.2.2.2
      obtain ⟨s, s1, s2, s3⟩ := p_free (n := n) (M := S) (by omega) (ma_cl e2 hK4 hM.2.2.1) (by omega)
      have hb := p_bare (n := n) (M := S) (c := d) (q := q2) (s := s) (by omega) (by omega) (by rw [s4]; exact hq2) hSh2.1 s1 s3
      rw [Ok_bif, show M.1 7 (6 * cl0 i0 + k) = nI d from hd2, hb, Ok_bind, Ok_some, Ok_bif, Ok_nm, Ok_bif, Ok_bif, Ok_nm, Ok_nm, Ok_nm, Ok_some, nI_clamp (by omega : N < 2 ^ 31), nI_clamp (by omega : 6 * ln0 i0 + k < 2 ^ 31), mI_eq]
      refine ⟨inB_nI (by omega) (by omega), inB_nI (by omega) (by omega), inB_nI (by omega) (by omega), inB_nI (by omega) (by omega), hk2, nI_1 k, ?_⟩
      have hma := ma_own e2 (d := d) (q := q2) (s := s) e3 (by rw [e6]; exact ⟨q, hq6, hq, hk2, h2⟩) (by rw [e6]; unfold loM; rw [hd2, nI_clamp (by omega)]) hd1 hK4 hq2 hSh2.1 s1 s2
      rw [e5] at hma
      refine ⟨N + 1, _, _, _, nI_1 N, hma, by omega, ?_, ?_, ?_, ?_⟩
      · exact famE_own e4 e3 (fun j hj => if_neg (by omega)) (if_pos rfl) (by rw [e6]; exact hx)
      · exact (if_neg (show ¬ i0 = N by omega)).trans e5
      · exact (if_neg (show ¬ i0 = N by omega)).trans e6
      · exact (if_neg (show ¬ 0 = N by omega)).trans e7
theorem p_makeL {n : Nat} {M : MSt} {K c : Nat} (hn : 60 < n) (hM : MI K M.1) (hc : c < K) (hroom : cn (fun r => !decide (M.1 14 r = -1)) 24 + fam M.1 c ≤ 24) {s q : Nat} {x2 x3 : Int32} (hq : M.1 4 c = nI q) (hq6 : q ≤ 6) (hs : s < 24) (hs0 : M.1 14 s = -1) : Ok (lpO (b_X8_make_71 n x2 x3) n (mI (baM M c q s) 43 0 (nI s), 1, 0)) (fun S => ∃ ln cl ch, maI K M c (fam M.1 c) 0 (fam M.1 c) S ln cl ch ∧ ln 0 = s) := by
  have hK4 := hM.1.1
  have start : maI K M c 0 0 1 (mI (baM M c q s) 43 0 (nI s)) (fun _ => s) (fun _ => c) (fun _ _ => 0) := by
    have g3 : ∀ e, (mI (baM M c q s) 43 0 (nI s)).1 3 e = if e = c then 0 else M.1 3 e := fun e => by
      show (mI (mI (mI M 14 s (nI c)) 15 s (M.1 2 c)) 3 c 0).1 3 e = _
      rw [mI_at]
      by_cases e1 : e = c
      · rw [if_pos ⟨rfl, e1⟩, if_pos e1]
      · rw [if_neg (fun h => e1 h.2), if_neg e1]; rfl
    have g14 : ∀ r, (mI (baM M c q s) 43 0 (nI s)).1 14 r = if r = s then nI c else M.1 14 r := fun r => by
      show (mI M 14 s (nI c)).1 14 r = _
      rw [mI_at]
      by_cases e : r = s
      · rw [if_pos ⟨rfl, e⟩, if_pos e]
      · rw [if_neg (fun h => e h.2), if_neg e]
    have g15 : ∀ r, (mI (baM M c q s) 43 0 (nI s)).1 15 r = if r = s then M.1 2 c else M.1 15 r := fun r => by
      show (mI (mI M 14 s (nI c)) 15 s (M.1 2 c)).1 15 r = _
      rw [mI_at]
      by_cases e : r = s
      · rw [if_pos ⟨rfl, e⟩, if_pos e]
      · rw [if_neg (fun h => e h.2), if_neg e]; rfl
    have g16 : ∀ r k, k < 6 → r6 ((mI (baM M c q s) 43 0 (nI s)).1 16) r k = if r = s then dflM M c q k else r6 (M.1 16) r k := fun r k hk => by
      show (if 6 * s ≤ 6 * r + k ∧ 6 * r + k < 6 * s + 6 then dflM M c q (6 * r + k - 6 * s) else M.1 16 (6 * r + k)) = _
      by_cases e1 : r = s
      · rw [if_pos e1, if_pos (by omega), show 6 * r + k - 6 * s = k by omega]
      · rw [if_neg e1, if_neg (by omega)]; rfl
    have fg : ∀ g, frM g → (mI (baM M c q s) 43 0 (nI s)).1 g = M.1 g := fun g hg => by
      obtain ⟨g1, g2, g3, g4, g5⟩ := hg
      funext l
      unfold baM
      rw [mI_at, if_neg (fun h => g5 h.1), mR_at2, if_neg g4, mI_at, if_neg (fun h => g1 h.1), mI_at, if_neg (fun h => g3 h.1), mI_at, if_neg (fun h => g2 h.1)]
    refine ⟨⟨by omega, rfl, fun i k hi hp => ?_, fun j hj hjN => ?_, fun i k1 i' k2 hi hi' hp _ _ => ?_⟩, fun j hj => ⟨hs, hc, hs0, ?_, ?_, ?_, ?_⟩, fun i hi j hj _ => by omega, fun r hr => ?_, fun j q' k hj hq' hm hk => ⟨fun hp => ?_, fun _ => ?_⟩, fg, fun e => ?_, ?_⟩
    · have := hp.2; omega
    · omega
    · have := hp.2; omega
    · have : j = 0 := by omega
      rw [this, mI_eq]
    · rw [g14, if_pos rfl]
    · rw [g15, if_pos rfl]
    · rw [g3, if_pos rfl]
    · have hne := hr 0 (by omega)
      exact ⟨by rw [g14, if_neg hne], by rw [g15, if_neg hne], fun k hk => by rw [g16 r k hk, if_neg hne]⟩
    · have := hp.2; omega
    · have eq : q' = q := (nI_eq (by omega) (by omega)).mp (hm.symm.trans hq)
      rw [g16 _ k hk, if_pos rfl, eq]
    · rw [g3]
      by_cases e1 : e = c
      · rw [if_pos e1]
        exact Or.inr ⟨rfl, 0, by omega, e1.symm⟩
      · rw [if_neg e1]
        exact Or.inl rfl
    · refine cn_up (i := s) (by simp [hs0]) ?_ (fun k hk => ?_) hs
      · rw [g14, if_pos rfl]
        simp only [Bool.not_eq_true', decide_eq_false_iff_not]
        exact nI_ne_m1 (by omega)
      · rw [g14, if_neg hk]
  refine ok_for3 (N := 24) (by omega) (I := fun i S a => ∃ N ln cl ch, a = nI N ∧ maI K M c i 0 N S ln cl ch ∧ i ≤ N ∧ ln 0 = s ∧ fam M.1 c + smN (fun j => fam M.1 (cl j)) i = i + smN (fun j => fam M.1 (cl j)) N) (fun i S a hi hI => ?_) ⟨1, _, _, _, rfl, start, by omega, rfl, ?_⟩
  · obtain ⟨N, ln, cl, ch, e1, e2, e3, e4, e5⟩ := hI
    subst e1
    have hcnt := e2.2.2.2.2.2.2.2
    have hN24 : N ≤ 24 := by
      have := cn_le (fun r => !decide (S.1 14 r = -1)) 24
      omega
    unfold b_X8_make_71
    dsimp only
    rw [Ok_ite]
    refine ⟨fun h => ?_, fun h => ?_⟩
    · have e : i = N := by
        have := (nI_leI (by omega) (by omega)).mp h
        omega
      rw [Ok_some]
      rw [e] at e5 e2
      have e6 : fam M.1 c = N := by omega
      rw [e6]
      exact ⟨ln, cl, ch, e2, e4⟩
    · have hiN : i < N := Nat.not_le.mp (fun q => h (nI_le q (by omega)))
      obtain ⟨c1, c2, c3, c4, c5, -⟩ := e2.2.1 i hiN
      rw [Ok_bif, Ok_nm, Ok_bif, Ok_nm, nI_clamp (by omega), c4, nI_clamp (by omega), c5]
      refine ⟨inB_nI (by omega) (by omega), inB_nI c1 (by omega), ok_seq (p_makeR hn hM hroom e2 hiN (by unfold famE; exact e5)) (fun w hw => ?_)⟩
      obtain ⟨N2, ln2, cl2, ch2, f1, f2, f3, f4, f5⟩ := hw
      rw [Ok_nm, Ok_some]
      exact ⟨by omega, nI_1 i, N2, ln2, cl2, ch2, f1, f2, by omega, f4.trans e4, f5⟩
  · show fam M.1 c + 0 = 0 + (0 + fam M.1 c)
    omega
