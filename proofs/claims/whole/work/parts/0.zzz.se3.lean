/-! ===== change: the class behind a change; what a refused change leaves ===== -/
theorem set_CR {j K L q L1 : Nat} {σ τ : Nat → Nat} {D S : CSt} {B T W : MSt} {c m0 m : Nat} (hb : Base j K L q σ τ D B c m0) (hM : JM K B T c m0 m) (hJ : JC j K B D σ c m0 S T m L1) (h : SetM T W c) : ∃ L' σ' τ', CR j K L' σ' τ' (fS S c m (if T.1 35 0 = 0 then 1 else 0)).1 W.1 := by
  obtain ⟨hMB, hCB, hcK, hB4, hm0, hq6, hst, hsd⟩ := id hb
  have hc : c < 4 := by have := hMB.1.1; omega
  obtain ⟨vo, v4, vs, v16⟩ := SetV h
  obtain ⟨a1, a2, a3, a4, a5, a6, a7, a8⟩ := id h
  obtain ⟨hMI, hm6, hm, h27, h26, hfr, hcl, hcv, hor, hoi, hmx, -, hmix⟩ := id hM
  obtain ⟨σ', τ', L', hL, hCR, hDE, hσ, hbf, hsb, hrw, hno⟩ := hJ
  refine ⟨L', σ', τ', ?_⟩
  obtain ⟨kcls, ksh, kold, krec, kid, kcnt, kval, kroot, koldv, kwrd, kstp, kflt⟩ := hCR
  have uo : ∀ g, g < 4 ∨ 10 < g → (uS S c).1 g = S.1 g := fun g hg => uS_o S c g hg
  have fo : ∀ g, g < 3 ∨ 10 < g → (fS S c m (if T.1 35 0 = 0 then 1 else 0)).1 g = (uS S c).1 g := fun g hg => by rw [fS_o _ _ _ _ _ hc hg, uo g (by omega)]
  have fne : ∀ g i, 5 ≤ g → g ≤ 10 → i ≠ 2 * c → (fS S c m (if T.1 35 0 = 0 then 1 else 0)).1 g i = (uS S c).1 g i := fun g i g1 g2 hi => by rw [fS_ne _ _ _ _ _ _ hc g1 hi, uS_s _ _ _ _ g1 g2, if_neg hi]
  have fsh := fS_sh S c m (if T.1 35 0 = 0 then 1 else 0) hc
  have f3 : ∀ d, (fS S c m (if T.1 35 0 = 0 then 1 else 0)).1 3 d 0 = if d = c then S.1 3 c 0 + 1 else S.1 3 d 0 := fun d => by
    rw [fS_at _ _ _ _ _ _ _ hc, if_neg (show ¬ ((3 : Nat) = 4 ∧ d = c ∧ (0 : Nat) = 0) by omega), cpS_at _ _ _ _ _ _ _ (by omega), if_neg (show ¬ (d = 2 * c ∧ 5 ≤ 3 ∧ 3 ≤ 10) by omega)]
    by_cases e : d = c
    · rw [if_pos ⟨rfl, e, rfl⟩, if_pos e]
    · rw [if_neg (fun h => e h.2.1), if_neg e]
  have f4 : ∀ d, (fS S c m (if T.1 35 0 = 0 then 1 else 0)).1 4 d 0 = if d = c then (if T.1 35 0 = 0 then 1 else 0) else S.1 4 d 0 := fun d => by
    rw [fS_at _ _ _ _ _ _ _ hc, if_neg (show ¬ ((4 : Nat) = 3 ∧ d = c ∧ (0 : Nat) = 0) by omega), cpS_at _ _ _ _ _ _ _ (by omega), if_neg (show ¬ (d = 2 * c ∧ 5 ≤ 4 ∧ 4 ≤ 10) by omega)]
    by_cases e : d = c
    · rw [if_pos ⟨rfl, e, rfl⟩, if_pos e]
    · rw [if_neg (fun h => e h.2.1), if_neg e]
  generalize hF : fS S c m (if T.1 35 0 = 0 then 1 else 0) = F at fo fne fsh f3 f4
  have t2 : (vS T c).1 2 = T.1 2 := vS_o T c 2 (by omega) (by omega) (by omega)
  have w3 : ∀ d, d < 4 → d ≠ c → W.1 3 d = (vS T c).1 3 d := fun d hd e => by
    rw [a3 d hd, if_neg e]
    show _ = (if d = c ∨ dsB (T.1 36 0) d = true then 0 else T.1 3 d)
    by_cases b : dsB (T.1 36 0) d = true
    · rw [if_pos b, if_pos (Or.inr b)]
    · rw [if_neg b, if_neg (fun h => h.elim e b)]
  have e6 : ∀ d k, k < 6 → r6 (W.1 6) d k = r6 ((vS T c).1 6) d k := fun d k hk => vs 6 d k (by omega) (by omega) hk
  have e14 : W.1 14 = (vS T c).1 14 := vo 14 (by omega)
  have t14 : (vS T c).1 14 = T.1 14 := vS_o T c 14 (by omega) (by omega) (by omega)
  have hFl : ∀ {r d k : Nat} {q : Int32}, Fld (W.1 4) (W.1 6) (W.1 14) r d k q ↔ Fld ((vS T c).1 4) ((vS T c).1 6) ((vS T c).1 14) r d k q := Fld_iff v4 e6 e14
  refine ⟨⟨by rw [fo 0 (by omega)]; exact kcls.1, fun d hd => ⟨?_, ?_⟩⟩, fun d w hd hw6 hw => ?_, fun d w hd hw6 hw h3 => ?_, by rw [fo 13 (by omega), fo 14 (by omega), fo 15 (by omega), e14, vo 15 (by omega)]; exact krec, by rw [fo 12 (by omega), fo 13 (by omega)]; exact kid, by rw [fo 11 (by omega), e14]; exact kcnt, fun r d k x hf => ?_, by rw [fo 13 (by omega), fo 19 (by omega), vo 19 (by omega)]; exact kroot, fun d mo r k hd h3 hmo h9 hr h14 hk => ?_, by rw [fo 20 (by omega), fo 21 (by omega), vo 20 (by omega), vo 21 (by omega)]; exact kwrd, by rw [fo 1 (by omega), fo 20 (by omega), fo 21 (by omega), fo 22 (by omega), fo 23 (by omega), fo 24 (by omega), fo 25 (by omega), fo 26 (by omega), vo 22 (by omega), vo 23 (by omega), vo 24 (by omega), vo 25 (by omega)]; exact kstp, by rw [fo 2 (by omega), vo 26 (by omega)]; exact kflt⟩
  · rw [f3 d, a2 d]
    have k1 : ∀ d, d < 4 → S.1 3 d 0 = T.1 2 d := fun d hd => by
      have := (kcls.2 d hd).1
      rw [uo 3 (by omega), t2] at this
      exact this
    by_cases e : d = c
    · rw [if_pos e, if_pos e, k1 c hc]
    · rw [if_neg e, if_neg e, k1 d hd]
  · rw [f4 d]
    by_cases e : d = c
    · subst e
      rw [if_pos rfl, a3 d hd, if_pos rfl]
    · rw [if_neg e, w3 d hd e, ← (kcls.2 d hd).2]
      show _ = (if d = c ∧ (0 : Nat) = 0 then 0 else S.1 4 d 0)
      rw [if_neg (fun h => e h.1)]
  · rw [v4] at hw
    by_cases e : d = c
    · subst e
      have hw' : (if d = d then T.1 28 0 else T.1 4 d) = nI w := hw
      rw [if_pos rfl, hm] at hw'
      have ew : m = w := (nI_eq (by omega) (by omega)).mp hw'
      subst ew
      refine ⟨fsh.1, fun k hk => ?_⟩
      obtain ⟨z1, z2, z3, z4⟩ := fsh.2 k hk
      obtain ⟨y1, y2, y3, y4, -⟩ := hDE.2.2.2 k hk
      rw [z1, z2, z3, z4, y1, y2, y3, y4, a6 5 d k (by omega) (by omega) (by omega), a6 6 d k (by omega) (by omega) (by omega), a6 7 d k (by omega) (by omega) (by omega), a6 8 d k (by omega) (by omega) (by omega), if_pos rfl, if_pos rfl, if_pos rfl, if_pos rfl]
      exact ⟨rfl, rfl, rfl, rfl⟩
    · obtain ⟨p1, p2⟩ := ksh d w hd hw6 hw
      refine ⟨by rw [fne 5 _ (by omega) (by omega) (by omega)]; exact p1, fun k hk => ?_⟩
      rw [fne 6 _ (by omega) (by omega) (by omega), fne 7 _ (by omega) (by omega) (by omega), fne 8 _ (by omega) (by omega) (by omega), fne 9 _ (by omega) (by omega) (by omega), vs 5 d k (by omega) (by omega) (by omega), vs 6 d k (by omega) (by omega) (by omega), vs 7 d k (by omega) (by omega) (by omega), vs 8 d k (by omega) (by omega) (by omega)]
      exact p2 k hk
  · by_cases e : d = c
    · subst e
      rw [a5 d, if_pos rfl, hfr.1 4 (by omega), hB4] at hw
      have ew : m0 = w := (nI_eq (by omega) (by omega)).mp hw
      subst ew
      have f1 : ∀ g, 5 ≤ g → g ≤ 10 → F.1 g (2 * d + 1) = S.1 g (2 * d + 1) := fun g g1 g2 => by rw [fne g _ g1 g2 (by omega), uS_s _ _ _ _ g1 g2, if_neg (by omega)]
      refine ⟨by rw [f1 5 (by omega) (by omega)]; exact hsb.1, fun k hk => ?_⟩
      rw [f1 6 (by omega) (by omega), f1 7 (by omega) (by omega), f1 8 (by omega) (by omega), f1 9 (by omega) (by omega), a7 10 d k (by omega) (by omega) (by omega), a7 11 d k (by omega) (by omega) (by omega), a7 12 d k (by omega) (by omega) (by omega), a7 13 d k (by omega) (by omega) (by omega), if_pos rfl, if_pos rfl, if_pos rfl, if_pos rfl, hfr.1 (10 - 5) (by omega), hfr.1 (11 - 5) (by omega), hfr.1 (12 - 5) (by omega), hfr.1 (13 - 5) (by omega)]
      exact hsb.2 k hk
    · rw [w3 d hd e] at h3
      rw [a5 d, if_neg e, ← vS_o T c 9 (by omega) (by omega) (by omega)] at hw
      obtain ⟨p1, p2⟩ := kold d w hd hw6 hw h3
      refine ⟨by rw [fne 5 _ (by omega) (by omega) (by omega)]; exact p1, fun k hk => ?_⟩
      rw [fne 6 _ (by omega) (by omega) (by omega), fne 7 _ (by omega) (by omega) (by omega), fne 8 _ (by omega) (by omega) (by omega), fne 9 _ (by omega) (by omega) (by omega), a7 10 d k (by omega) (by omega) (by omega), a7 11 d k (by omega) (by omega) (by omega), a7 12 d k (by omega) (by omega) (by omega), a7 13 d k (by omega) (by omega) (by omega), if_neg e, if_neg e, if_neg e, if_neg e, ← vS_o T c 10 (by omega) (by omega) (by omega), ← vS_o T c 11 (by omega) (by omega) (by omega), ← vS_o T c 12 (by omega) (by omega) (by omega), ← vS_o T c 13 (by omega) (by omega) (by omega)]
      exact p2 k hk
  · have hk := Fld_lt hf
    rw [fo 13 (by omega), fo 17 (by omega), v16 r k hf.1 hk]
    exact kval r d k x (hFl.mp hf)
  · rw [e14] at h14
    rw [fo 13 (by omega), fo 18 (by omega)]
    by_cases e : d = c
    · subst e
      rw [a3 d hd, if_pos rfl] at h3
      have h35 : T.1 35 0 = 0 := Decidable.byContradiction (fun hn => by rw [if_neg hn] at h3; exact one_ne h3.symm)
      obtain ⟨n1, n2⟩ := hno h35
      obtain ⟨-, m14, -, m16, -, -⟩ := hmix h35
      rw [a5 d, if_pos rfl, hfr.1 4 (by omega), hB4] at h9
      have ew : m0 = mo := (nI_eq (by omega) (by omega)).mp h9
      subst ew
      rw [t14] at h14
      have h14' : B.1 14 r = nI d := by rw [← m14]; exact h14
      have eσ : σ' = σ := funext n1
      have hv := hCB.2.2.2.2.2.2.1 r d k _ ⟨hr, hd, h14', ⟨m0, hm0, hB4, hk⟩, rfl⟩
      rw [a7 11 d k (by omega) (by omega) (by omega), if_pos rfl, hfr.1 (11 - 5) (by omega), (a8 r k hr (by omega)).2, if_pos h14, m16, uo 18 (by omega), uo 13 (by omega), n2, eσ, hbf r k hr h14' (by omega), hv]
      show (r6 (B.1 6) d k = 0 → _) ∧ (r6 (B.1 6) d k ≠ 0 → _)
      refine ⟨fun h0 => by rw [if_pos h0], fun h0 => ⟨fun _ => by rw [if_neg h0], fun hm1 => ⟨0, Nat.zero_le _, by rw [if_neg h0, hm1, tr_m1]; rfl, fun e' _ hne => hne⟩⟩⟩
    · have h14' := h14
      rw [t14] at h14'
      rw [w3 d hd e] at h3
      rw [a5 d, if_neg e, ← vS_o T c 9 (by omega) (by omega) (by omega)] at h9
      rw [a7 11 d k (by omega) (by omega) (by omega), if_neg e, (a8 r k hr (by omega)).2, if_neg (fun h => e (nI_inj4 hd hc (h14'.symm.trans h))), ← vS_o T c 11 (by omega) (by omega) (by omega), ← vS_o T c 17 (by omega) (by omega) (by omega)]
      exact koldv d mo r k hd h3 hmo h9 hr h14 hk
theorem MI_ext {K : Nat} {m m' : Nat → Nat → Int32} (hM : MI K m) (h : ∀ g, 1 ≤ g → g ≤ 25 → m' g = m g) : MI K m' := by
  obtain ⟨h1, h2, h3, h4, h5, h6, h7, h8, h9⟩ := hM
  refine ⟨?_, ?_, ?_, ?_, ?_, ?_, ?_, ?_, ?_⟩
  · rw [h 1 (by omega) (by omega), h 2 (by omega) (by omega), h 3 (by omega) (by omega)]; exact h1
  · rw [h 4 (by omega) (by omega), h 5 (by omega) (by omega), h 6 (by omega) (by omega), h 7 (by omega) (by omega), h 8 (by omega) (by omega)]; exact h2
  · rw [h 2 (by omega) (by omega), h 14 (by omega) (by omega), h 15 (by omega) (by omega)]; exact h3
  · rw [h 4 (by omega) (by omega), h 6 (by omega) (by omega), h 7 (by omega) (by omega), h 8 (by omega) (by omega), h 14 (by omega) (by omega), h 16 (by omega) (by omega)]; exact h4
  · rw [h 14 (by omega) (by omega), h 19 (by omega) (by omega)]; exact h5
  · rw [h 4 (by omega) (by omega), h 6 (by omega) (by omega), h 7 (by omega) (by omega)]; exact h6
  · rw [h 3 (by omega) (by omega), h 4 (by omega) (by omega), h 6 (by omega) (by omega), h 7 (by omega) (by omega), h 8 (by omega) (by omega), h 9 (by omega) (by omega), h 10 (by omega) (by omega), h 11 (by omega) (by omega), h 12 (by omega) (by omega), h 13 (by omega) (by omega), h 14 (by omega) (by omega), h 16 (by omega) (by omega), h 17 (by omega) (by omega)]; exact h7
  · rw [h 20 (by omega) (by omega), h 21 (by omega) (by omega)]; exact h8
  · rw [h 22 (by omega) (by omega), h 23 (by omega) (by omega), h 24 (by omega) (by omega), h 25 (by omega) (by omega)]; exact h9
theorem CR_ext {j K L : Nat} {σ τ : Nat → Nat} {s s' : Nat → Nat → Nat → Int32} {m m' : Nat → Nat → Int32} (hC : CR j K L σ τ s m) (h : ∀ g, 1 ≤ g → g ≤ 25 → m' g = m g) (f : ∀ g, g ≠ 2 → g ≠ 27 → (g < 5 ∨ 10 < g) → s' g = s g) (fs : ∀ g i, 5 ≤ g → g ≤ 10 → i < 8 → s' g i = s g i) (hf : s' 2 0 0 = m' 26 0) : CR j K L σ τ s' m' := by
  obtain ⟨kcls, ksh, kold, krec, kid, kcnt, kval, kroot, koldv, kwrd, kstp, kflt⟩ := hC
  refine ⟨?_, fun d w hd hw6 hw => ?_, fun d w hd hw6 hw h3 => ?_, ?_, ?_, ?_, ?_, ?_, ?_, ?_, ?_, hf⟩
  · rw [f 0 (by omega) (by omega) (by omega), f 3 (by omega) (by omega) (by omega), f 4 (by omega) (by omega) (by omega), h 2 (by omega) (by omega), h 3 (by omega) (by omega)]; exact kcls
  · rw [h 4 (by omega) (by omega)] at hw
    rw [h 5 (by omega) (by omega), h 6 (by omega) (by omega), h 7 (by omega) (by omega), h 8 (by omega) (by omega)]
    obtain ⟨p1, p2⟩ := ksh d w hd hw6 hw
    refine ⟨by rw [fs 5 _ (by omega) (by omega) (by omega)]; exact p1, fun k hk => ?_⟩
    rw [fs 6 _ (by omega) (by omega) (by omega), fs 7 _ (by omega) (by omega) (by omega), fs 8 _ (by omega) (by omega) (by omega), fs 9 _ (by omega) (by omega) (by omega)]
    exact p2 k hk
  · rw [h 9 (by omega) (by omega)] at hw
    rw [h 3 (by omega) (by omega)] at h3
    rw [h 10 (by omega) (by omega), h 11 (by omega) (by omega), h 12 (by omega) (by omega), h 13 (by omega) (by omega)]
    obtain ⟨p1, p2⟩ := kold d w hd hw6 hw h3
    refine ⟨by rw [fs 5 _ (by omega) (by omega) (by omega)]; exact p1, fun k hk => ?_⟩
    rw [fs 6 _ (by omega) (by omega) (by omega), fs 7 _ (by omega) (by omega) (by omega), fs 8 _ (by omega) (by omega) (by omega), fs 9 _ (by omega) (by omega) (by omega)]
    exact p2 k hk
  · rw [f 13 (by omega) (by omega) (by omega), f 14 (by omega) (by omega) (by omega), f 15 (by omega) (by omega) (by omega), h 14 (by omega) (by omega), h 15 (by omega) (by omega)]; exact krec
  · rw [f 12 (by omega) (by omega) (by omega), f 13 (by omega) (by omega) (by omega)]; exact kid
  · rw [f 11 (by omega) (by omega) (by omega), h 14 (by omega) (by omega)]; exact kcnt
  · rw [f 13 (by omega) (by omega) (by omega), f 17 (by omega) (by omega) (by omega), h 4 (by omega) (by omega), h 6 (by omega) (by omega), h 14 (by omega) (by omega), h 16 (by omega) (by omega)]; exact kval
  · rw [f 13 (by omega) (by omega) (by omega), f 19 (by omega) (by omega) (by omega), h 19 (by omega) (by omega)]; exact kroot
  · rw [f 13 (by omega) (by omega) (by omega), f 18 (by omega) (by omega) (by omega), h 3 (by omega) (by omega), h 9 (by omega) (by omega), h 11 (by omega) (by omega), h 14 (by omega) (by omega), h 17 (by omega) (by omega)]; exact koldv
  · rw [f 20 (by omega) (by omega) (by omega), f 21 (by omega) (by omega) (by omega), h 20 (by omega) (by omega), h 21 (by omega) (by omega)]; exact kwrd
  · rw [f 1 (by omega) (by omega) (by omega), f 20 (by omega) (by omega) (by omega), f 21 (by omega) (by omega) (by omega), f 22 (by omega) (by omega) (by omega), f 23 (by omega) (by omega) (by omega), f 24 (by omega) (by omega) (by omega), f 25 (by omega) (by omega) (by omega), f 26 (by omega) (by omega) (by omega), h 22 (by omega) (by omega), h 23 (by omega) (by omega), h 24 (by omega) (by omega), h 25 (by omega) (by omega)]; exact kstp
theorem p_restore {n : Nat} {M B T : MSt} {c m0 : Nat} (hn : 200 < n) (hB : BegM M B c m0) (hF : FrT B T) : Ok (m_X8_restore n T) (fun W => (∀ g, g < 26 → g ≠ 0 → W.1 g = B.1 g) ∧ W.1 26 = T.1 26) := by
  have t37 : ∀ r, r < 24 → T.1 37 r = B.1 14 r ∧ T.1 38 r = B.1 15 r := fun r hr => by
    rw [hF.1 37 (by omega), hF.1 38 (by omega), hB.1 14 (by omega), hB.1 15 (by omega)]
    exact hB.2.2.2.2.2.2.2 r hr
  have t39 : ∀ l, l < 144 → T.1 39 l = B.1 16 l := fun l hl => by
    rw [hF.1 39 (by omega), hB.1 16 (by omega)]
    exact (hB.2.2.2.2.2.2.1 l hl).2
  unfold m_X8_restore
  have l1 : Ok (lpO (b_X8_restore_2 n) n (T, 0)) (fun W => (∀ g, g ≠ 16 → W.1 g = T.1 g) ∧ W.1 16 = B.1 16) := by
    refine ok_for2 (N := 144) (by omega) (I := fun q W => (∀ g, g ≠ 16 → W.1 g = T.1 g) ∧ (∀ l, l < q → W.1 16 l = B.1 16 l) ∧ ∀ l, q ≤ l → W.1 16 l = T.1 16 l) (fun k W hk hI => ?_) ⟨fun _ _ => rfl, fun l hl => absurd hl (Nat.not_lt_zero _), fun _ _ => rfl⟩
    obtain ⟨a1, a2, a3⟩ := hI
    unfold b_X8_restore_2
    dsimp only
    rw [Ok_ite]
    refine ⟨fun h3 => ?_, fun h3 => ?_⟩
    · rw [Ok_some]
      have ek : k = 144 := ge_eq (by decide) hk h3
      subst ek
      refine ⟨a1, funext fun l => ?_⟩
      by_cases hl : l < 144
      · exact a2 l hl
      · rw [a3 l (by omega), hF.2.2 l (by omega)]
    · have hk2 : k < 144 := nge_lt (by decide) hk h3
      rw [Ok_bif, Ok_bif, Ok_nm, Ok_nm, Ok_some, nI_1, nI_clamp (by omega), a1 39 (by omega), t39 k hk2]
      refine ⟨inB_nI hk2 (by omega), inB_nI hk2 (by omega), hk2, rfl, fun g hg => ?_, fun l hl => ?_, fun l hl => ?_⟩
      · funext l
        rw [mI_at, if_neg (fun h => hg h.1), a1 g hg]
      · by_cases e : l = k
        · subst e
          rw [mI_eq]
        · rw [mI_at, if_neg (fun h => e h.2)]
          exact a2 l (by omega)
      · rw [mI_at, if_neg (by omega)]
        exact a3 l (by omega)
  refine ok_seq l1 (fun W1 q1 => ?_)
  obtain ⟨a1, a16⟩ := q1
  have l2 : Ok (lpO (b_X8_restore_29 n) n (W1, 0)) (fun W => (∀ g, g ≠ 14 → g ≠ 15 → W.1 g = W1.1 g) ∧ W.1 14 = B.1 14 ∧ W.1 15 = B.1 15) := by
    refine ok_for2 (N := 24) (by omega) (I := fun q W => (∀ g, g ≠ 14 → g ≠ 15 → W.1 g = W1.1 g) ∧ (∀ l, l < q → W.1 14 l = B.1 14 l ∧ W.1 15 l = B.1 15 l) ∧ ∀ l, q ≤ l → W.1 14 l = T.1 14 l ∧ W.1 15 l = T.1 15 l) (fun k W hk hI => ?_) ⟨fun _ _ _ => rfl, fun l hl => absurd hl (Nat.not_lt_zero _), fun l _ => by rw [a1 14 (by omega), a1 15 (by omega)]; exact ⟨rfl, rfl⟩⟩
    obtain ⟨b1, b2, b3⟩ := hI
    unfold b_X8_restore_29
    dsimp only
    rw [Ok_ite]
    refine ⟨fun h3 => ?_, fun h3 => ?_⟩
    · rw [Ok_some]
      have ek : k = 24 := ge_eq (by decide) hk h3
      subst ek
      refine ⟨b1, funext fun l => ?_, funext fun l => ?_⟩
      · by_cases hl : l < 24
        · exact (b2 l hl).1
        · rw [(b3 l (by omega)).1, (hF.2.1 l (by omega)).1]
      · by_cases hl : l < 24
        · exact (b2 l hl).2
        · rw [(b3 l (by omega)).2, (hF.2.1 l (by omega)).2]
    · have hk2 : k < 24 := nge_lt (by decide) hk h3
      have b24 : inB (nI k) 24 = true := inB_nI hk2 (by omega)
      rw [b24, nI_clamp (by omega)]
      show Ok (some (Sum.inl (mI (mI W 14 k (W.1 37 k)) 15 k (W.1 38 k), nI k + 1))) _
      obtain ⟨t1, t2⟩ := t37 k hk2
      rw [Ok_some, nI_1, b1 37 (by omega) (by omega), b1 38 (by omega) (by omega), a1 37 (by omega), a1 38 (by omega), t1, t2]
      have ne : ∀ g l, l ≠ k → (mI (mI W 14 k (B.1 14 k)) 15 k (B.1 15 k)).1 g l = W.1 g l := fun g l hl => by rw [mI_at, if_neg (fun h => hl h.2), mI_at, if_neg (fun h => hl h.2)]
      refine ⟨hk2, rfl, fun g g1 g2 => ?_, fun l hl => ?_, fun l hl => ?_⟩
      · funext l
        rw [mI_at, if_neg (fun h => g2 h.1), mI_at, if_neg (fun h => g1 h.1), b1 g g1 g2]
      · by_cases e : l = k
        · subst e
          exact ⟨by rw [mI_at, if_neg (by omega), mI_eq], by rw [mI_eq]⟩
        · rw [ne 14 l e, ne 15 l e]
          exact b2 l (by omega)
      · rw [ne 14 l (by omega), ne 15 l (by omega)]
        exact b3 l (by omega)
  refine ok_seq l2 (fun W q2 => ?_)
  obtain ⟨b1, b14, b15⟩ := q2
  rw [Ok_some]
  refine ⟨fun g hg h0 => ?_, by rw [b1 26 (by omega) (by omega), a1 26 (by omega)]⟩
  by_cases e14 : g = 14
  · rw [e14]; exact b14
  by_cases e15 : g = 15
  · rw [e15]; exact b15
  by_cases e16 : g = 16
  · rw [e16, b1 16 (by omega) (by omega)]; exact a16
  rw [b1 g e14 e15, a1 g e16, hF.1 g (by omega)]
