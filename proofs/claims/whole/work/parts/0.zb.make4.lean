theorem cn_pos {p : Nat → Bool} : ∀ {m : Nat}, 0 < cn p m → ∃ k, k < m ∧ p k = true
  | 0, h => absurd h (Nat.lt_irrefl _)
  | m + 1, h => by
    by_cases e : p m = true
    · exact ⟨m, by omega, e⟩
    · rw [cn_f e] at h
      obtain ⟨k, k1, k2⟩ := cn_pos h
      exact ⟨k, by omega, k2⟩
/-- an entry is taken: its id, its class, its version -/
def adS (S : CSt) (c e L : Nat) (v : Int32) : CSt := sI (sI (sI (sI (sI (sI S 4 c 0 0) 12 0 0 (nI (L + 1))) 11 0 0 (S.1 11 0 0 + 1)) 13 e 0 (nI (L + 1))) 14 e 0 (nI c)) 15 e 0 v
theorem q_newRecord {n : Nat} {S : CSt} {c L : Nat} (hn : 24 < n) (hc : c < 4) (h12 : S.1 12 0 0 = nI L) (hd : 0 < cn (fun e => decide (S.1 13 e 0 = 0)) 24) : ∃ e, e < 24 ∧ S.1 13 e 0 = 0 ∧ m_X7_newRecord n S (nI c) = some (some e, adS S c e L (S.1 3 c 0)) := by
  rcases q_first (n := n) (S := sI S 4 c 0 0) (x := 0) hn with ⟨h1, h2⟩ | ⟨e, h1, h2, h3, h4⟩
  · obtain ⟨k, k1, k2⟩ := cn_pos hd
    exact absurd (of_decide_eq_true k2) (h2 k k1)
  · refine ⟨e, h1, h2, ?_⟩
    unfold m_X7_newRecord
    rw [inB_nI hc (by omega), nI_clamp (by omega)]
    show (m_X6_add n (sI S 4 c 0 0) (nI c) (S.1 3 c 0)).bind _ = _
    have ha : m_X6_add n (sI S 4 c 0 0) (nI c) (S.1 3 c 0) = some (some e, adS S c e L (S.1 3 c 0)) := by
      unfold m_X6_add
      rw [h4, Option.bind_some]
      show (bif decide (e < 24) then some (some e, sI (sI (sI (sI (sI (sI S 4 c 0 0) 12 0 0 (S.1 12 0 0 + 1)) 11 0 0 (S.1 11 0 0 + 1)) 13 e 0 (S.1 12 0 0 + 1)) 14 e 0 (nI c)) 15 e 0 (S.1 3 c 0)) else none) = _
      rw [decide_eq_true h1, h12, nI_1]
      rfl
    rw [ha, Option.bind_some]
    show (bif decide (e < 24) then some (some e, adS S c e L (S.1 3 c 0)) else none) = _
    rw [decide_eq_true h1]
    rfl
def nfB (rec : CSt → Int32 → Option (Int32 × CSt)) (n : Nat) (x3 x4 : Nat) : (CSt × Int32) → Option ((CSt × Int32) ⊕ CSt) := fun x => if (x.1.1 5 x4 0) ≤ x.2 then (some (.inr x.1)) else ((m_X4_isNumber n x.1 x4 x.2).bind (fun z73 => if z73 = 0 then ((m_X4_isOwning n x.1 x4 x.2).bind (fun z76 => if z76 = 0 then (bif inB x.2 6 then (nm (sI x.1 17 x3 x.2.toNatClampNeg 0) (fun S79 => nm (x.2 + 1) (fun x80 => some (.inl (S79, x80))))) else none) else (bif inB x.2 6 then ((rec x.1 (x.1.1 8 x4 x.2.toNatClampNeg)).bind (fun z83 => bif inB x.2 6 then (nm (sI z83.2 17 x3 x.2.toNatClampNeg z83.1) (fun S85 => nm (x.2 + 1) (fun x86 => some (.inl (S85, x86))))) else none)) else none))) else (bif inB x.2 6 then (bif inB x.2 6 then ((m_X7_nearest n x.1 0 (x.1.1 8 x4 x.2.toNatClampNeg) (x.1.1 9 x4 x.2.toNatClampNeg)).bind (fun z90 => bif inB x.2 6 then (nm (sI x.1 17 x3 x.2.toNatClampNeg z90) (fun S92 => nm (x.2 + 1) (fun x93 => some (.inl (S92, x93))))) else none)) else none) else none)))
def nfM (rec : CSt → Int32 → Option (Int32 × CSt)) (n : Nat) (S : CSt) (x1 : Int32) : Option (Int32 × CSt) := (m_X7_newRecord n S x1).bind (fun z96 => optE (some (0, z96.2)) (fun i97 => bif decide (i97 < 24) then (bif inB x1 4 then ((lpO (nfB rec n i97 (2 * x1.toNatClampNeg)) n (z96.2, 0)).bind (fun w103 => some (w103.1 13 i97 0, w103))) else none) else none) z96.1)
/-- what a family's maker does -/
def NFs (K : Nat) (M : MSt) (C : CSt) (rec : CSt → Int32 → Option (Int32 × CSt)) (d : Nat) : Prop := ∀ S L, (∀ g, frC g → S.1 g = C.1 g) → S.1 12 0 0 = nI L → fam M.1 d ≤ cn (fun e => decide (S.1 13 e 0 = 0)) 24 → L + cn (fun e => decide (S.1 13 e 0 = 0)) 24 < 2 ^ 30 → Ok (rec S (nI d)) (fun o => o.1 = nI (L + 1) ∧ ∃ en kc ch, fcR K M C S o.2 d L (fam M.1 d) en kc ch)
theorem fc_full {K : Nat} {M : MSt} {C S S' : CSt} {c L N q : Nat} {en kc : Nat → Nat} {ch : Nat → Nat → Nat} (h : fcP K M C S S' c L N q en kc ch) (hq : M.1 4 c = nI q) (hq6 : q ≤ 6) : fcR K M C S S' c L N en kc ch := by
  obtain ⟨a1, a2, a3, a4, a5, a6⟩ := h
  have hk0 := a1.2.1
  refine ⟨PT_iff a1 (fun i k hi => ⟨fun hp => ⟨hp.1, fun e => ownM_lt hp.1⟩, fun hp => ⟨hp.1, fun e => ?_⟩⟩), a2, a3, a4, fun j q' k hj hq' hm hk hlt => a5 j q' k hj hq' hm hk (fun e => ?_), a6⟩
  · obtain ⟨q', h1, h2, h3, -⟩ := hp.1
    rw [e, hk0] at h2
    have := (nI_eq (by omega) (by omega)).mp (hq.symm.trans h2)
    omega
  · rw [e, hk0] at hm
    have := (nI_eq (by omega) (by omega)).mp (hq.symm.trans hm)
    omega
theorem q_nfG {n : Nat} {j K L0 : Nat} {σ τ : Nat → Nat} {C : CSt} {M : MSt} (hn : 24 < n) (hM : MI K M.1) (hC : CR j K L0 σ τ C.1 M.1) {c q : Nat} (hc : c < K) (hq : M.1 4 c = nI q) (hq6 : q ≤ 6) {rec : CSt → Int32 → Option (Int32 × CSt)} (hrec : ∀ k d, k < q → r6 (M.1 6) c k = 2 → d < K → r6 (M.1 7) c k = nI d → NFs K M C rec d) : NFs K M C (nfM rec n) c := by
  intro S L hfr h12 hdead hbig
  have hK4 := hM.1.1
  have hc4 : c < 4 := by omega
  have hfp := fam_pos (m := M.1) c
  have hfe := fam_eq hM hc4 hq hq6
  obtain ⟨p5, p6⟩ := hC.2.1 c q hc4 hq6 hq
  obtain ⟨e0, he0, h130, hnr⟩ := q_newRecord (n := n) (S := S) (L := L) hn hc4 h12 (by omega)
  unfold nfM
  rw [hnr, Ok_bind, Ok_some]
  show Ok (bif decide (e0 < 24) then _ else none) _
  rw [decide_eq_true he0, cond_true, inB_nI hc4 (by omega), cond_true, nI_clamp (by omega)]
  have start : fcP K M C S (adS S c e0 L (S.1 3 c 0)) c L 1 0 (fun _ => e0) (fun _ => c) (fun _ _ => 0) := by
    refine ⟨⟨by omega, rfl, fun i k hi hp => ?_, fun j hj hN => ?_, fun i k i' k' hi hi' hp _ _ => ?_⟩, fun j hj => ⟨he0, hc, h130, ?_, ?_, ?_, ?_⟩, fun i hi j hj _ => by omega, fun e he => ?_, fun j q k hj _ _ _ hlt => ?_, fun g hg => ?_, ?_, ?_, fun d => ?_, ?_⟩
    · exact absurd (hp.2 (by omega)) (Nat.not_lt_zero _)
    · omega
    · exact absurd (hp.2 (by omega)) (Nat.not_lt_zero _)
    · have : j = 0 := by omega
      subst this
      show (sI (sI (sI (sI S 4 c 0 0) 12 0 0 (nI (L + 1))) 11 0 0 (S.1 11 0 0 + 1)) 13 e0 0 (nI (L + 1))).1 13 e0 0 = _
      rw [sI_eq]
    · show (sI (sI (sI (sI (sI S 4 c 0 0) 12 0 0 (nI (L + 1))) 11 0 0 (S.1 11 0 0 + 1)) 13 e0 0 (nI (L + 1))) 14 e0 0 (nI c)).1 14 e0 0 = _
      rw [sI_eq]
    · show (adS S c e0 L (S.1 3 c 0)).1 15 e0 0 = C.1 3 c 0
      unfold adS
      rw [sI_eq, hfr 3 (by unfold frC; omega)]
    · show (sI S 4 c 0 0).1 4 c 0 = 0
      rw [sI_eq]
    · have he' : e ≠ e0 := he 0 (by omega)
      refine ⟨?_, ?_, ?_, rfl⟩
      · show (sI (sI (sI (sI S 4 c 0 0) 12 0 0 (nI (L + 1))) 11 0 0 (S.1 11 0 0 + 1)) 13 e0 0 (nI (L + 1))).1 13 e = _
        rw [sI_ne _ _ _ _ _ he']
        rfl
      · show (sI (sI (sI (sI (sI S 4 c 0 0) 12 0 0 (nI (L + 1))) 11 0 0 (S.1 11 0 0 + 1)) 13 e0 0 (nI (L + 1))) 14 e0 0 (nI c)).1 14 e = _
        rw [sI_ne _ _ _ _ _ he']
        rfl
      · unfold adS
        rw [sI_ne _ _ _ _ _ he']
        rfl
    · exact absurd (hlt (by omega)) (Nat.not_lt_zero _)
    · obtain ⟨g1, g2, g3, g4, g5, g6, g7⟩ := hg
      funext i l
      unfold adS
      rw [sI_at, if_neg (fun h => g6 h.1), sI_at, if_neg (fun h => g5 h.1), sI_at, if_neg (fun h => g4 h.1), sI_at, if_neg (fun h => g2 h.1), sI_at, if_neg (fun h => g3 h.1), sI_at, if_neg (fun h => g1 h.1)]
    · show (sI (sI S 4 c 0 0) 12 0 0 (nI (L + 1))).1 12 0 0 = _
      rw [sI_eq]
    · show (sI (sI (sI S 4 c 0 0) 12 0 0 (nI (L + 1))) 11 0 0 (S.1 11 0 0 + 1)).1 11 0 0 = _
      rw [sI_eq]
      rfl
    · show (sI S 4 c 0 0).1 4 d 0 = S.1 4 d 0 ∨ ((sI S 4 c 0 0).1 4 d 0 = 0 ∧ ∃ j, j < 1 ∧ c = d)
      rw [sI_at]
      by_cases e : d = c
      · rw [if_pos ⟨rfl, e, rfl⟩]
        exact Or.inr ⟨rfl, 0, by omega, e.symm⟩
      · rw [if_neg (fun h => e h.2.1)]
        exact Or.inl rfl
    · have h13 : ∀ e, (adS S c e0 L (S.1 3 c 0)).1 13 e 0 = if e = e0 then nI (L + 1) else S.1 13 e 0 := fun e => by
        show (sI (sI (sI (sI S 4 c 0 0) 12 0 0 (nI (L + 1))) 11 0 0 (S.1 11 0 0 + 1)) 13 e0 0 (nI (L + 1))).1 13 e 0 = _
        rw [sI_at]
        by_cases e1 : e = e0
        · rw [if_pos ⟨rfl, e1, rfl⟩, if_pos e1]
        · rw [if_neg (fun h => e1 h.2.1), if_neg e1]; rfl
      refine (cn_up (i := e0) ?_ (decide_eq_true h130) (fun k hk => ?_) he0).symm
      · rw [h13, if_pos rfl]
        exact decide_eq_false (nI_ne0 (by omega) (by omega))
      · show decide (S.1 13 k 0 = 0) = decide ((adS S c e0 L (S.1 3 c 0)).1 13 k 0 = 0)
        rw [h13, if_neg hk]
  have loop : Ok (lpO (nfB rec n e0 (2 * c)) n (adS S c e0 L (S.1 3 c 0), 0)) (fun S' => ∃ en kc ch, fcP K M C S S' c L (fam M.1 c) q en kc ch ∧ en 0 = e0) := by
    refine ok_for2 (N := q) (by omega) (I := fun k S' => ∃ en kc ch, fcP K M C S S' c L (1 + smN (fun k => if r6 (M.1 6) c k = 2 then fam M.1 (r6 (M.1 7) c k).toNatClampNeg else 0) k) k en kc ch ∧ en 0 = e0) (fun k S' hk hI => ?_) ⟨_, _, _, start, rfl⟩
    obtain ⟨en, kc, ch, hI, hen⟩ := hI
    have hrow : ∀ g, frC g → S'.1 g = C.1 g := fun g hg => (hI.2.2.2.2.2.1 g hg).trans (hfr g hg)
    have s5 := hrow 5 (by unfold frC; omega)
    have s7 := hrow 7 (by unfold frC; omega)
    have s8 := hrow 8 (by unfold frC; omega)
    have s9 := hrow 9 (by unfold frC; omega)
    have h5 : S'.1 5 (2 * c) 0 = nI q := by rw [s5]; exact p5
    unfold nfB
    dsimp only
    rw [h5, Ok_ite]
    refine ⟨fun h => ?_, fun h => ?_⟩
    · have e : k = q := ge_eq (by omega) hk h
      rw [Ok_some]
      rw [e, ← hfe] at hI
      exact ⟨en, kc, ch, hI, hen⟩
    · have hk2 : k < q := nge_lt (by omega) hk h
      obtain ⟨q1, q2, q3, q4⟩ := p6 k hk2
      rw [q_isNumber hq6 h5 hk2, Ok_bind, Ok_some, s7, q2, nI_clamp (by omega), s8, s9, q3, q4, q_isOwn hq6 h5 hk2, s7, q2, Ok_ite]
      have hsm : ∀ x, (if r6 (M.1 6) c k = 2 then fam M.1 (r6 (M.1 7) c k).toNatClampNeg else 0) = x → 1 + smN (fun k => if r6 (M.1 6) c k = 2 then fam M.1 (r6 (M.1 7) c k).toNatClampNeg else 0) (k + 1) = 1 + smN (fun k => if r6 (M.1 6) c k = 2 then fam M.1 (r6 (M.1 7) c k).toNatClampNeg else 0) k + x := fun x hx => by
        show 1 + (smN _ k + (if r6 (M.1 6) c k = 2 then fam M.1 (r6 (M.1 7) c k).toNatClampNeg else 0)) = _
        rw [hx]
        omega
      have hno : ¬ r6 (M.1 6) c k = 2 → ¬ ownM M c k := fun h ⟨_, _, _, _, h2⟩ => h h2
      rcases Fld_kind hM hc4 hq hq6 hk2 with k0 | k1 | k2
      · -- a number
        rw [if_pos k0]
        refine ⟨fun h => absurd h one_ne, fun _ => ?_⟩
        unfold m_X7_nearest
        rw [Ok_bif, Ok_bif, Ok_bind, Ok_some, Ok_bif, Ok_nm, Ok_nm, Ok_some]
        refine ⟨inB_nI (by omega) (by omega), inB_nI (by omega) (by omega), inB_nI (by omega) (by omega), hk2, nI_1 k, en, kc, ch, ?_, hen⟩
        rw [hsm 0 (if_neg (by rw [k0]; decide)), Nat.add_zero]
        show fcP K M C S (sI S' 17 e0 k (near0 (r6 (M.1 7) c k) (r6 (M.1 8) c k))) c L _ (k + 1) en kc ch
        rw [← hen]
        exact fc_fill hI (hno (by rw [k0]; decide)) (fun _ => rfl) (fun h => absurd (k0.symm.trans h) (by decide))
      · -- a reference
        rw [if_neg (by rw [k1]; decide)]
        refine ⟨fun _ => ?_, fun h => absurd rfl h⟩
        rw [Ok_bind, Ok_some, if_neg (show ¬ r6 (M.1 6) c k = 2 by rw [k1]; decide), Ok_ite]
        refine ⟨fun _ => ?_, fun h => absurd rfl h⟩
        rw [Ok_bif, Ok_nm, Ok_nm, Ok_some]
        refine ⟨inB_nI (by omega) (by omega), hk2, nI_1 k, en, kc, ch, ?_, hen⟩
        rw [hsm 0 (if_neg (by rw [k1]; decide)), Nat.add_zero]
        show fcP K M C S (sI S' 17 e0 k 0) c L _ (k + 1) en kc ch
        rw [← hen]
        exact fc_fill hI (hno (by rw [k1]; decide)) (fun h => absurd (k1.symm.trans h) (by decide)) (fun _ => rfl)
      · -- a family of its own
        rw [if_neg (by rw [k2]; decide)]
        refine ⟨fun _ => ?_, fun h => absurd rfl h⟩
        rw [Ok_bind, Ok_some, if_pos k2, Ok_ite]
        refine ⟨fun h => absurd h one_ne, fun _ => ?_⟩
        obtain ⟨d, hd1, hd2, -⟩ := kid_of hM hc4 hq hq6 hk2 k2
        have hx : (if r6 (M.1 6) c k = 2 then fam M.1 (r6 (M.1 7) c k).toNatClampNeg else 0) = fam M.1 d := by
          rw [if_pos k2, hd2, nI_clamp (by omega)]
        have hmono := smN_mono (fun k => if r6 (M.1 6) c k = 2 then fam M.1 (r6 (M.1 7) c k).toNatClampNeg else 0) (a := k + 1) (b := q) (by omega)
        have hsum := hsm _ hx
        have hcnt := hI.2.2.2.2.2.2.2.2.2
        rw [Ok_bif, hd2]
        refine ⟨inB_nI (by omega) (by omega), ok_seq (hrec k d hk2 k2 hd1 hd2 S' (L + (1 + smN (fun k => if r6 (M.1 6) c k = 2 then fam M.1 (r6 (M.1 7) c k).toNatClampNeg else 0) k)) hrow hI.2.2.2.2.2.2.1 (by omega) (by omega)) (fun o ho => ?_)⟩
        obtain ⟨o1, en2, kc2, ch2, ho⟩ := ho
        rw [Ok_bif, Ok_nm, Ok_nm, Ok_some]
        have hfo := fc_own hI ho ⟨q, hq6, hq, hk2, k2⟩ (by unfold loM; rw [hd2, nI_clamp (by omega)]) (by omega)
        have hex : ∃ en' kc' ch', fcP K M C S (sI o.2 17 e0 k o.1) c L (1 + smN (fun k => if r6 (M.1 6) c k = 2 then fam M.1 (r6 (M.1 7) c k).toNatClampNeg else 0) (k + 1)) (k + 1) en' kc' ch' ∧ en' 0 = e0 := by
          rw [hsum, o1, ← hen]
          refine ⟨_, _, _, hfo, ?_⟩
          show (if 0 < _ then en 0 else _) = _
          rw [if_pos (by omega)]
        exact ⟨inB_nI (by omega) (by omega), hk2, nI_1 k, hex⟩
  refine ok_seq loop (fun S' hS' => ?_)
  obtain ⟨en, kc, ch, hI, hen⟩ := hS'
  rw [Ok_some]
  refine ⟨?_, en, kc, ch, fc_full hI hq hq6⟩
  show S'.1 13 e0 0 = _
  rw [← hen]
  exact (hI.2.1 0 (by omega)).2.2.2.1
theorem q_nf3 {n : Nat} {j K L : Nat} {σ τ : Nat → Nat} {C : CSt} {M : MSt} (hn : 24 < n) (hM : MI K M.1) (hC : CR j K L σ τ C.1 M.1) {ρ : Nat → Nat} (h1 : ∀ c, c < 4 → ρ c < 4) (h3 : ∀ c q k d, c < 4 → q ≤ 6 → M.1 4 c = nI q → k < q → r6 (M.1 6) c k = 2 → d < 4 → r6 (M.1 7) c k = nI d → ρ c < ρ d) {c : Nat} (hc : c < K) (hr : 3 ≤ ρ c) : NFs K M C (fun S y => m_X7_newFamily_d3 n S y (nI 3)) c := by
  have hK4 := hM.1.1
  obtain ⟨q, hq, hS⟩ := hM.2.1 c (by omega)
  have h := q_nfG (n := n) (rec := fun S y => m_X7_newFamily_d4 n S y (nI 3 + 1)) hn hM hC hc hq hS.1 (fun k d hk h2 hd e => by
    have := h3 c q k d (by omega) hS.1 hq hk h2 (by omega) e
    have := h1 d (by omega)
    omega)
  intro S L a1 a2 a3 a4
  show Ok (m_X7_newFamily_d3 n S (nI c) (nI 3)) _
  unfold m_X7_newFamily_d3
  rw [if_pos (show nI 3 < 4 by decide)]
  exact h S L a1 a2 a3 a4
theorem q_nf2 {n : Nat} {j K L : Nat} {σ τ : Nat → Nat} {C : CSt} {M : MSt} (hn : 24 < n) (hM : MI K M.1) (hC : CR j K L σ τ C.1 M.1) {ρ : Nat → Nat} (h1 : ∀ c, c < 4 → ρ c < 4) (h3 : ∀ c q k d, c < 4 → q ≤ 6 → M.1 4 c = nI q → k < q → r6 (M.1 6) c k = 2 → d < 4 → r6 (M.1 7) c k = nI d → ρ c < ρ d) {c : Nat} (hc : c < K) (hr : 2 ≤ ρ c) : NFs K M C (fun S y => m_X7_newFamily_d2 n S y (nI 2)) c := by
  have hK4 := hM.1.1
  obtain ⟨q, hq, hS⟩ := hM.2.1 c (by omega)
  have h := q_nfG (n := n) (rec := fun S y => m_X7_newFamily_d3 n S y (nI 2 + 1)) hn hM hC hc hq hS.1 (fun k d hk h2 hd e => by
    have := h3 c q k d (by omega) hS.1 hq hk h2 (by omega) e
    rw [nI_1]
    exact q_nf3 hn hM hC h1 h3 hd (by omega))
  intro S L a1 a2 a3 a4
  show Ok (m_X7_newFamily_d2 n S (nI c) (nI 2)) _
  unfold m_X7_newFamily_d2
  rw [if_pos (show nI 2 < 4 by decide)]
  exact h S L a1 a2 a3 a4
theorem q_nf1 {n : Nat} {j K L : Nat} {σ τ : Nat → Nat} {C : CSt} {M : MSt} (hn : 24 < n) (hM : MI K M.1) (hC : CR j K L σ τ C.1 M.1) {ρ : Nat → Nat} (h1 : ∀ c, c < 4 → ρ c < 4) (h3 : ∀ c q k d, c < 4 → q ≤ 6 → M.1 4 c = nI q → k < q → r6 (M.1 6) c k = 2 → d < 4 → r6 (M.1 7) c k = nI d → ρ c < ρ d) {c : Nat} (hc : c < K) (hr : 1 ≤ ρ c) : NFs K M C (fun S y => m_X7_newFamily_d1 n S y (nI 1)) c := by
  have hK4 := hM.1.1
  obtain ⟨q, hq, hS⟩ := hM.2.1 c (by omega)
  have h := q_nfG (n := n) (rec := fun S y => m_X7_newFamily_d2 n S y (nI 1 + 1)) hn hM hC hc hq hS.1 (fun k d hk h2 hd e => by
    have := h3 c q k d (by omega) hS.1 hq hk h2 (by omega) e
    rw [nI_1]
    exact q_nf2 hn hM hC h1 h3 hd (by omega))
  intro S L a1 a2 a3 a4
  show Ok (m_X7_newFamily_d1 n S (nI c) (nI 1)) _
  unfold m_X7_newFamily_d1
  rw [if_pos (show nI 1 < 4 by decide)]
  exact h S L a1 a2 a3 a4
theorem q_nf0 {n : Nat} {j K L : Nat} {σ τ : Nat → Nat} {C : CSt} {M : MSt} (hn : 24 < n) (hM : MI K M.1) (hC : CR j K L σ τ C.1 M.1) {c : Nat} (hc : c < K) : NFs K M C (fun S y => m_X7_newFamily_d0 n S y 0) c := by
  have hK4 := hM.1.1
  obtain ⟨q, hq, hS⟩ := hM.2.1 c (by omega)
  obtain ⟨ρ, h1, h2, h3⟩ := hM.2.2.2.2.2.1
  have h := q_nfG (n := n) (rec := fun S y => m_X7_newFamily_d1 n S y (0 + 1)) hn hM hC hc hq hS.1 (fun k d hk h2 hd e => by
    have := h3 c q k d (by omega) hS.1 hq hk h2 (by omega) e
    exact q_nf1 hn hM hC h1 h3 hd (by omega))
  intro S L a1 a2 a3 a4
  show Ok (m_X7_newFamily_d0 n S (nI c) 0) _
  unfold m_X7_newFamily_d0
  rw [if_pos (show (0 : Int32) < 4 by decide)]
  exact h S L a1 a2 a3 a4
