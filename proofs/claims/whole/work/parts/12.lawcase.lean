/-! ===== the law: what a call of class and reference must keep, and the walk of each case ===== -/
theorem lgc_self (a : Int64) : lg_cmp a a = 0 := by unfold lg_cmp; simp
theorem upL_0 (o : Nat → Int64) (v : Int64) : vp_updL o 0 v 0 = v := by simp [vp_updL]
theorem Wd_nil {D : va_G} {A : Nat → Prop} {H0 H : Heap} {locs : List Loc} {G1 G : List Gp} (h : Wd D A H0 (G1 ++ G) H locs) : Wd D A H0 (G1 ++ (G ++ [])) H locs := by rw [List.append_nil]; exact h
theorem Wd_lin {D : va_G} {A : Nat → Prop} {H0 H : Heap} {locs : List Loc} {G1 G : List Gp} (h : Wd D A H0 (G1 ++ (G ++ [])) H locs) : Wd D A H0 (G1 ++ G) H locs := by rw [List.append_nil] at h; exact h
theorem sc_in {i d L : Nat} (h : i + d < L) (hL : L ≤ 3072) : vp_in (nI i + nI d) L := by rw [nI_add]; exact vp_in_nI h (by omega)
theorem sc_at {i d L : Nat} (h : i + d < L) (hL : L ≤ 3072) (xs : Nat → Int32) : xs (nI i + nI d).toNatClampNeg = xs (i + d) := by rw [nI_add, nI_clamp (by omega)]
set_option maxRecDepth 100000 in
set_option maxHeartbeats 4000000 in
theorem lc_newClass {p : Program} {l : Launch} {e : Env} {s : State} {m : MethodId} {below : List Frame} {meth : Method} {c : Code} (hl9 : l.stackTraces = false) {b L : Nat} {xs : Nat → Int32} (hL : L ≤ 3072) (hX : va_X b L xs s s.heap) (hbl : b < s.heap.size) {D : va_G} {cy : Nat → ClassId} {ad am : Nat → Nat → Nat} {oa : Nat → Nat} (K : Cx p s m #[Value.ref b] meth c D (fun q : Nat => s.heap.size ≤ q) (tysC cy) RL cL_law 7 ret wsL_law EL) {R : CSt → MSt → Prop} {n i : Nat} {C : CSt} {M : MSt} {o : Nat → Int64} (hi : i + 6 ≤ L) (hst : StI [3] cm_newClass R (m_X7_newClass n C) (m_X8_newClass n M)) {H : Heap} {locs : List Loc} {ls : Array Slot} {cells slots : Nat} {Q : State → Prop} (hce : cells + 6 ≤ 612593) (hsl : slots + 36 ≤ 7258324) (hw : Wd D (fun q : Nat => s.heap.size ≤ q) s.heap (GM cy am M ++ GH cy ad oa (C, o)) H locs) (hl : lv_has ls 7 [(0, .ref b), (1, .ref (ad 0 0)), (2, .ref (am 0 0)), (3, .ref (oa 0)), (4, .int (nI i))]) (kk : ∀ (C2 : CSt) (M2 : MSt) (o2 : Nat → Int64) (H2 : Heap) (locs2 : List Loc) (ls2 : Array Slot), R C2 M2 → Wd D (fun q : Nat => s.heap.size ≤ q) s.heap (GM cy am M2 ++ GH cy ad oa (C2, o2)) H2 locs2 → lv_has ls2 7 [(0, .ref b), (1, .ref (ad 0 0)), (2, .ref (am 0 0)), (3, .ref (oa 0)), (4, .int (nI i))] → W p l e room_1 s m #[Value.ref b] below meth c H2 locs2 (cells + 6) (slots + 36) Q (F0 m 1224 ls2 [])) : W p l e room_1 s m #[Value.ref b] below meth c H locs cells slots Q (F0 m 132 ls []) := by
  obtain ⟨hx, hb, hml, hown, hts, hr, hlo, hK, hA, hXX⟩ := id K
  obtain ⟨out, w, hmc, hmm, h1, h2⟩ := hst
  refine lv_aload_n hx hb dL_law_132 rfl (lv_at hl 1 rfl) ?_
  refine lv_aload_n hx hb dL_law_133 rfl (lv_at hl 3 rfl) ?_
  have hw := Wd_nil hw
  refine f_calli (G1 := GM cy am M) (G := GH cy ad oa (C, o)) (G2 := []) (GG := GH cy ad oa) K hw (vx_runSW (As := [.ref (ad 0 0), .ref (oa 0)]) (rest := []) (g_fix K) (h_newClass l hl9 D cy ad oa H.size n C o  hmc (fun k C2 ho => by have hk := (h2 k C2 ho).1; simpa using hk)) (vx_cwSW 2 (g_hts K) gL_law_L_newClass rfl rfl rfl (by decide +kernel) ⟨Nat.le_of_ble_eq_true rfl, Nat.le_of_ble_eq_true rfl⟩) ⟨g_blind rides_EL, g_pre K (Wd_mid hw) (g_ride rides_EL K (Wd_mid hw))⟩ rfl rfl hl.1 rfl (lv_room (Nat.le_of_ble_eq_true rfl)) dL_law_134 ⟨by show cells + 1 ≤ 612593; omega, by show slots + 6 ≤ 7258324; omega⟩) (fun r u H locs hp hw => ?_)
  replace hw := Wd_lin hw
  obtain ⟨C2, o2⟩ := u
  have key : R C2 w.2 ∧ w.2.1 0 0 = r ∧ (r = 0 → o2 0 = w.1.toInt64) := by
    rcases hp with ⟨v, C3, ho, hr0, hu⟩ | ⟨k, C3, ho, hr0, hu⟩
    · obtain ⟨a1, a2, a3⟩ := h1 v C3 ho
      cases hu
      exact ⟨a3, a1.trans hr0.symm, fun _ => by rw [upL_0, a2]⟩
    · obtain ⟨a1, a2, a3⟩ := h2 k C3 ho
      cases hu
      refine ⟨a3, a2.trans hr0.symm, fun hz => absurd (hr0.symm.trans hz) ?_⟩
      have a1 : k = 3 := by simpa using a1
      rcases a1 with rfl <;> decide
  obtain ⟨kR, kt, ko⟩ := key
  refine lv_istore (lv' := [(5, .int r), (0, .ref b), (1, .ref (ad 0 0)), (2, .ref (am 0 0)), (3, .ref (oa 0)), (4, .int (nI i))]) hx hb dL_law_137 hl (by decide) rfl (fun ls hl => ?_)
  refine lv_aload_n hx hb dL_law_139 rfl (lv_at hl 3 rfl) ?_
  refine f_calli (G1 := []) (G := GM cy am M) (G2 := GH cy ad oa (C2, o2)) (GG := GM cy am) K hw (va_runV (As := []) (rest := []) (g_fix K) (c_X8_newClass l D cy am H.size n M  hmm) (cwV 0 (g_hts K) gL_law_X8_newClass rfl rfl rfl (by decide +kernel) ⟨Nat.le_of_ble_eq_true rfl, Nat.le_of_ble_eq_true rfl⟩) ⟨g_blind rides_none, g_recv K (Wd_mid (G1 := []) (G := GM cy am M) (G2 := GH cy ad oa (C2, o2)) hw) 0 rfl (by decide : 0 < 1) rfl rfl, g_pre (X2 := fun _ _ => True) K (Wd_mid (G1 := []) (G := GM cy am M) (G2 := GH cy ad oa (C2, o2)) hw) (fun _ _ _ => trivial)⟩ rfl rfl hl.1 rfl (lv_room (Nat.le_of_ble_eq_true rfl)) dL_law_140 ⟨by show cells + 1 + 0 ≤ 612593; omega, by show slots + 6 + 0 ≤ 7258324; omega⟩) (fun r2 u H locs hp hw => ?_)
  replace hw : Wd D (fun q : Nat => s.heap.size ≤ q) s.heap (GM cy am u ++ GH cy ad oa (C2, o2)) H locs := hw
  subst hp
  replace kR : R C2 u := kR
  replace kt : u.1 0 0 = r := kt
  replace ko : r = 0 → o2 0 = r2.toInt64 := ko
  refine lv_istore (lv' := [(6, .int r2), (5, .int r), (0, .ref b), (1, .ref (ad 0 0)), (2, .ref (am 0 0)), (3, .ref (oa 0)), (4, .int (nI i))]) hx hb dL_law_143 hl (by decide) rfl (fun ls hl => ?_)
  refine lv_aload_n hx hb dL_law_145 rfl (lv_at hl 4 rfl) ?_
  refine f_calli (G1 := []) (G := GM cy am u) (G2 := GH cy ad oa (C2, o2)) (GG := GM cy am) K hw (va_runV (As := []) (rest := []) (g_fix K) (c_X8_thrown l D cy am H.size n u  (out := u.1 0 0) rfl) (cwV 0 (g_hts K) gL_law_X8_thrown rfl rfl rfl (by decide +kernel) ⟨Nat.le_of_ble_eq_true rfl, Nat.le_of_ble_eq_true rfl⟩) ⟨g_blind rides_none, g_recv K (Wd_mid (G1 := []) (G := GM cy am u) (G2 := GH cy ad oa (C2, o2)) hw) 0 rfl (by decide : 0 < 1) rfl rfl, g_pre (X2 := fun _ _ => True) K (Wd_mid (G1 := []) (G := GM cy am u) (G2 := GH cy ad oa (C2, o2)) hw) (fun _ _ _ => trivial)⟩ rfl rfl hl.1 rfl (lv_room (Nat.le_of_ble_eq_true rfl)) dL_law_146 ⟨by show cells + 1 + 0 + 0 ≤ 612593; omega, by show slots + 6 + 0 + 0 ≤ 7258324; omega⟩) (fun r3 u3 H locs hp hw => ?_)
  obtain ⟨hp1, hp2⟩ := hp
  rw [hp2] at hw
  replace hw : Wd D (fun q : Nat => s.heap.size ≤ q) s.heap (GM cy am u ++ GH cy ad oa (C2, o2)) H locs := hw
  refine lv_iload hx hb dL_law_149 (lv_at hl 1 rfl) ?_
  refine lv_icmp_eq (tgt := 156) hx hb dL_law_151 (by decide) (fun c1 => ?_) (fun c1 => absurd (hp1.symm.trans kt) c1)
  refine lv_iload hx hb dL_law_156 (lv_at hl 1 rfl) ?_
  refine lv_if_ne (tgt := 173) hx hb dL_law_158 (by decide) (fun c2 => ?_) (fun c2 => ?_)
  · refine lv_goto (tgt := 1224) hx hb dL_law_173 (by decide) ?_
    refine W.widen (k := cells + 6) (n := slots + 36) (by omega) (by omega) ?_
    exact kk C2 u o2 H locs ls kR hw (lv_sub hl [2, 3, 4, 5, 6] rfl)
  · have c3 : r = 0 := c2
    replace ko := ko c3
    refine lv_aload_n hx hb dL_law_161 rfl (lv_at hl 5 rfl) ?_
    refine lv_iconst (v := 0) hx hb dL_law_162 (by decide) ?_
    refine g_lald K hw 58 1 rfl (by decide) rfl rfl (by decide) dL_law_163 ?_
    have e0 : (C2, o2).snd (Int32.toNatClampNeg 0) = r2.toInt64 := ko
    rw [e0]
    refine lv_iload hx hb dL_law_164 (lv_at hl 0 rfl) ?_
    refine lv_i2l hx hb dL_law_166 rfl ?_
    refine W.lcmp hx hb dL_law_167 ?_
    refine lv_if_eq (tgt := 173) hx hb dL_law_168 (by decide) (fun c4 => ?_) (fun c4 => absurd (lgc_self _) c4)
    refine lv_goto (tgt := 1224) hx hb dL_law_173 (by decide) ?_
    refine W.widen (k := cells + 6) (n := slots + 36) (by omega) (by omega) ?_
    exact kk C2 u o2 H locs ls kR hw (lv_sub hl [2, 3, 4, 5, 6] rfl)
set_option maxRecDepth 100000 in
set_option maxHeartbeats 4000000 in
theorem lc_make {p : Program} {l : Launch} {e : Env} {s : State} {m : MethodId} {below : List Frame} {meth : Method} {c : Code} (hl9 : l.stackTraces = false) {b L : Nat} {xs : Nat → Int32} (hL : L ≤ 3072) (hX : va_X b L xs s s.heap) (hbl : b < s.heap.size) {D : va_G} {cy : Nat → ClassId} {ad am : Nat → Nat → Nat} {oa : Nat → Nat} (K : Cx p s m #[Value.ref b] meth c D (fun q : Nat => s.heap.size ≤ q) (tysC cy) RL cL_law 7 ret wsL_law EL) {R : CSt → MSt → Prop} {n i : Nat} {C : CSt} {M : MSt} {o : Nat → Int64} (hi : i + 6 ≤ L) (hst : StV [1, 3] cm_make R (m_X7_make n C (xs (i + 1)) (xs (i + 2))) (m_X8_make n M (xs (i + 1)) (xs (i + 2)))) {H : Heap} {locs : List Loc} {ls : Array Slot} {cells slots : Nat} {Q : State → Prop} (hce : cells + 6 ≤ 612593) (hsl : slots + 36 ≤ 7258324) (hw : Wd D (fun q : Nat => s.heap.size ≤ q) s.heap (GM cy am M ++ GH cy ad oa (C, o)) H locs) (hl : lv_has ls 7 [(0, .ref b), (1, .ref (ad 0 0)), (2, .ref (am 0 0)), (3, .ref (oa 0)), (4, .int (nI i))]) (kk : ∀ (C2 : CSt) (M2 : MSt) (o2 : Nat → Int64) (H2 : Heap) (locs2 : List Loc) (ls2 : Array Slot), R C2 M2 → Wd D (fun q : Nat => s.heap.size ≤ q) s.heap (GM cy am M2 ++ GH cy ad oa (C2, o2)) H2 locs2 → lv_has ls2 7 [(0, .ref b), (1, .ref (ad 0 0)), (2, .ref (am 0 0)), (3, .ref (oa 0)), (4, .int (nI i))] → W p l e room_1 s m #[Value.ref b] below meth c H2 locs2 (cells + 6) (slots + 36) Q (F0 m 1224 ls2 [])) : W p l e room_1 s m #[Value.ref b] below meth c H locs cells slots Q (F0 m 176 ls []) := by
  obtain ⟨hx, hb, hml, hown, hts, hr, hlo, hK, hA, hXX⟩ := id K
  obtain ⟨out, w, hmc, hmm, h1, h2⟩ := hst
  refine lv_aload_n hx hb dL_law_176 rfl (lv_at hl 1 rfl) ?_
  refine lv_aload_n hx hb dL_law_177 rfl (lv_at hl 0 rfl) ?_
  refine lv_iload hx hb dL_law_178 (lv_at hl 4 rfl) ?_
  refine lv_iconst (v := nI 1) hx hb dL_law_180 (by decide) ?_
  refine lv_iadd hx hb dL_law_181 ?_
  refine va_sld hx hb hX hbl (Nat.not_le.mpr hbl) hw.2.2 (sc_in (i := i) (d := 1) (by omega) hL) dL_law_182 ?_
  rw [sc_at (i := i) (d := 1) (by omega) hL xs]
  refine lv_aload_n hx hb dL_law_183 rfl (lv_at hl 0 rfl) ?_
  refine lv_iload hx hb dL_law_184 (lv_at hl 4 rfl) ?_
  refine lv_iconst (v := nI 2) hx hb dL_law_186 (by decide) ?_
  refine lv_iadd hx hb dL_law_187 ?_
  refine va_sld hx hb hX hbl (Nat.not_le.mpr hbl) hw.2.2 (sc_in (i := i) (d := 2) (by omega) hL) dL_law_188 ?_
  rw [sc_at (i := i) (d := 2) (by omega) hL xs]
  have hw := Wd_nil hw
  refine f_calli (G1 := GM cy am M) (G := GH cy ad oa (C, o)) (G2 := []) (GG := GH cy ad oa) K hw (vx_runSW (As := [.ref (ad 0 0), .int (xs (i + 1)), .int (xs (i + 2))]) (rest := []) (g_fix K) (h_make l hl9 D cy ad oa H.size n C o (xs (i + 1)) (xs (i + 2)) hmc (fun k C2 ho => by have hk := (h2 k C2 ho).1; simpa using hk)) (vx_cwSW 3 (g_hts K) gL_law_L_make rfl rfl rfl (by decide +kernel) ⟨Nat.le_of_ble_eq_true rfl, Nat.le_of_ble_eq_true rfl⟩) ⟨g_blind rides_EL, g_pre K (Wd_mid hw) (g_ride rides_EL K (Wd_mid hw))⟩ rfl rfl hl.1 rfl (lv_room (Nat.le_of_ble_eq_true rfl)) dL_law_189 ⟨by show cells + 3 ≤ 612593; omega, by show slots + 18 ≤ 7258324; omega⟩) (fun r u H locs hp hw => ?_)
  replace hw := Wd_lin hw
  obtain ⟨C2, o2⟩ := u
  have key : R C2 w ∧ w.1 0 0 = r := by
    rcases hp with ⟨C3, ho, hr0, hu⟩ | ⟨k, C3, ho, hr0, hu⟩
    · obtain ⟨a1, a3⟩ := h1 C3 ho
      cases hu
      exact ⟨a3, a1.trans hr0.symm⟩
    · obtain ⟨a1, a2, a3⟩ := h2 k C3 ho
      cases hu
      exact ⟨a3, a2.trans hr0.symm⟩
  obtain ⟨kR, kt⟩ := key
  refine lv_istore (lv' := [(5, .int r), (0, .ref b), (1, .ref (ad 0 0)), (2, .ref (am 0 0)), (3, .ref (oa 0)), (4, .int (nI i))]) hx hb dL_law_192 hl (by decide) rfl (fun ls hl => ?_)
  refine lv_aload_n hx hb dL_law_194 rfl (lv_at hl 3 rfl) ?_
  refine lv_aload_n hx hb dL_law_195 rfl (lv_at hl 1 rfl) ?_
  refine lv_iload hx hb dL_law_196 (lv_at hl 5 rfl) ?_
  refine lv_iconst (v := nI 1) hx hb dL_law_198 (by decide) ?_
  refine lv_iadd hx hb dL_law_199 ?_
  refine va_sld hx hb hX hbl (Nat.not_le.mpr hbl) hw.2.2 (sc_in (i := i) (d := 1) (by omega) hL) dL_law_200 ?_
  rw [sc_at (i := i) (d := 1) (by omega) hL xs]
  refine lv_aload_n hx hb dL_law_201 rfl (lv_at hl 1 rfl) ?_
  refine lv_iload hx hb dL_law_202 (lv_at hl 5 rfl) ?_
  refine lv_iconst (v := nI 2) hx hb dL_law_204 (by decide) ?_
  refine lv_iadd hx hb dL_law_205 ?_
  refine va_sld hx hb hX hbl (Nat.not_le.mpr hbl) hw.2.2 (sc_in (i := i) (d := 2) (by omega) hL) dL_law_206 ?_
  rw [sc_at (i := i) (d := 2) (by omega) hL xs]
  refine f_callv (G1 := []) (G := GM cy am M) (G2 := GH cy ad oa (C2, o2)) (GG := GM cy am) K hw (va_runV (As := [.int (xs (i + 1)), .int (xs (i + 2))]) (rest := []) (g_fix K) (c_X8_make l D cy am H.size n M (xs (i + 1)) (xs (i + 2)) hmm) (cwV 2 (g_hts K) gL_law_X8_make rfl rfl rfl (by decide +kernel) ⟨Nat.le_of_ble_eq_true rfl, Nat.le_of_ble_eq_true rfl⟩) ⟨g_blind rides_none, g_recv K (Wd_mid (G1 := []) (G := GM cy am M) (G2 := GH cy ad oa (C2, o2)) hw) 0 rfl (by decide : 0 < 1) rfl rfl, g_pre (X2 := fun _ _ => True) K (Wd_mid (G1 := []) (G := GM cy am M) (G2 := GH cy ad oa (C2, o2)) hw) (fun _ _ _ => trivial)⟩ rfl rfl hl.1 rfl (lv_room (Nat.le_of_ble_eq_true rfl)) dL_law_207 ⟨by show cells + 3 + 0 ≤ 612593; omega, by show slots + 18 + 0 ≤ 7258324; omega⟩) (fun u H locs hp hw => ?_)
  replace hw : Wd D (fun q : Nat => s.heap.size ≤ q) s.heap (GM cy am u ++ GH cy ad oa (C2, o2)) H locs := hw
  rw [← hp] at hw
  refine lv_aload_n hx hb dL_law_210 rfl (lv_at hl 3 rfl) ?_
  refine f_calli (G1 := []) (G := GM cy am w) (G2 := GH cy ad oa (C2, o2)) (GG := GM cy am) K hw (va_runV (As := []) (rest := []) (g_fix K) (c_X8_thrown l D cy am H.size n w  (out := w.1 0 0) rfl) (cwV 0 (g_hts K) gL_law_X8_thrown rfl rfl rfl (by decide +kernel) ⟨Nat.le_of_ble_eq_true rfl, Nat.le_of_ble_eq_true rfl⟩) ⟨g_blind rides_none, g_recv K (Wd_mid (G1 := []) (G := GM cy am w) (G2 := GH cy ad oa (C2, o2)) hw) 0 rfl (by decide : 0 < 1) rfl rfl, g_pre (X2 := fun _ _ => True) K (Wd_mid (G1 := []) (G := GM cy am w) (G2 := GH cy ad oa (C2, o2)) hw) (fun _ _ _ => trivial)⟩ rfl rfl hl.1 rfl (lv_room (Nat.le_of_ble_eq_true rfl)) dL_law_211 ⟨by show cells + 3 + 0 + 0 ≤ 612593; omega, by show slots + 18 + 0 + 0 ≤ 7258324; omega⟩) (fun r3 u3 H locs hp hw => ?_)
  obtain ⟨hp1, hp2⟩ := hp
  rw [hp2] at hw
  replace hw : Wd D (fun q : Nat => s.heap.size ≤ q) s.heap (GM cy am w ++ GH cy ad oa (C2, o2)) H locs := hw
  refine lv_iload hx hb dL_law_214 (lv_at hl 0 rfl) ?_
  refine lv_icmp_eq (tgt := 221) hx hb dL_law_216 (by decide) (fun c1 => ?_) (fun c1 => absurd (hp1.symm.trans kt) c1)
  refine lv_goto (tgt := 1224) hx hb dL_law_221 (by decide) ?_
  refine W.widen (k := cells + 6) (n := slots + 36) (by omega) (by omega) ?_
  exact kk C2 w o2 H locs ls kR hw (lv_sub hl [1, 2, 3, 4, 5] rfl)
set_option maxRecDepth 100000 in
set_option maxHeartbeats 4000000 in
theorem lc_get {p : Program} {l : Launch} {e : Env} {s : State} {m : MethodId} {below : List Frame} {meth : Method} {c : Code} (hl9 : l.stackTraces = false) {b L : Nat} {xs : Nat → Int32} (hL : L ≤ 3072) (hX : va_X b L xs s s.heap) (hbl : b < s.heap.size) {D : va_G} {cy : Nat → ClassId} {ad am : Nat → Nat → Nat} {oa : Nat → Nat} (K : Cx p s m #[Value.ref b] meth c D (fun q : Nat => s.heap.size ≤ q) (tysC cy) RL cL_law 7 ret wsL_law EL) {R : CSt → MSt → Prop} {n i : Nat} {C : CSt} {M : MSt} {o : Nat → Int64} (hi : i + 6 ≤ L) (hst : StI [1, 2] cm_get R (m_X7_get n C (xs (i + 1)) (xs (i + 2))) (m_X8_get n M (xs (i + 1)) (xs (i + 2)))) {H : Heap} {locs : List Loc} {ls : Array Slot} {cells slots : Nat} {Q : State → Prop} (hce : cells + 6 ≤ 612593) (hsl : slots + 36 ≤ 7258324) (hw : Wd D (fun q : Nat => s.heap.size ≤ q) s.heap (GM cy am M ++ GH cy ad oa (C, o)) H locs) (hl : lv_has ls 7 [(0, .ref b), (1, .ref (ad 0 0)), (2, .ref (am 0 0)), (3, .ref (oa 0)), (4, .int (nI i))]) (kk : ∀ (C2 : CSt) (M2 : MSt) (o2 : Nat → Int64) (H2 : Heap) (locs2 : List Loc) (ls2 : Array Slot), R C2 M2 → Wd D (fun q : Nat => s.heap.size ≤ q) s.heap (GM cy am M2 ++ GH cy ad oa (C2, o2)) H2 locs2 → lv_has ls2 7 [(0, .ref b), (1, .ref (ad 0 0)), (2, .ref (am 0 0)), (3, .ref (oa 0)), (4, .int (nI i))] → W p l e room_1 s m #[Value.ref b] below meth c H2 locs2 (cells + 6) (slots + 36) Q (F0 m 1224 ls2 [])) : W p l e room_1 s m #[Value.ref b] below meth c H locs cells slots Q (F0 m 224 ls []) := by
  obtain ⟨hx, hb, hml, hown, hts, hr, hlo, hK, hA, hXX⟩ := id K
  obtain ⟨out, w, hmc, hmm, h1, h2⟩ := hst
  refine lv_aload_n hx hb dL_law_224 rfl (lv_at hl 1 rfl) ?_
  refine lv_aload_n hx hb dL_law_225 rfl (lv_at hl 0 rfl) ?_
  refine lv_iload hx hb dL_law_226 (lv_at hl 4 rfl) ?_
  refine lv_iconst (v := nI 1) hx hb dL_law_228 (by decide) ?_
  refine lv_iadd hx hb dL_law_229 ?_
  refine va_sld hx hb hX hbl (Nat.not_le.mpr hbl) hw.2.2 (sc_in (i := i) (d := 1) (by omega) hL) dL_law_230 ?_
  rw [sc_at (i := i) (d := 1) (by omega) hL xs]
  refine lv_aload_n hx hb dL_law_231 rfl (lv_at hl 0 rfl) ?_
  refine lv_iload hx hb dL_law_232 (lv_at hl 4 rfl) ?_
  refine lv_iconst (v := nI 2) hx hb dL_law_234 (by decide) ?_
  refine lv_iadd hx hb dL_law_235 ?_
  refine va_sld hx hb hX hbl (Nat.not_le.mpr hbl) hw.2.2 (sc_in (i := i) (d := 2) (by omega) hL) dL_law_236 ?_
  rw [sc_at (i := i) (d := 2) (by omega) hL xs]
  refine lv_aload_n hx hb dL_law_237 rfl (lv_at hl 3 rfl) ?_
  have hw := Wd_nil hw
  refine f_calli (G1 := GM cy am M) (G := GH cy ad oa (C, o)) (G2 := []) (GG := GH cy ad oa) K hw (vx_runSW (As := [.ref (ad 0 0), .int (xs (i + 1)), .int (xs (i + 2)), .ref (oa 0)]) (rest := []) (g_fix K) (h_get l hl9 D cy ad oa H.size n C o (xs (i + 1)) (xs (i + 2)) hmc (fun k C2 ho => by have hk := (h2 k C2 ho).1; simpa using hk)) (vx_cwSW 4 (g_hts K) gL_law_L_get rfl rfl rfl (by decide +kernel) ⟨Nat.le_of_ble_eq_true rfl, Nat.le_of_ble_eq_true rfl⟩) ⟨g_blind rides_EL, g_pre K (Wd_mid hw) (g_ride rides_EL K (Wd_mid hw))⟩ rfl rfl hl.1 rfl (lv_room (Nat.le_of_ble_eq_true rfl)) dL_law_238 ⟨by show cells + 4 ≤ 612593; omega, by show slots + 24 ≤ 7258324; omega⟩) (fun r u H locs hp hw => ?_)
  replace hw := Wd_lin hw
  obtain ⟨C2, o2⟩ := u
  have key : R C2 w.2 ∧ w.2.1 0 0 = r ∧ (r = 0 → o2 0 = w.1.toInt64) := by
    rcases hp with ⟨v, C3, ho, hr0, hu⟩ | ⟨k, C3, ho, hr0, hu⟩
    · obtain ⟨a1, a2, a3⟩ := h1 v C3 ho
      cases hu
      exact ⟨a3, a1.trans hr0.symm, fun _ => by rw [upL_0, a2]⟩
    · obtain ⟨a1, a2, a3⟩ := h2 k C3 ho
      cases hu
      refine ⟨a3, a2.trans hr0.symm, fun hz => absurd (hr0.symm.trans hz) ?_⟩
      have a1 : k = 1 ∨ k = 2 := by simpa using a1
      rcases a1 with rfl | rfl <;> decide
  obtain ⟨kR, kt, ko⟩ := key
  refine lv_istore (lv' := [(5, .int r), (0, .ref b), (1, .ref (ad 0 0)), (2, .ref (am 0 0)), (3, .ref (oa 0)), (4, .int (nI i))]) hx hb dL_law_241 hl (by decide) rfl (fun ls hl => ?_)
  refine lv_aload_n hx hb dL_law_243 rfl (lv_at hl 3 rfl) ?_
  refine lv_aload_n hx hb dL_law_244 rfl (lv_at hl 1 rfl) ?_
  refine lv_iload hx hb dL_law_245 (lv_at hl 5 rfl) ?_
  refine lv_iconst (v := nI 1) hx hb dL_law_247 (by decide) ?_
  refine lv_iadd hx hb dL_law_248 ?_
  refine va_sld hx hb hX hbl (Nat.not_le.mpr hbl) hw.2.2 (sc_in (i := i) (d := 1) (by omega) hL) dL_law_249 ?_
  rw [sc_at (i := i) (d := 1) (by omega) hL xs]
  refine lv_aload_n hx hb dL_law_250 rfl (lv_at hl 1 rfl) ?_
  refine lv_iload hx hb dL_law_251 (lv_at hl 5 rfl) ?_
  refine lv_iconst (v := nI 2) hx hb dL_law_253 (by decide) ?_
  refine lv_iadd hx hb dL_law_254 ?_
  refine va_sld hx hb hX hbl (Nat.not_le.mpr hbl) hw.2.2 (sc_in (i := i) (d := 2) (by omega) hL) dL_law_255 ?_
  rw [sc_at (i := i) (d := 2) (by omega) hL xs]
  refine f_calli (G1 := []) (G := GM cy am M) (G2 := GH cy ad oa (C2, o2)) (GG := GM cy am) K hw (va_runV (As := [.int (xs (i + 1)), .int (xs (i + 2))]) (rest := []) (g_fix K) (c_X8_get l D cy am H.size n M (xs (i + 1)) (xs (i + 2)) hmm) (cwV 2 (g_hts K) gL_law_X8_get rfl rfl rfl (by decide +kernel) ⟨Nat.le_of_ble_eq_true rfl, Nat.le_of_ble_eq_true rfl⟩) ⟨g_blind rides_none, g_recv K (Wd_mid (G1 := []) (G := GM cy am M) (G2 := GH cy ad oa (C2, o2)) hw) 0 rfl (by decide : 0 < 1) rfl rfl, g_pre (X2 := fun _ _ => True) K (Wd_mid (G1 := []) (G := GM cy am M) (G2 := GH cy ad oa (C2, o2)) hw) (fun _ _ _ => trivial)⟩ rfl rfl hl.1 rfl (lv_room (Nat.le_of_ble_eq_true rfl)) dL_law_256 ⟨by show cells + 4 + 0 ≤ 612593; omega, by show slots + 24 + 0 ≤ 7258324; omega⟩) (fun r2 u H locs hp hw => ?_)
  replace hw : Wd D (fun q : Nat => s.heap.size ≤ q) s.heap (GM cy am u ++ GH cy ad oa (C2, o2)) H locs := hw
  subst hp
  replace kR : R C2 u := kR
  replace kt : u.1 0 0 = r := kt
  replace ko : r = 0 → o2 0 = r2.toInt64 := ko
  refine lv_istore (lv' := [(6, .int r2), (5, .int r), (0, .ref b), (1, .ref (ad 0 0)), (2, .ref (am 0 0)), (3, .ref (oa 0)), (4, .int (nI i))]) hx hb dL_law_259 hl (by decide) rfl (fun ls hl => ?_)
  refine lv_aload_n hx hb dL_law_261 rfl (lv_at hl 4 rfl) ?_
  refine f_calli (G1 := []) (G := GM cy am u) (G2 := GH cy ad oa (C2, o2)) (GG := GM cy am) K hw (va_runV (As := []) (rest := []) (g_fix K) (c_X8_thrown l D cy am H.size n u  (out := u.1 0 0) rfl) (cwV 0 (g_hts K) gL_law_X8_thrown rfl rfl rfl (by decide +kernel) ⟨Nat.le_of_ble_eq_true rfl, Nat.le_of_ble_eq_true rfl⟩) ⟨g_blind rides_none, g_recv K (Wd_mid (G1 := []) (G := GM cy am u) (G2 := GH cy ad oa (C2, o2)) hw) 0 rfl (by decide : 0 < 1) rfl rfl, g_pre (X2 := fun _ _ => True) K (Wd_mid (G1 := []) (G := GM cy am u) (G2 := GH cy ad oa (C2, o2)) hw) (fun _ _ _ => trivial)⟩ rfl rfl hl.1 rfl (lv_room (Nat.le_of_ble_eq_true rfl)) dL_law_262 ⟨by show cells + 4 + 0 + 0 ≤ 612593; omega, by show slots + 24 + 0 + 0 ≤ 7258324; omega⟩) (fun r3 u3 H locs hp hw => ?_)
  obtain ⟨hp1, hp2⟩ := hp
  rw [hp2] at hw
  replace hw : Wd D (fun q : Nat => s.heap.size ≤ q) s.heap (GM cy am u ++ GH cy ad oa (C2, o2)) H locs := hw
  refine lv_iload hx hb dL_law_265 (lv_at hl 1 rfl) ?_
  refine lv_icmp_eq (tgt := 272) hx hb dL_law_267 (by decide) (fun c1 => ?_) (fun c1 => absurd (hp1.symm.trans kt) c1)
  refine lv_iload hx hb dL_law_272 (lv_at hl 1 rfl) ?_
  refine lv_if_ne (tgt := 289) hx hb dL_law_274 (by decide) (fun c2 => ?_) (fun c2 => ?_)
  · refine lv_goto (tgt := 1224) hx hb dL_law_289 (by decide) ?_
    refine W.widen (k := cells + 6) (n := slots + 36) (by omega) (by omega) ?_
    exact kk C2 u o2 H locs ls kR hw (lv_sub hl [2, 3, 4, 5, 6] rfl)
  · have c3 : r = 0 := c2
    replace ko := ko c3
    refine lv_aload_n hx hb dL_law_277 rfl (lv_at hl 5 rfl) ?_
    refine lv_iconst (v := 0) hx hb dL_law_278 (by decide) ?_
    refine g_lald K hw 58 1 rfl (by decide) rfl rfl (by decide) dL_law_279 ?_
    have e0 : (C2, o2).snd (Int32.toNatClampNeg 0) = r2.toInt64 := ko
    rw [e0]
    refine lv_iload hx hb dL_law_280 (lv_at hl 0 rfl) ?_
    refine lv_i2l hx hb dL_law_282 rfl ?_
    refine W.lcmp hx hb dL_law_283 ?_
    refine lv_if_eq (tgt := 289) hx hb dL_law_284 (by decide) (fun c4 => ?_) (fun c4 => absurd (lgc_self _) c4)
    refine lv_goto (tgt := 1224) hx hb dL_law_289 (by decide) ?_
    refine W.widen (k := cells + 6) (n := slots + 36) (by omega) (by omega) ?_
    exact kk C2 u o2 H locs ls kR hw (lv_sub hl [2, 3, 4, 5, 6] rfl)
set_option maxRecDepth 100000 in
set_option maxHeartbeats 4000000 in
theorem lc_set {p : Program} {l : Launch} {e : Env} {s : State} {m : MethodId} {below : List Frame} {meth : Method} {c : Code} (hl9 : l.stackTraces = false) {b L : Nat} {xs : Nat → Int32} (hL : L ≤ 3072) (hX : va_X b L xs s s.heap) (hbl : b < s.heap.size) {D : va_G} {cy : Nat → ClassId} {ad am : Nat → Nat → Nat} {oa : Nat → Nat} (K : Cx p s m #[Value.ref b] meth c D (fun q : Nat => s.heap.size ≤ q) (tysC cy) RL cL_law 7 ret wsL_law EL) {R : CSt → MSt → Prop} {n i : Nat} {C : CSt} {M : MSt} {o : Nat → Int64} (hi : i + 6 ≤ L) (hst : StV [1, 2, 3] cm_set R (m_X7_set n C (xs (i + 1)) (xs (i + 2)) (xs (i + 3))) (m_X8_set n M (xs (i + 1)) (xs (i + 2)) (xs (i + 3)))) {H : Heap} {locs : List Loc} {ls : Array Slot} {cells slots : Nat} {Q : State → Prop} (hce : cells + 6 ≤ 612593) (hsl : slots + 36 ≤ 7258324) (hw : Wd D (fun q : Nat => s.heap.size ≤ q) s.heap (GM cy am M ++ GH cy ad oa (C, o)) H locs) (hl : lv_has ls 7 [(0, .ref b), (1, .ref (ad 0 0)), (2, .ref (am 0 0)), (3, .ref (oa 0)), (4, .int (nI i))]) (kk : ∀ (C2 : CSt) (M2 : MSt) (o2 : Nat → Int64) (H2 : Heap) (locs2 : List Loc) (ls2 : Array Slot), R C2 M2 → Wd D (fun q : Nat => s.heap.size ≤ q) s.heap (GM cy am M2 ++ GH cy ad oa (C2, o2)) H2 locs2 → lv_has ls2 7 [(0, .ref b), (1, .ref (ad 0 0)), (2, .ref (am 0 0)), (3, .ref (oa 0)), (4, .int (nI i))] → W p l e room_1 s m #[Value.ref b] below meth c H2 locs2 (cells + 6) (slots + 36) Q (F0 m 1224 ls2 [])) : W p l e room_1 s m #[Value.ref b] below meth c H locs cells slots Q (F0 m 292 ls []) := by
  obtain ⟨hx, hb, hml, hown, hts, hr, hlo, hK, hA, hXX⟩ := id K
  obtain ⟨out, w, hmc, hmm, h1, h2⟩ := hst
  refine lv_aload_n hx hb dL_law_292 rfl (lv_at hl 1 rfl) ?_
  refine lv_aload_n hx hb dL_law_293 rfl (lv_at hl 0 rfl) ?_
  refine lv_iload hx hb dL_law_294 (lv_at hl 4 rfl) ?_
  refine lv_iconst (v := nI 1) hx hb dL_law_296 (by decide) ?_
  refine lv_iadd hx hb dL_law_297 ?_
  refine va_sld hx hb hX hbl (Nat.not_le.mpr hbl) hw.2.2 (sc_in (i := i) (d := 1) (by omega) hL) dL_law_298 ?_
  rw [sc_at (i := i) (d := 1) (by omega) hL xs]
  refine lv_aload_n hx hb dL_law_299 rfl (lv_at hl 0 rfl) ?_
  refine lv_iload hx hb dL_law_300 (lv_at hl 4 rfl) ?_
  refine lv_iconst (v := nI 2) hx hb dL_law_302 (by decide) ?_
  refine lv_iadd hx hb dL_law_303 ?_
  refine va_sld hx hb hX hbl (Nat.not_le.mpr hbl) hw.2.2 (sc_in (i := i) (d := 2) (by omega) hL) dL_law_304 ?_
  rw [sc_at (i := i) (d := 2) (by omega) hL xs]
  refine lv_aload_n hx hb dL_law_305 rfl (lv_at hl 0 rfl) ?_
  refine lv_iload hx hb dL_law_306 (lv_at hl 4 rfl) ?_
  refine lv_iconst (v := nI 3) hx hb dL_law_308 (by decide) ?_
  refine lv_iadd hx hb dL_law_309 ?_
  refine va_sld hx hb hX hbl (Nat.not_le.mpr hbl) hw.2.2 (sc_in (i := i) (d := 3) (by omega) hL) dL_law_310 ?_
  rw [sc_at (i := i) (d := 3) (by omega) hL xs]
  have hw := Wd_nil hw
  refine f_calli (G1 := GM cy am M) (G := GH cy ad oa (C, o)) (G2 := []) (GG := GH cy ad oa) K hw (vx_runSW (As := [.ref (ad 0 0), .int (xs (i + 1)), .int (xs (i + 2)), .int (xs (i + 3))]) (rest := []) (g_fix K) (h_set l hl9 D cy ad oa H.size n C o (xs (i + 1)) (xs (i + 2)) (xs (i + 3)) hmc (fun k C2 ho => by have hk := (h2 k C2 ho).1; simpa using hk)) (vx_cwSW 4 (g_hts K) gL_law_L_set rfl rfl rfl (by decide +kernel) ⟨Nat.le_of_ble_eq_true rfl, Nat.le_of_ble_eq_true rfl⟩) ⟨g_blind rides_EL, g_pre K (Wd_mid hw) (g_ride rides_EL K (Wd_mid hw))⟩ rfl rfl hl.1 rfl (lv_room (Nat.le_of_ble_eq_true rfl)) dL_law_311 ⟨by show cells + 5 ≤ 612593; omega, by show slots + 30 ≤ 7258324; omega⟩) (fun r u H locs hp hw => ?_)
  replace hw := Wd_lin hw
  obtain ⟨C2, o2⟩ := u
  have key : R C2 w ∧ w.1 0 0 = r := by
    rcases hp with ⟨C3, ho, hr0, hu⟩ | ⟨k, C3, ho, hr0, hu⟩
    · obtain ⟨a1, a3⟩ := h1 C3 ho
      cases hu
      exact ⟨a3, a1.trans hr0.symm⟩
    · obtain ⟨a1, a2, a3⟩ := h2 k C3 ho
      cases hu
      exact ⟨a3, a2.trans hr0.symm⟩
  obtain ⟨kR, kt⟩ := key
  refine lv_istore (lv' := [(5, .int r), (0, .ref b), (1, .ref (ad 0 0)), (2, .ref (am 0 0)), (3, .ref (oa 0)), (4, .int (nI i))]) hx hb dL_law_314 hl (by decide) rfl (fun ls hl => ?_)
  refine lv_aload_n hx hb dL_law_316 rfl (lv_at hl 3 rfl) ?_
  refine lv_aload_n hx hb dL_law_317 rfl (lv_at hl 1 rfl) ?_
  refine lv_iload hx hb dL_law_318 (lv_at hl 5 rfl) ?_
  refine lv_iconst (v := nI 1) hx hb dL_law_320 (by decide) ?_
  refine lv_iadd hx hb dL_law_321 ?_
  refine va_sld hx hb hX hbl (Nat.not_le.mpr hbl) hw.2.2 (sc_in (i := i) (d := 1) (by omega) hL) dL_law_322 ?_
  rw [sc_at (i := i) (d := 1) (by omega) hL xs]
  refine lv_aload_n hx hb dL_law_323 rfl (lv_at hl 1 rfl) ?_
  refine lv_iload hx hb dL_law_324 (lv_at hl 5 rfl) ?_
  refine lv_iconst (v := nI 2) hx hb dL_law_326 (by decide) ?_
  refine lv_iadd hx hb dL_law_327 ?_
  refine va_sld hx hb hX hbl (Nat.not_le.mpr hbl) hw.2.2 (sc_in (i := i) (d := 2) (by omega) hL) dL_law_328 ?_
  rw [sc_at (i := i) (d := 2) (by omega) hL xs]
  refine lv_aload_n hx hb dL_law_329 rfl (lv_at hl 1 rfl) ?_
  refine lv_iload hx hb dL_law_330 (lv_at hl 5 rfl) ?_
  refine lv_iconst (v := nI 3) hx hb dL_law_332 (by decide) ?_
  refine lv_iadd hx hb dL_law_333 ?_
  refine va_sld hx hb hX hbl (Nat.not_le.mpr hbl) hw.2.2 (sc_in (i := i) (d := 3) (by omega) hL) dL_law_334 ?_
  rw [sc_at (i := i) (d := 3) (by omega) hL xs]
  refine f_callv (G1 := []) (G := GM cy am M) (G2 := GH cy ad oa (C2, o2)) (GG := GM cy am) K hw (va_runV (As := [.int (xs (i + 1)), .int (xs (i + 2)), .int (xs (i + 3))]) (rest := []) (g_fix K) (c_X8_set l D cy am H.size n M (xs (i + 1)) (xs (i + 2)) (xs (i + 3)) hmm) (cwV 3 (g_hts K) gL_law_X8_set rfl rfl rfl (by decide +kernel) ⟨Nat.le_of_ble_eq_true rfl, Nat.le_of_ble_eq_true rfl⟩) ⟨g_blind rides_none, g_recv K (Wd_mid (G1 := []) (G := GM cy am M) (G2 := GH cy ad oa (C2, o2)) hw) 0 rfl (by decide : 0 < 1) rfl rfl, g_pre (X2 := fun _ _ => True) K (Wd_mid (G1 := []) (G := GM cy am M) (G2 := GH cy ad oa (C2, o2)) hw) (fun _ _ _ => trivial)⟩ rfl rfl hl.1 rfl (lv_room (Nat.le_of_ble_eq_true rfl)) dL_law_335 ⟨by show cells + 5 + 0 ≤ 612593; omega, by show slots + 30 + 0 ≤ 7258324; omega⟩) (fun u H locs hp hw => ?_)
  replace hw : Wd D (fun q : Nat => s.heap.size ≤ q) s.heap (GM cy am u ++ GH cy ad oa (C2, o2)) H locs := hw
  rw [← hp] at hw
  refine lv_aload_n hx hb dL_law_338 rfl (lv_at hl 3 rfl) ?_
  refine f_calli (G1 := []) (G := GM cy am w) (G2 := GH cy ad oa (C2, o2)) (GG := GM cy am) K hw (va_runV (As := []) (rest := []) (g_fix K) (c_X8_thrown l D cy am H.size n w  (out := w.1 0 0) rfl) (cwV 0 (g_hts K) gL_law_X8_thrown rfl rfl rfl (by decide +kernel) ⟨Nat.le_of_ble_eq_true rfl, Nat.le_of_ble_eq_true rfl⟩) ⟨g_blind rides_none, g_recv K (Wd_mid (G1 := []) (G := GM cy am w) (G2 := GH cy ad oa (C2, o2)) hw) 0 rfl (by decide : 0 < 1) rfl rfl, g_pre (X2 := fun _ _ => True) K (Wd_mid (G1 := []) (G := GM cy am w) (G2 := GH cy ad oa (C2, o2)) hw) (fun _ _ _ => trivial)⟩ rfl rfl hl.1 rfl (lv_room (Nat.le_of_ble_eq_true rfl)) dL_law_339 ⟨by show cells + 5 + 0 + 0 ≤ 612593; omega, by show slots + 30 + 0 + 0 ≤ 7258324; omega⟩) (fun r3 u3 H locs hp hw => ?_)
  obtain ⟨hp1, hp2⟩ := hp
  rw [hp2] at hw
  replace hw : Wd D (fun q : Nat => s.heap.size ≤ q) s.heap (GM cy am w ++ GH cy ad oa (C2, o2)) H locs := hw
  refine lv_iload hx hb dL_law_342 (lv_at hl 0 rfl) ?_
  refine lv_icmp_eq (tgt := 349) hx hb dL_law_344 (by decide) (fun c1 => ?_) (fun c1 => absurd (hp1.symm.trans kt) c1)
  refine lv_goto (tgt := 1224) hx hb dL_law_349 (by decide) ?_
  refine W.widen (k := cells + 6) (n := slots + 36) (by omega) (by omega) ?_
  exact kk C2 w o2 H locs ls kR hw (lv_sub hl [1, 2, 3, 4, 5] rfl)
set_option maxRecDepth 100000 in
set_option maxHeartbeats 4000000 in
theorem lc_link {p : Program} {l : Launch} {e : Env} {s : State} {m : MethodId} {below : List Frame} {meth : Method} {c : Code} (hl9 : l.stackTraces = false) {b L : Nat} {xs : Nat → Int32} (hL : L ≤ 3072) (hX : va_X b L xs s s.heap) (hbl : b < s.heap.size) {D : va_G} {cy : Nat → ClassId} {ad am : Nat → Nat → Nat} {oa : Nat → Nat} (K : Cx p s m #[Value.ref b] meth c D (fun q : Nat => s.heap.size ≤ q) (tysC cy) RL cL_law 7 ret wsL_law EL) {R : CSt → MSt → Prop} {n i : Nat} {C : CSt} {M : MSt} {o : Nat → Int64} (hi : i + 6 ≤ L) (hst : StV [1, 2, 3] cm_link R (m_X7_link n C (xs (i + 1)) (xs (i + 2)) (xs (i + 3))) (m_X8_link n M (xs (i + 1)) (xs (i + 2)) (xs (i + 3)))) {H : Heap} {locs : List Loc} {ls : Array Slot} {cells slots : Nat} {Q : State → Prop} (hce : cells + 6 ≤ 612593) (hsl : slots + 36 ≤ 7258324) (hw : Wd D (fun q : Nat => s.heap.size ≤ q) s.heap (GM cy am M ++ GH cy ad oa (C, o)) H locs) (hl : lv_has ls 7 [(0, .ref b), (1, .ref (ad 0 0)), (2, .ref (am 0 0)), (3, .ref (oa 0)), (4, .int (nI i))]) (kk : ∀ (C2 : CSt) (M2 : MSt) (o2 : Nat → Int64) (H2 : Heap) (locs2 : List Loc) (ls2 : Array Slot), R C2 M2 → Wd D (fun q : Nat => s.heap.size ≤ q) s.heap (GM cy am M2 ++ GH cy ad oa (C2, o2)) H2 locs2 → lv_has ls2 7 [(0, .ref b), (1, .ref (ad 0 0)), (2, .ref (am 0 0)), (3, .ref (oa 0)), (4, .int (nI i))] → W p l e room_1 s m #[Value.ref b] below meth c H2 locs2 (cells + 6) (slots + 36) Q (F0 m 1224 ls2 [])) : W p l e room_1 s m #[Value.ref b] below meth c H locs cells slots Q (F0 m 352 ls []) := by
  obtain ⟨hx, hb, hml, hown, hts, hr, hlo, hK, hA, hXX⟩ := id K
  obtain ⟨out, w, hmc, hmm, h1, h2⟩ := hst
  refine lv_aload_n hx hb dL_law_352 rfl (lv_at hl 1 rfl) ?_
  refine lv_aload_n hx hb dL_law_353 rfl (lv_at hl 0 rfl) ?_
  refine lv_iload hx hb dL_law_354 (lv_at hl 4 rfl) ?_
  refine lv_iconst (v := nI 1) hx hb dL_law_356 (by decide) ?_
  refine lv_iadd hx hb dL_law_357 ?_
  refine va_sld hx hb hX hbl (Nat.not_le.mpr hbl) hw.2.2 (sc_in (i := i) (d := 1) (by omega) hL) dL_law_358 ?_
  rw [sc_at (i := i) (d := 1) (by omega) hL xs]
  refine lv_aload_n hx hb dL_law_359 rfl (lv_at hl 0 rfl) ?_
  refine lv_iload hx hb dL_law_360 (lv_at hl 4 rfl) ?_
  refine lv_iconst (v := nI 2) hx hb dL_law_362 (by decide) ?_
  refine lv_iadd hx hb dL_law_363 ?_
  refine va_sld hx hb hX hbl (Nat.not_le.mpr hbl) hw.2.2 (sc_in (i := i) (d := 2) (by omega) hL) dL_law_364 ?_
  rw [sc_at (i := i) (d := 2) (by omega) hL xs]
  refine lv_aload_n hx hb dL_law_365 rfl (lv_at hl 0 rfl) ?_
  refine lv_iload hx hb dL_law_366 (lv_at hl 4 rfl) ?_
  refine lv_iconst (v := nI 3) hx hb dL_law_368 (by decide) ?_
  refine lv_iadd hx hb dL_law_369 ?_
  refine va_sld hx hb hX hbl (Nat.not_le.mpr hbl) hw.2.2 (sc_in (i := i) (d := 3) (by omega) hL) dL_law_370 ?_
  rw [sc_at (i := i) (d := 3) (by omega) hL xs]
  have hw := Wd_nil hw
  refine f_calli (G1 := GM cy am M) (G := GH cy ad oa (C, o)) (G2 := []) (GG := GH cy ad oa) K hw (vx_runSW (As := [.ref (ad 0 0), .int (xs (i + 1)), .int (xs (i + 2)), .int (xs (i + 3))]) (rest := []) (g_fix K) (h_link l hl9 D cy ad oa H.size n C o (xs (i + 1)) (xs (i + 2)) (xs (i + 3)) hmc (fun k C2 ho => by have hk := (h2 k C2 ho).1; simpa using hk)) (vx_cwSW 4 (g_hts K) gL_law_L_link rfl rfl rfl (by decide +kernel) ⟨Nat.le_of_ble_eq_true rfl, Nat.le_of_ble_eq_true rfl⟩) ⟨g_blind rides_EL, g_pre K (Wd_mid hw) (g_ride rides_EL K (Wd_mid hw))⟩ rfl rfl hl.1 rfl (lv_room (Nat.le_of_ble_eq_true rfl)) dL_law_371 ⟨by show cells + 6 ≤ 612593; omega, by show slots + 36 ≤ 7258324; omega⟩) (fun r u H locs hp hw => ?_)
  replace hw := Wd_lin hw
  obtain ⟨C2, o2⟩ := u
  have key : R C2 w ∧ w.1 0 0 = r := by
    rcases hp with ⟨C3, ho, hr0, hu⟩ | ⟨k, C3, ho, hr0, hu⟩
    · obtain ⟨a1, a3⟩ := h1 C3 ho
      cases hu
      exact ⟨a3, a1.trans hr0.symm⟩
    · obtain ⟨a1, a2, a3⟩ := h2 k C3 ho
      cases hu
      exact ⟨a3, a2.trans hr0.symm⟩
  obtain ⟨kR, kt⟩ := key
  refine lv_istore (lv' := [(5, .int r), (0, .ref b), (1, .ref (ad 0 0)), (2, .ref (am 0 0)), (3, .ref (oa 0)), (4, .int (nI i))]) hx hb dL_law_374 hl (by decide) rfl (fun ls hl => ?_)
  refine lv_aload_n hx hb dL_law_376 rfl (lv_at hl 3 rfl) ?_
  refine lv_aload_n hx hb dL_law_377 rfl (lv_at hl 1 rfl) ?_
  refine lv_iload hx hb dL_law_378 (lv_at hl 5 rfl) ?_
  refine lv_iconst (v := nI 1) hx hb dL_law_380 (by decide) ?_
  refine lv_iadd hx hb dL_law_381 ?_
  refine va_sld hx hb hX hbl (Nat.not_le.mpr hbl) hw.2.2 (sc_in (i := i) (d := 1) (by omega) hL) dL_law_382 ?_
  rw [sc_at (i := i) (d := 1) (by omega) hL xs]
  refine lv_aload_n hx hb dL_law_383 rfl (lv_at hl 1 rfl) ?_
  refine lv_iload hx hb dL_law_384 (lv_at hl 5 rfl) ?_
  refine lv_iconst (v := nI 2) hx hb dL_law_386 (by decide) ?_
  refine lv_iadd hx hb dL_law_387 ?_
  refine va_sld hx hb hX hbl (Nat.not_le.mpr hbl) hw.2.2 (sc_in (i := i) (d := 2) (by omega) hL) dL_law_388 ?_
  rw [sc_at (i := i) (d := 2) (by omega) hL xs]
  refine lv_aload_n hx hb dL_law_389 rfl (lv_at hl 1 rfl) ?_
  refine lv_iload hx hb dL_law_390 (lv_at hl 5 rfl) ?_
  refine lv_iconst (v := nI 3) hx hb dL_law_392 (by decide) ?_
  refine lv_iadd hx hb dL_law_393 ?_
  refine va_sld hx hb hX hbl (Nat.not_le.mpr hbl) hw.2.2 (sc_in (i := i) (d := 3) (by omega) hL) dL_law_394 ?_
  rw [sc_at (i := i) (d := 3) (by omega) hL xs]
  refine f_callv (G1 := []) (G := GM cy am M) (G2 := GH cy ad oa (C2, o2)) (GG := GM cy am) K hw (va_runV (As := [.int (xs (i + 1)), .int (xs (i + 2)), .int (xs (i + 3))]) (rest := []) (g_fix K) (c_X8_link l D cy am H.size n M (xs (i + 1)) (xs (i + 2)) (xs (i + 3)) hmm) (cwV 3 (g_hts K) gL_law_X8_link rfl rfl rfl (by decide +kernel) ⟨Nat.le_of_ble_eq_true rfl, Nat.le_of_ble_eq_true rfl⟩) ⟨g_blind rides_none, g_recv K (Wd_mid (G1 := []) (G := GM cy am M) (G2 := GH cy ad oa (C2, o2)) hw) 0 rfl (by decide : 0 < 1) rfl rfl, g_pre (X2 := fun _ _ => True) K (Wd_mid (G1 := []) (G := GM cy am M) (G2 := GH cy ad oa (C2, o2)) hw) (fun _ _ _ => trivial)⟩ rfl rfl hl.1 rfl (lv_room (Nat.le_of_ble_eq_true rfl)) dL_law_395 ⟨by show cells + 6 + 0 ≤ 612593; omega, by show slots + 36 + 0 ≤ 7258324; omega⟩) (fun u H locs hp hw => ?_)
  replace hw : Wd D (fun q : Nat => s.heap.size ≤ q) s.heap (GM cy am u ++ GH cy ad oa (C2, o2)) H locs := hw
  rw [← hp] at hw
  refine lv_aload_n hx hb dL_law_398 rfl (lv_at hl 3 rfl) ?_
  refine f_calli (G1 := []) (G := GM cy am w) (G2 := GH cy ad oa (C2, o2)) (GG := GM cy am) K hw (va_runV (As := []) (rest := []) (g_fix K) (c_X8_thrown l D cy am H.size n w  (out := w.1 0 0) rfl) (cwV 0 (g_hts K) gL_law_X8_thrown rfl rfl rfl (by decide +kernel) ⟨Nat.le_of_ble_eq_true rfl, Nat.le_of_ble_eq_true rfl⟩) ⟨g_blind rides_none, g_recv K (Wd_mid (G1 := []) (G := GM cy am w) (G2 := GH cy ad oa (C2, o2)) hw) 0 rfl (by decide : 0 < 1) rfl rfl, g_pre (X2 := fun _ _ => True) K (Wd_mid (G1 := []) (G := GM cy am w) (G2 := GH cy ad oa (C2, o2)) hw) (fun _ _ _ => trivial)⟩ rfl rfl hl.1 rfl (lv_room (Nat.le_of_ble_eq_true rfl)) dL_law_399 ⟨by show cells + 6 + 0 + 0 ≤ 612593; omega, by show slots + 36 + 0 + 0 ≤ 7258324; omega⟩) (fun r3 u3 H locs hp hw => ?_)
  obtain ⟨hp1, hp2⟩ := hp
  rw [hp2] at hw
  replace hw : Wd D (fun q : Nat => s.heap.size ≤ q) s.heap (GM cy am w ++ GH cy ad oa (C2, o2)) H locs := hw
  refine lv_iload hx hb dL_law_402 (lv_at hl 0 rfl) ?_
  refine lv_icmp_eq (tgt := 409) hx hb dL_law_404 (by decide) (fun c1 => ?_) (fun c1 => absurd (hp1.symm.trans kt) c1)
  refine lv_goto (tgt := 1224) hx hb dL_law_409 (by decide) ?_
  refine W.widen (k := cells + 6) (n := slots + 36) (by omega) (by omega) ?_
  exact kk C2 w o2 H locs ls kR hw (lv_sub hl [1, 2, 3, 4, 5] rfl)
set_option maxRecDepth 100000 in
set_option maxHeartbeats 4000000 in
theorem lc_follow {p : Program} {l : Launch} {e : Env} {s : State} {m : MethodId} {below : List Frame} {meth : Method} {c : Code} (hl9 : l.stackTraces = false) {b L : Nat} {xs : Nat → Int32} (hL : L ≤ 3072) (hX : va_X b L xs s s.heap) (hbl : b < s.heap.size) {D : va_G} {cy : Nat → ClassId} {ad am : Nat → Nat → Nat} {oa : Nat → Nat} (K : Cx p s m #[Value.ref b] meth c D (fun q : Nat => s.heap.size ≤ q) (tysC cy) RL cL_law 7 ret wsL_law EL) {R : CSt → MSt → Prop} {n i : Nat} {C : CSt} {M : MSt} {o : Nat → Int64} (hi : i + 6 ≤ L) (hst : StV [1, 2] cm_follow R (m_X7_follow n C (xs (i + 1)) (xs (i + 2)) (xs (i + 3))) (m_X8_follow n M (xs (i + 1)) (xs (i + 2)) (xs (i + 3)))) {H : Heap} {locs : List Loc} {ls : Array Slot} {cells slots : Nat} {Q : State → Prop} (hce : cells + 6 ≤ 612593) (hsl : slots + 36 ≤ 7258324) (hw : Wd D (fun q : Nat => s.heap.size ≤ q) s.heap (GM cy am M ++ GH cy ad oa (C, o)) H locs) (hl : lv_has ls 7 [(0, .ref b), (1, .ref (ad 0 0)), (2, .ref (am 0 0)), (3, .ref (oa 0)), (4, .int (nI i))]) (kk : ∀ (C2 : CSt) (M2 : MSt) (o2 : Nat → Int64) (H2 : Heap) (locs2 : List Loc) (ls2 : Array Slot), R C2 M2 → Wd D (fun q : Nat => s.heap.size ≤ q) s.heap (GM cy am M2 ++ GH cy ad oa (C2, o2)) H2 locs2 → lv_has ls2 7 [(0, .ref b), (1, .ref (ad 0 0)), (2, .ref (am 0 0)), (3, .ref (oa 0)), (4, .int (nI i))] → W p l e room_1 s m #[Value.ref b] below meth c H2 locs2 (cells + 6) (slots + 36) Q (F0 m 1224 ls2 [])) : W p l e room_1 s m #[Value.ref b] below meth c H locs cells slots Q (F0 m 412 ls []) := by
  obtain ⟨hx, hb, hml, hown, hts, hr, hlo, hK, hA, hXX⟩ := id K
  obtain ⟨out, w, hmc, hmm, h1, h2⟩ := hst
  refine lv_aload_n hx hb dL_law_412 rfl (lv_at hl 1 rfl) ?_
  refine lv_aload_n hx hb dL_law_413 rfl (lv_at hl 0 rfl) ?_
  refine lv_iload hx hb dL_law_414 (lv_at hl 4 rfl) ?_
  refine lv_iconst (v := nI 1) hx hb dL_law_416 (by decide) ?_
  refine lv_iadd hx hb dL_law_417 ?_
  refine va_sld hx hb hX hbl (Nat.not_le.mpr hbl) hw.2.2 (sc_in (i := i) (d := 1) (by omega) hL) dL_law_418 ?_
  rw [sc_at (i := i) (d := 1) (by omega) hL xs]
  refine lv_aload_n hx hb dL_law_419 rfl (lv_at hl 0 rfl) ?_
  refine lv_iload hx hb dL_law_420 (lv_at hl 4 rfl) ?_
  refine lv_iconst (v := nI 2) hx hb dL_law_422 (by decide) ?_
  refine lv_iadd hx hb dL_law_423 ?_
  refine va_sld hx hb hX hbl (Nat.not_le.mpr hbl) hw.2.2 (sc_in (i := i) (d := 2) (by omega) hL) dL_law_424 ?_
  rw [sc_at (i := i) (d := 2) (by omega) hL xs]
  refine lv_aload_n hx hb dL_law_425 rfl (lv_at hl 0 rfl) ?_
  refine lv_iload hx hb dL_law_426 (lv_at hl 4 rfl) ?_
  refine lv_iconst (v := nI 3) hx hb dL_law_428 (by decide) ?_
  refine lv_iadd hx hb dL_law_429 ?_
  refine va_sld hx hb hX hbl (Nat.not_le.mpr hbl) hw.2.2 (sc_in (i := i) (d := 3) (by omega) hL) dL_law_430 ?_
  rw [sc_at (i := i) (d := 3) (by omega) hL xs]
  have hw := Wd_nil hw
  refine f_calli (G1 := GM cy am M) (G := GH cy ad oa (C, o)) (G2 := []) (GG := GH cy ad oa) K hw (vx_runSW (As := [.ref (ad 0 0), .int (xs (i + 1)), .int (xs (i + 2)), .int (xs (i + 3))]) (rest := []) (g_fix K) (h_follow l hl9 D cy ad oa H.size n C o (xs (i + 1)) (xs (i + 2)) (xs (i + 3)) hmc (fun k C2 ho => by have hk := (h2 k C2 ho).1; simpa using hk)) (vx_cwSW 4 (g_hts K) gL_law_L_follow rfl rfl rfl (by decide +kernel) ⟨Nat.le_of_ble_eq_true rfl, Nat.le_of_ble_eq_true rfl⟩) ⟨g_blind rides_EL, g_pre K (Wd_mid hw) (g_ride rides_EL K (Wd_mid hw))⟩ rfl rfl hl.1 rfl (lv_room (Nat.le_of_ble_eq_true rfl)) dL_law_431 ⟨by show cells + 5 ≤ 612593; omega, by show slots + 30 ≤ 7258324; omega⟩) (fun r u H locs hp hw => ?_)
  replace hw := Wd_lin hw
  obtain ⟨C2, o2⟩ := u
  have key : R C2 w ∧ w.1 0 0 = r := by
    rcases hp with ⟨C3, ho, hr0, hu⟩ | ⟨k, C3, ho, hr0, hu⟩
    · obtain ⟨a1, a3⟩ := h1 C3 ho
      cases hu
      exact ⟨a3, a1.trans hr0.symm⟩
    · obtain ⟨a1, a2, a3⟩ := h2 k C3 ho
      cases hu
      exact ⟨a3, a2.trans hr0.symm⟩
  obtain ⟨kR, kt⟩ := key
  refine lv_istore (lv' := [(5, .int r), (0, .ref b), (1, .ref (ad 0 0)), (2, .ref (am 0 0)), (3, .ref (oa 0)), (4, .int (nI i))]) hx hb dL_law_434 hl (by decide) rfl (fun ls hl => ?_)
  refine lv_aload_n hx hb dL_law_436 rfl (lv_at hl 3 rfl) ?_
  refine lv_aload_n hx hb dL_law_437 rfl (lv_at hl 1 rfl) ?_
  refine lv_iload hx hb dL_law_438 (lv_at hl 5 rfl) ?_
  refine lv_iconst (v := nI 1) hx hb dL_law_440 (by decide) ?_
  refine lv_iadd hx hb dL_law_441 ?_
  refine va_sld hx hb hX hbl (Nat.not_le.mpr hbl) hw.2.2 (sc_in (i := i) (d := 1) (by omega) hL) dL_law_442 ?_
  rw [sc_at (i := i) (d := 1) (by omega) hL xs]
  refine lv_aload_n hx hb dL_law_443 rfl (lv_at hl 1 rfl) ?_
  refine lv_iload hx hb dL_law_444 (lv_at hl 5 rfl) ?_
  refine lv_iconst (v := nI 2) hx hb dL_law_446 (by decide) ?_
  refine lv_iadd hx hb dL_law_447 ?_
  refine va_sld hx hb hX hbl (Nat.not_le.mpr hbl) hw.2.2 (sc_in (i := i) (d := 2) (by omega) hL) dL_law_448 ?_
  rw [sc_at (i := i) (d := 2) (by omega) hL xs]
  refine lv_aload_n hx hb dL_law_449 rfl (lv_at hl 1 rfl) ?_
  refine lv_iload hx hb dL_law_450 (lv_at hl 5 rfl) ?_
  refine lv_iconst (v := nI 3) hx hb dL_law_452 (by decide) ?_
  refine lv_iadd hx hb dL_law_453 ?_
  refine va_sld hx hb hX hbl (Nat.not_le.mpr hbl) hw.2.2 (sc_in (i := i) (d := 3) (by omega) hL) dL_law_454 ?_
  rw [sc_at (i := i) (d := 3) (by omega) hL xs]
  refine f_callv (G1 := []) (G := GM cy am M) (G2 := GH cy ad oa (C2, o2)) (GG := GM cy am) K hw (va_runV (As := [.int (xs (i + 1)), .int (xs (i + 2)), .int (xs (i + 3))]) (rest := []) (g_fix K) (c_X8_follow l D cy am H.size n M (xs (i + 1)) (xs (i + 2)) (xs (i + 3)) hmm) (cwV 3 (g_hts K) gL_law_X8_follow rfl rfl rfl (by decide +kernel) ⟨Nat.le_of_ble_eq_true rfl, Nat.le_of_ble_eq_true rfl⟩) ⟨g_blind rides_none, g_recv K (Wd_mid (G1 := []) (G := GM cy am M) (G2 := GH cy ad oa (C2, o2)) hw) 0 rfl (by decide : 0 < 1) rfl rfl, g_pre (X2 := fun _ _ => True) K (Wd_mid (G1 := []) (G := GM cy am M) (G2 := GH cy ad oa (C2, o2)) hw) (fun _ _ _ => trivial)⟩ rfl rfl hl.1 rfl (lv_room (Nat.le_of_ble_eq_true rfl)) dL_law_455 ⟨by show cells + 5 + 0 ≤ 612593; omega, by show slots + 30 + 0 ≤ 7258324; omega⟩) (fun u H locs hp hw => ?_)
  replace hw : Wd D (fun q : Nat => s.heap.size ≤ q) s.heap (GM cy am u ++ GH cy ad oa (C2, o2)) H locs := hw
  rw [← hp] at hw
  refine lv_aload_n hx hb dL_law_458 rfl (lv_at hl 3 rfl) ?_
  refine f_calli (G1 := []) (G := GM cy am w) (G2 := GH cy ad oa (C2, o2)) (GG := GM cy am) K hw (va_runV (As := []) (rest := []) (g_fix K) (c_X8_thrown l D cy am H.size n w  (out := w.1 0 0) rfl) (cwV 0 (g_hts K) gL_law_X8_thrown rfl rfl rfl (by decide +kernel) ⟨Nat.le_of_ble_eq_true rfl, Nat.le_of_ble_eq_true rfl⟩) ⟨g_blind rides_none, g_recv K (Wd_mid (G1 := []) (G := GM cy am w) (G2 := GH cy ad oa (C2, o2)) hw) 0 rfl (by decide : 0 < 1) rfl rfl, g_pre (X2 := fun _ _ => True) K (Wd_mid (G1 := []) (G := GM cy am w) (G2 := GH cy ad oa (C2, o2)) hw) (fun _ _ _ => trivial)⟩ rfl rfl hl.1 rfl (lv_room (Nat.le_of_ble_eq_true rfl)) dL_law_459 ⟨by show cells + 5 + 0 + 0 ≤ 612593; omega, by show slots + 30 + 0 + 0 ≤ 7258324; omega⟩) (fun r3 u3 H locs hp hw => ?_)
  obtain ⟨hp1, hp2⟩ := hp
  rw [hp2] at hw
  replace hw : Wd D (fun q : Nat => s.heap.size ≤ q) s.heap (GM cy am w ++ GH cy ad oa (C2, o2)) H locs := hw
  refine lv_iload hx hb dL_law_462 (lv_at hl 0 rfl) ?_
  refine lv_icmp_eq (tgt := 469) hx hb dL_law_464 (by decide) (fun c1 => ?_) (fun c1 => absurd (hp1.symm.trans kt) c1)
  refine lv_goto (tgt := 1224) hx hb dL_law_469 (by decide) ?_
  refine W.widen (k := cells + 6) (n := slots + 36) (by omega) (by omega) ?_
  exact kk C2 w o2 H locs ls kR hw (lv_sub hl [1, 2, 3, 4, 5] rfl)
set_option maxRecDepth 100000 in
set_option maxHeartbeats 4000000 in
theorem lc_drop {p : Program} {l : Launch} {e : Env} {s : State} {m : MethodId} {below : List Frame} {meth : Method} {c : Code} (hl9 : l.stackTraces = false) {b L : Nat} {xs : Nat → Int32} (hL : L ≤ 3072) (hX : va_X b L xs s s.heap) (hbl : b < s.heap.size) {D : va_G} {cy : Nat → ClassId} {ad am : Nat → Nat → Nat} {oa : Nat → Nat} (K : Cx p s m #[Value.ref b] meth c D (fun q : Nat => s.heap.size ≤ q) (tysC cy) RL cL_law 7 ret wsL_law EL) {R : CSt → MSt → Prop} {n i : Nat} {C : CSt} {M : MSt} {o : Nat → Int64} (hi : i + 6 ≤ L) (hst : StI [1] cm_drop R (m_X7_drop n C (xs (i + 1))) (m_X8_drop n M (xs (i + 1)))) {H : Heap} {locs : List Loc} {ls : Array Slot} {cells slots : Nat} {Q : State → Prop} (hce : cells + 6 ≤ 612593) (hsl : slots + 36 ≤ 7258324) (hw : Wd D (fun q : Nat => s.heap.size ≤ q) s.heap (GM cy am M ++ GH cy ad oa (C, o)) H locs) (hl : lv_has ls 7 [(0, .ref b), (1, .ref (ad 0 0)), (2, .ref (am 0 0)), (3, .ref (oa 0)), (4, .int (nI i))]) (kk : ∀ (C2 : CSt) (M2 : MSt) (o2 : Nat → Int64) (H2 : Heap) (locs2 : List Loc) (ls2 : Array Slot), R C2 M2 → Wd D (fun q : Nat => s.heap.size ≤ q) s.heap (GM cy am M2 ++ GH cy ad oa (C2, o2)) H2 locs2 → lv_has ls2 7 [(0, .ref b), (1, .ref (ad 0 0)), (2, .ref (am 0 0)), (3, .ref (oa 0)), (4, .int (nI i))] → W p l e room_1 s m #[Value.ref b] below meth c H2 locs2 (cells + 6) (slots + 36) Q (F0 m 1224 ls2 [])) : W p l e room_1 s m #[Value.ref b] below meth c H locs cells slots Q (F0 m 472 ls []) := by
  obtain ⟨hx, hb, hml, hown, hts, hr, hlo, hK, hA, hXX⟩ := id K
  obtain ⟨out, w, hmc, hmm, h1, h2⟩ := hst
  refine lv_aload_n hx hb dL_law_472 rfl (lv_at hl 1 rfl) ?_
  refine lv_aload_n hx hb dL_law_473 rfl (lv_at hl 0 rfl) ?_
  refine lv_iload hx hb dL_law_474 (lv_at hl 4 rfl) ?_
  refine lv_iconst (v := nI 1) hx hb dL_law_476 (by decide) ?_
  refine lv_iadd hx hb dL_law_477 ?_
  refine va_sld hx hb hX hbl (Nat.not_le.mpr hbl) hw.2.2 (sc_in (i := i) (d := 1) (by omega) hL) dL_law_478 ?_
  rw [sc_at (i := i) (d := 1) (by omega) hL xs]
  refine lv_aload_n hx hb dL_law_479 rfl (lv_at hl 3 rfl) ?_
  have hw := Wd_nil hw
  refine f_calli (G1 := GM cy am M) (G := GH cy ad oa (C, o)) (G2 := []) (GG := GH cy ad oa) K hw (vx_runSW (As := [.ref (ad 0 0), .int (xs (i + 1)), .ref (oa 0)]) (rest := []) (g_fix K) (h_drop l hl9 D cy ad oa H.size n C o (xs (i + 1)) hmc (fun k C2 ho => by have hk := (h2 k C2 ho).1; simpa using hk)) (vx_cwSW 3 (g_hts K) gL_law_L_drop rfl rfl rfl (by decide +kernel) ⟨Nat.le_of_ble_eq_true rfl, Nat.le_of_ble_eq_true rfl⟩) ⟨g_blind rides_EL, g_pre K (Wd_mid hw) (g_ride rides_EL K (Wd_mid hw))⟩ rfl rfl hl.1 rfl (lv_room (Nat.le_of_ble_eq_true rfl)) dL_law_480 ⟨by show cells + 1 ≤ 612593; omega, by show slots + 6 ≤ 7258324; omega⟩) (fun r u H locs hp hw => ?_)
  replace hw := Wd_lin hw
  obtain ⟨C2, o2⟩ := u
  have key : R C2 w.2 ∧ w.2.1 0 0 = r ∧ (r = 0 → o2 0 = (if w.1 = 0 then 0 else 1 : Int64)) := by
    rcases hp with ⟨v, C3, ho, hr0, hu⟩ | ⟨k, C3, ho, hr0, hu⟩
    · obtain ⟨a1, a2, a3⟩ := h1 v C3 ho
      cases hu
      exact ⟨a3, a1.trans hr0.symm, fun _ => by rw [upL_0, a2]⟩
    · obtain ⟨a1, a2, a3⟩ := h2 k C3 ho
      cases hu
      refine ⟨a3, a2.trans hr0.symm, fun hz => absurd (hr0.symm.trans hz) ?_⟩
      have a1 : k = 1 := by simpa using a1
      rcases a1 with rfl <;> decide
  obtain ⟨kR, kt, ko⟩ := key
  refine lv_istore (lv' := [(5, .int r), (0, .ref b), (1, .ref (ad 0 0)), (2, .ref (am 0 0)), (3, .ref (oa 0)), (4, .int (nI i))]) hx hb dL_law_483 hl (by decide) rfl (fun ls hl => ?_)
  refine lv_aload_n hx hb dL_law_485 rfl (lv_at hl 3 rfl) ?_
  refine lv_aload_n hx hb dL_law_486 rfl (lv_at hl 1 rfl) ?_
  refine lv_iload hx hb dL_law_487 (lv_at hl 5 rfl) ?_
  refine lv_iconst (v := nI 1) hx hb dL_law_489 (by decide) ?_
  refine lv_iadd hx hb dL_law_490 ?_
  refine va_sld hx hb hX hbl (Nat.not_le.mpr hbl) hw.2.2 (sc_in (i := i) (d := 1) (by omega) hL) dL_law_491 ?_
  rw [sc_at (i := i) (d := 1) (by omega) hL xs]
  refine f_calli (G1 := []) (G := GM cy am M) (G2 := GH cy ad oa (C2, o2)) (GG := GM cy am) K hw (va_runV (As := [.int (xs (i + 1))]) (rest := []) (g_fix K) (c_X8_drop l D cy am H.size n M (xs (i + 1)) hmm) (cwV 1 (g_hts K) gL_law_X8_drop rfl rfl rfl (by decide +kernel) ⟨Nat.le_of_ble_eq_true rfl, Nat.le_of_ble_eq_true rfl⟩) ⟨g_blind rides_none, g_recv K (Wd_mid (G1 := []) (G := GM cy am M) (G2 := GH cy ad oa (C2, o2)) hw) 0 rfl (by decide : 0 < 1) rfl rfl, g_pre (X2 := fun _ _ => True) K (Wd_mid (G1 := []) (G := GM cy am M) (G2 := GH cy ad oa (C2, o2)) hw) (fun _ _ _ => trivial)⟩ rfl rfl hl.1 rfl (lv_room (Nat.le_of_ble_eq_true rfl)) dL_law_492 ⟨by show cells + 1 + 0 ≤ 612593; omega, by show slots + 6 + 0 ≤ 7258324; omega⟩) (fun r2 u H locs hp hw => ?_)
  replace hw : Wd D (fun q : Nat => s.heap.size ≤ q) s.heap (GM cy am u ++ GH cy ad oa (C2, o2)) H locs := hw
  subst hp
  replace kR : R C2 u := kR
  replace kt : u.1 0 0 = r := kt
  replace ko : r = 0 → o2 0 = (if r2 = 0 then 0 else 1 : Int64) := ko
  refine lv_istore (lv' := [(6, .int r2), (5, .int r), (0, .ref b), (1, .ref (ad 0 0)), (2, .ref (am 0 0)), (3, .ref (oa 0)), (4, .int (nI i))]) hx hb dL_law_495 hl (by decide) rfl (fun ls hl => ?_)
  refine lv_aload_n hx hb dL_law_497 rfl (lv_at hl 4 rfl) ?_
  refine f_calli (G1 := []) (G := GM cy am u) (G2 := GH cy ad oa (C2, o2)) (GG := GM cy am) K hw (va_runV (As := []) (rest := []) (g_fix K) (c_X8_thrown l D cy am H.size n u  (out := u.1 0 0) rfl) (cwV 0 (g_hts K) gL_law_X8_thrown rfl rfl rfl (by decide +kernel) ⟨Nat.le_of_ble_eq_true rfl, Nat.le_of_ble_eq_true rfl⟩) ⟨g_blind rides_none, g_recv K (Wd_mid (G1 := []) (G := GM cy am u) (G2 := GH cy ad oa (C2, o2)) hw) 0 rfl (by decide : 0 < 1) rfl rfl, g_pre (X2 := fun _ _ => True) K (Wd_mid (G1 := []) (G := GM cy am u) (G2 := GH cy ad oa (C2, o2)) hw) (fun _ _ _ => trivial)⟩ rfl rfl hl.1 rfl (lv_room (Nat.le_of_ble_eq_true rfl)) dL_law_498 ⟨by show cells + 1 + 0 + 0 ≤ 612593; omega, by show slots + 6 + 0 + 0 ≤ 7258324; omega⟩) (fun r3 u3 H locs hp hw => ?_)
  obtain ⟨hp1, hp2⟩ := hp
  rw [hp2] at hw
  replace hw : Wd D (fun q : Nat => s.heap.size ≤ q) s.heap (GM cy am u ++ GH cy ad oa (C2, o2)) H locs := hw
  refine lv_iload hx hb dL_law_501 (lv_at hl 1 rfl) ?_
  refine lv_icmp_eq (tgt := 508) hx hb dL_law_503 (by decide) (fun c1 => ?_) (fun c1 => absurd (hp1.symm.trans kt) c1)
  refine lv_iload hx hb dL_law_508 (lv_at hl 1 rfl) ?_
  refine lv_if_ne (tgt := 532) hx hb dL_law_510 (by decide) (fun c2 => ?_) (fun c2 => ?_)
  · refine lv_goto (tgt := 1224) hx hb dL_law_532 (by decide) ?_
    refine W.widen (k := cells + 6) (n := slots + 36) (by omega) (by omega) ?_
    exact kk C2 u o2 H locs ls kR hw (lv_sub hl [2, 3, 4, 5, 6] rfl)
  · have c3 : r = 0 := c2
    replace ko := ko c3
    refine lv_aload_n hx hb dL_law_513 rfl (lv_at hl 5 rfl) ?_
    refine lv_iconst (v := 0) hx hb dL_law_514 (by decide) ?_
    refine g_lald K hw 58 1 rfl (by decide) rfl rfl (by decide) dL_law_515 ?_
    have e0 : (C2, o2).snd (Int32.toNatClampNeg 0) = (if r2 = 0 then 0 else 1 : Int64) := ko
    rw [e0]
    refine lv_iload hx hb dL_law_516 (lv_at hl 0 rfl) ?_
    refine lv_if_eq (tgt := 525) hx hb dL_law_518 (by decide) (fun c5 => ?_) (fun c5 => ?_)
    · rw [if_pos c5]
      refine lv_lconst (v := 0) hx hb dL_law_525 (by decide) ?_
      refine W.lcmp hx hb dL_law_526 ?_
      refine lv_if_eq (tgt := 532) hx hb dL_law_527 (by decide) (fun c4 => ?_) (fun c4 => absurd (lgc_self _) c4)
      refine lv_goto (tgt := 1224) hx hb dL_law_532 (by decide) ?_
      refine W.widen (k := cells + 6) (n := slots + 36) (by omega) (by omega) ?_
      exact kk C2 u o2 H locs ls kR hw (lv_sub hl [2, 3, 4, 5, 6] rfl)
    · rw [if_neg c5]
      refine lv_lconst (v := 1) hx hb dL_law_521 (by decide) ?_
      refine lv_goto (tgt := 526) hx hb dL_law_522 (by decide) ?_
      refine W.lcmp hx hb dL_law_526 ?_
      refine lv_if_eq (tgt := 532) hx hb dL_law_527 (by decide) (fun c4 => ?_) (fun c4 => absurd (lgc_self _) c4)
      refine lv_goto (tgt := 1224) hx hb dL_law_532 (by decide) ?_
      refine W.widen (k := cells + 6) (n := slots + 36) (by omega) (by omega) ?_
      exact kk C2 u o2 H locs ls kR hw (lv_sub hl [2, 3, 4, 5, 6] rfl)
set_option maxRecDepth 100000 in
set_option maxHeartbeats 4000000 in
theorem lc_same {p : Program} {l : Launch} {e : Env} {s : State} {m : MethodId} {below : List Frame} {meth : Method} {c : Code} (hl9 : l.stackTraces = false) {b L : Nat} {xs : Nat → Int32} (hL : L ≤ 3072) (hX : va_X b L xs s s.heap) (hbl : b < s.heap.size) {D : va_G} {cy : Nat → ClassId} {ad am : Nat → Nat → Nat} {oa : Nat → Nat} (K : Cx p s m #[Value.ref b] meth c D (fun q : Nat => s.heap.size ≤ q) (tysC cy) RL cL_law 7 ret wsL_law EL) {R : CSt → MSt → Prop} {n i : Nat} {C : CSt} {M : MSt} {o : Nat → Int64} (hi : i + 6 ≤ L) (hst : StP [1] cm_same R C (m_X7_same n C (xs (i + 1)) (xs (i + 2))) (m_X8_same n M (xs (i + 1)) (xs (i + 2)))) {H : Heap} {locs : List Loc} {ls : Array Slot} {cells slots : Nat} {Q : State → Prop} (hce : cells + 6 ≤ 612593) (hsl : slots + 36 ≤ 7258324) (hw : Wd D (fun q : Nat => s.heap.size ≤ q) s.heap (GM cy am M ++ GH cy ad oa (C, o)) H locs) (hl : lv_has ls 7 [(0, .ref b), (1, .ref (ad 0 0)), (2, .ref (am 0 0)), (3, .ref (oa 0)), (4, .int (nI i))]) (kk : ∀ (C2 : CSt) (M2 : MSt) (o2 : Nat → Int64) (H2 : Heap) (locs2 : List Loc) (ls2 : Array Slot), R C2 M2 → Wd D (fun q : Nat => s.heap.size ≤ q) s.heap (GM cy am M2 ++ GH cy ad oa (C2, o2)) H2 locs2 → lv_has ls2 7 [(0, .ref b), (1, .ref (ad 0 0)), (2, .ref (am 0 0)), (3, .ref (oa 0)), (4, .int (nI i))] → W p l e room_1 s m #[Value.ref b] below meth c H2 locs2 (cells + 6) (slots + 36) Q (F0 m 1224 ls2 [])) : W p l e room_1 s m #[Value.ref b] below meth c H locs cells slots Q (F0 m 535 ls []) := by
  obtain ⟨hx, hb, hml, hown, hts, hr, hlo, hK, hA, hXX⟩ := id K
  obtain ⟨out, w, hmc, hmm, h1, h2⟩ := hst
  refine lv_aload_n hx hb dL_law_535 rfl (lv_at hl 1 rfl) ?_
  refine lv_aload_n hx hb dL_law_536 rfl (lv_at hl 0 rfl) ?_
  refine lv_iload hx hb dL_law_537 (lv_at hl 4 rfl) ?_
  refine lv_iconst (v := nI 1) hx hb dL_law_539 (by decide) ?_
  refine lv_iadd hx hb dL_law_540 ?_
  refine va_sld hx hb hX hbl (Nat.not_le.mpr hbl) hw.2.2 (sc_in (i := i) (d := 1) (by omega) hL) dL_law_541 ?_
  rw [sc_at (i := i) (d := 1) (by omega) hL xs]
  refine lv_aload_n hx hb dL_law_542 rfl (lv_at hl 0 rfl) ?_
  refine lv_iload hx hb dL_law_543 (lv_at hl 4 rfl) ?_
  refine lv_iconst (v := nI 2) hx hb dL_law_545 (by decide) ?_
  refine lv_iadd hx hb dL_law_546 ?_
  refine va_sld hx hb hX hbl (Nat.not_le.mpr hbl) hw.2.2 (sc_in (i := i) (d := 2) (by omega) hL) dL_law_547 ?_
  rw [sc_at (i := i) (d := 2) (by omega) hL xs]
  refine lv_aload_n hx hb dL_law_548 rfl (lv_at hl 3 rfl) ?_
  have hw := Wd_nil hw
  refine f_calli (G1 := GM cy am M) (G := GH cy ad oa (C, o)) (G2 := []) (GG := GH cy ad oa) K hw (vx_runSW (As := [.ref (ad 0 0), .int (xs (i + 1)), .int (xs (i + 2)), .ref (oa 0)]) (rest := []) (g_fix K) (h_same l hl9 D cy ad oa H.size n C o (xs (i + 1)) (xs (i + 2)) hmc (fun k C2 ho => by have hk := (h2 k C2 ho).1; simpa using hk)) (vx_cwSW 4 (g_hts K) gL_law_L_same rfl rfl rfl (by decide +kernel) ⟨Nat.le_of_ble_eq_true rfl, Nat.le_of_ble_eq_true rfl⟩) ⟨g_blind rides_EL, g_pre K (Wd_mid hw) (g_ride rides_EL K (Wd_mid hw))⟩ rfl rfl hl.1 rfl (lv_room (Nat.le_of_ble_eq_true rfl)) dL_law_549 ⟨by show cells + 2 ≤ 612593; omega, by show slots + 12 ≤ 7258324; omega⟩) (fun r u H locs hp hw => ?_)
  replace hw := Wd_lin hw
  obtain ⟨C2, o2⟩ := u
  have key : R C2 w.2 ∧ w.2.1 0 0 = r ∧ (r = 0 → o2 0 = (if w.1 = 0 then 0 else 1 : Int64)) := by
    rcases hp with ⟨v, ho, hr0, hu⟩ | ⟨k, C3, ho, hr0, hu⟩
    · obtain ⟨a1, a2, a3⟩ := h1 v ho
      cases hu
      exact ⟨a3, a1.trans hr0.symm, fun _ => by rw [upL_0, a2]⟩
    · obtain ⟨a1, a2, a3⟩ := h2 k C3 ho
      cases hu
      refine ⟨a3, a2.trans hr0.symm, fun hz => absurd (hr0.symm.trans hz) ?_⟩
      have a1 : k = 1 := by simpa using a1
      rcases a1 with rfl <;> decide
  obtain ⟨kR, kt, ko⟩ := key
  refine lv_istore (lv' := [(5, .int r), (0, .ref b), (1, .ref (ad 0 0)), (2, .ref (am 0 0)), (3, .ref (oa 0)), (4, .int (nI i))]) hx hb dL_law_552 hl (by decide) rfl (fun ls hl => ?_)
  refine lv_aload_n hx hb dL_law_554 rfl (lv_at hl 3 rfl) ?_
  refine lv_aload_n hx hb dL_law_555 rfl (lv_at hl 1 rfl) ?_
  refine lv_iload hx hb dL_law_556 (lv_at hl 5 rfl) ?_
  refine lv_iconst (v := nI 1) hx hb dL_law_558 (by decide) ?_
  refine lv_iadd hx hb dL_law_559 ?_
  refine va_sld hx hb hX hbl (Nat.not_le.mpr hbl) hw.2.2 (sc_in (i := i) (d := 1) (by omega) hL) dL_law_560 ?_
  rw [sc_at (i := i) (d := 1) (by omega) hL xs]
  refine lv_aload_n hx hb dL_law_561 rfl (lv_at hl 1 rfl) ?_
  refine lv_iload hx hb dL_law_562 (lv_at hl 5 rfl) ?_
  refine lv_iconst (v := nI 2) hx hb dL_law_564 (by decide) ?_
  refine lv_iadd hx hb dL_law_565 ?_
  refine va_sld hx hb hX hbl (Nat.not_le.mpr hbl) hw.2.2 (sc_in (i := i) (d := 2) (by omega) hL) dL_law_566 ?_
  rw [sc_at (i := i) (d := 2) (by omega) hL xs]
  refine f_calli (G1 := []) (G := GM cy am M) (G2 := GH cy ad oa (C2, o2)) (GG := GM cy am) K hw (va_runV (As := [.int (xs (i + 1)), .int (xs (i + 2))]) (rest := []) (g_fix K) (c_X8_same l D cy am H.size n M (xs (i + 1)) (xs (i + 2)) hmm) (cwV 2 (g_hts K) gL_law_X8_same rfl rfl rfl (by decide +kernel) ⟨Nat.le_of_ble_eq_true rfl, Nat.le_of_ble_eq_true rfl⟩) ⟨g_blind rides_none, g_recv K (Wd_mid (G1 := []) (G := GM cy am M) (G2 := GH cy ad oa (C2, o2)) hw) 0 rfl (by decide : 0 < 1) rfl rfl, g_pre (X2 := fun _ _ => True) K (Wd_mid (G1 := []) (G := GM cy am M) (G2 := GH cy ad oa (C2, o2)) hw) (fun _ _ _ => trivial)⟩ rfl rfl hl.1 rfl (lv_room (Nat.le_of_ble_eq_true rfl)) dL_law_567 ⟨by show cells + 2 + 0 ≤ 612593; omega, by show slots + 12 + 0 ≤ 7258324; omega⟩) (fun r2 u H locs hp hw => ?_)
  replace hw : Wd D (fun q : Nat => s.heap.size ≤ q) s.heap (GM cy am u ++ GH cy ad oa (C2, o2)) H locs := hw
  subst hp
  replace kR : R C2 u := kR
  replace kt : u.1 0 0 = r := kt
  replace ko : r = 0 → o2 0 = (if r2 = 0 then 0 else 1 : Int64) := ko
  refine lv_istore (lv' := [(6, .int r2), (5, .int r), (0, .ref b), (1, .ref (ad 0 0)), (2, .ref (am 0 0)), (3, .ref (oa 0)), (4, .int (nI i))]) hx hb dL_law_570 hl (by decide) rfl (fun ls hl => ?_)
  refine lv_aload_n hx hb dL_law_572 rfl (lv_at hl 4 rfl) ?_
  refine f_calli (G1 := []) (G := GM cy am u) (G2 := GH cy ad oa (C2, o2)) (GG := GM cy am) K hw (va_runV (As := []) (rest := []) (g_fix K) (c_X8_thrown l D cy am H.size n u  (out := u.1 0 0) rfl) (cwV 0 (g_hts K) gL_law_X8_thrown rfl rfl rfl (by decide +kernel) ⟨Nat.le_of_ble_eq_true rfl, Nat.le_of_ble_eq_true rfl⟩) ⟨g_blind rides_none, g_recv K (Wd_mid (G1 := []) (G := GM cy am u) (G2 := GH cy ad oa (C2, o2)) hw) 0 rfl (by decide : 0 < 1) rfl rfl, g_pre (X2 := fun _ _ => True) K (Wd_mid (G1 := []) (G := GM cy am u) (G2 := GH cy ad oa (C2, o2)) hw) (fun _ _ _ => trivial)⟩ rfl rfl hl.1 rfl (lv_room (Nat.le_of_ble_eq_true rfl)) dL_law_573 ⟨by show cells + 2 + 0 + 0 ≤ 612593; omega, by show slots + 12 + 0 + 0 ≤ 7258324; omega⟩) (fun r3 u3 H locs hp hw => ?_)
  obtain ⟨hp1, hp2⟩ := hp
  rw [hp2] at hw
  replace hw : Wd D (fun q : Nat => s.heap.size ≤ q) s.heap (GM cy am u ++ GH cy ad oa (C2, o2)) H locs := hw
  refine lv_iload hx hb dL_law_576 (lv_at hl 1 rfl) ?_
  refine lv_icmp_eq (tgt := 583) hx hb dL_law_578 (by decide) (fun c1 => ?_) (fun c1 => absurd (hp1.symm.trans kt) c1)
  refine lv_iload hx hb dL_law_583 (lv_at hl 1 rfl) ?_
  refine lv_if_ne (tgt := 607) hx hb dL_law_585 (by decide) (fun c2 => ?_) (fun c2 => ?_)
  · refine lv_goto (tgt := 1224) hx hb dL_law_607 (by decide) ?_
    refine W.widen (k := cells + 6) (n := slots + 36) (by omega) (by omega) ?_
    exact kk C2 u o2 H locs ls kR hw (lv_sub hl [2, 3, 4, 5, 6] rfl)
  · have c3 : r = 0 := c2
    replace ko := ko c3
    refine lv_aload_n hx hb dL_law_588 rfl (lv_at hl 5 rfl) ?_
    refine lv_iconst (v := 0) hx hb dL_law_589 (by decide) ?_
    refine g_lald K hw 58 1 rfl (by decide) rfl rfl (by decide) dL_law_590 ?_
    have e0 : (C2, o2).snd (Int32.toNatClampNeg 0) = (if r2 = 0 then 0 else 1 : Int64) := ko
    rw [e0]
    refine lv_iload hx hb dL_law_591 (lv_at hl 0 rfl) ?_
    refine lv_if_eq (tgt := 600) hx hb dL_law_593 (by decide) (fun c5 => ?_) (fun c5 => ?_)
    · rw [if_pos c5]
      refine lv_lconst (v := 0) hx hb dL_law_600 (by decide) ?_
      refine W.lcmp hx hb dL_law_601 ?_
      refine lv_if_eq (tgt := 607) hx hb dL_law_602 (by decide) (fun c4 => ?_) (fun c4 => absurd (lgc_self _) c4)
      refine lv_goto (tgt := 1224) hx hb dL_law_607 (by decide) ?_
      refine W.widen (k := cells + 6) (n := slots + 36) (by omega) (by omega) ?_
      exact kk C2 u o2 H locs ls kR hw (lv_sub hl [2, 3, 4, 5, 6] rfl)
    · rw [if_neg c5]
      refine lv_lconst (v := 1) hx hb dL_law_596 (by decide) ?_
      refine lv_goto (tgt := 601) hx hb dL_law_597 (by decide) ?_
      refine W.lcmp hx hb dL_law_601 ?_
      refine lv_if_eq (tgt := 607) hx hb dL_law_602 (by decide) (fun c4 => ?_) (fun c4 => absurd (lgc_self _) c4)
      refine lv_goto (tgt := 1224) hx hb dL_law_607 (by decide) ?_
      refine W.widen (k := cells + 6) (n := slots + 36) (by omega) (by omega) ?_
      exact kk C2 u o2 H locs ls kR hw (lv_sub hl [2, 3, 4, 5, 6] rfl)
set_option maxRecDepth 100000 in
set_option maxHeartbeats 4000000 in
theorem lc_word {p : Program} {l : Launch} {e : Env} {s : State} {m : MethodId} {below : List Frame} {meth : Method} {c : Code} (hl9 : l.stackTraces = false) {b L : Nat} {xs : Nat → Int32} (hL : L ≤ 3072) (hX : va_X b L xs s s.heap) (hbl : b < s.heap.size) {D : va_G} {cy : Nat → ClassId} {ad am : Nat → Nat → Nat} {oa : Nat → Nat} (K : Cx p s m #[Value.ref b] meth c D (fun q : Nat => s.heap.size ≤ q) (tysC cy) RL cL_law 7 ret wsL_law EL) {R : CSt → MSt → Prop} {n i : Nat} {C : CSt} {M : MSt} {o : Nat → Int64} (hi : i + 6 ≤ L) (hst : StI [1, 3] cm_word R (m_X7_word n C (xs (i + 1))) (m_X8_word n M (xs (i + 1)))) {H : Heap} {locs : List Loc} {ls : Array Slot} {cells slots : Nat} {Q : State → Prop} (hce : cells + 6 ≤ 612593) (hsl : slots + 36 ≤ 7258324) (hw : Wd D (fun q : Nat => s.heap.size ≤ q) s.heap (GM cy am M ++ GH cy ad oa (C, o)) H locs) (hl : lv_has ls 7 [(0, .ref b), (1, .ref (ad 0 0)), (2, .ref (am 0 0)), (3, .ref (oa 0)), (4, .int (nI i))]) (kk : ∀ (C2 : CSt) (M2 : MSt) (o2 : Nat → Int64) (H2 : Heap) (locs2 : List Loc) (ls2 : Array Slot), R C2 M2 → Wd D (fun q : Nat => s.heap.size ≤ q) s.heap (GM cy am M2 ++ GH cy ad oa (C2, o2)) H2 locs2 → lv_has ls2 7 [(0, .ref b), (1, .ref (ad 0 0)), (2, .ref (am 0 0)), (3, .ref (oa 0)), (4, .int (nI i))] → W p l e room_1 s m #[Value.ref b] below meth c H2 locs2 (cells + 6) (slots + 36) Q (F0 m 1224 ls2 [])) : W p l e room_1 s m #[Value.ref b] below meth c H locs cells slots Q (F0 m 610 ls []) := by
  obtain ⟨hx, hb, hml, hown, hts, hr, hlo, hK, hA, hXX⟩ := id K
  obtain ⟨out, w, hmc, hmm, h1, h2⟩ := hst
  refine lv_aload_n hx hb dL_law_610 rfl (lv_at hl 1 rfl) ?_
  refine lv_aload_n hx hb dL_law_611 rfl (lv_at hl 0 rfl) ?_
  refine lv_iload hx hb dL_law_612 (lv_at hl 4 rfl) ?_
  refine lv_iconst (v := nI 1) hx hb dL_law_614 (by decide) ?_
  refine lv_iadd hx hb dL_law_615 ?_
  refine va_sld hx hb hX hbl (Nat.not_le.mpr hbl) hw.2.2 (sc_in (i := i) (d := 1) (by omega) hL) dL_law_616 ?_
  rw [sc_at (i := i) (d := 1) (by omega) hL xs]
  refine lv_aload_n hx hb dL_law_617 rfl (lv_at hl 3 rfl) ?_
  have hw := Wd_nil hw
  refine f_calli (G1 := GM cy am M) (G := GH cy ad oa (C, o)) (G2 := []) (GG := GH cy ad oa) K hw (vx_runSW (As := [.ref (ad 0 0), .int (xs (i + 1)), .ref (oa 0)]) (rest := []) (g_fix K) (h_word l hl9 D cy ad oa H.size n C o (xs (i + 1)) hmc (fun k C2 ho => by have hk := (h2 k C2 ho).1; simpa using hk)) (vx_cwSW 3 (g_hts K) gL_law_L_word rfl rfl rfl (by decide +kernel) ⟨Nat.le_of_ble_eq_true rfl, Nat.le_of_ble_eq_true rfl⟩) ⟨g_blind rides_EL, g_pre K (Wd_mid hw) (g_ride rides_EL K (Wd_mid hw))⟩ rfl rfl hl.1 rfl (lv_room (Nat.le_of_ble_eq_true rfl)) dL_law_618 ⟨by show cells + 1 ≤ 612593; omega, by show slots + 6 ≤ 7258324; omega⟩) (fun r u H locs hp hw => ?_)
  replace hw := Wd_lin hw
  obtain ⟨C2, o2⟩ := u
  have key : R C2 w.2 ∧ w.2.1 0 0 = r ∧ (r = 0 → o2 0 = w.1.toInt64) := by
    rcases hp with ⟨v, C3, ho, hr0, hu⟩ | ⟨k, C3, ho, hr0, hu⟩
    · obtain ⟨a1, a2, a3⟩ := h1 v C3 ho
      cases hu
      exact ⟨a3, a1.trans hr0.symm, fun _ => by rw [upL_0, a2]⟩
    · obtain ⟨a1, a2, a3⟩ := h2 k C3 ho
      cases hu
      refine ⟨a3, a2.trans hr0.symm, fun hz => absurd (hr0.symm.trans hz) ?_⟩
      have a1 : k = 1 ∨ k = 3 := by simpa using a1
      rcases a1 with rfl | rfl <;> decide
  obtain ⟨kR, kt, ko⟩ := key
  refine lv_istore (lv' := [(5, .int r), (0, .ref b), (1, .ref (ad 0 0)), (2, .ref (am 0 0)), (3, .ref (oa 0)), (4, .int (nI i))]) hx hb dL_law_621 hl (by decide) rfl (fun ls hl => ?_)
  refine lv_aload_n hx hb dL_law_623 rfl (lv_at hl 3 rfl) ?_
  refine lv_aload_n hx hb dL_law_624 rfl (lv_at hl 1 rfl) ?_
  refine lv_iload hx hb dL_law_625 (lv_at hl 5 rfl) ?_
  refine lv_iconst (v := nI 1) hx hb dL_law_627 (by decide) ?_
  refine lv_iadd hx hb dL_law_628 ?_
  refine va_sld hx hb hX hbl (Nat.not_le.mpr hbl) hw.2.2 (sc_in (i := i) (d := 1) (by omega) hL) dL_law_629 ?_
  rw [sc_at (i := i) (d := 1) (by omega) hL xs]
  refine f_calli (G1 := []) (G := GM cy am M) (G2 := GH cy ad oa (C2, o2)) (GG := GM cy am) K hw (va_runV (As := [.int (xs (i + 1))]) (rest := []) (g_fix K) (c_X8_word l D cy am H.size n M (xs (i + 1)) hmm) (cwV 1 (g_hts K) gL_law_X8_word rfl rfl rfl (by decide +kernel) ⟨Nat.le_of_ble_eq_true rfl, Nat.le_of_ble_eq_true rfl⟩) ⟨g_blind rides_none, g_recv K (Wd_mid (G1 := []) (G := GM cy am M) (G2 := GH cy ad oa (C2, o2)) hw) 0 rfl (by decide : 0 < 1) rfl rfl, g_pre (X2 := fun _ _ => True) K (Wd_mid (G1 := []) (G := GM cy am M) (G2 := GH cy ad oa (C2, o2)) hw) (fun _ _ _ => trivial)⟩ rfl rfl hl.1 rfl (lv_room (Nat.le_of_ble_eq_true rfl)) dL_law_630 ⟨by show cells + 1 + 0 ≤ 612593; omega, by show slots + 6 + 0 ≤ 7258324; omega⟩) (fun r2 u H locs hp hw => ?_)
  replace hw : Wd D (fun q : Nat => s.heap.size ≤ q) s.heap (GM cy am u ++ GH cy ad oa (C2, o2)) H locs := hw
  subst hp
  replace kR : R C2 u := kR
  replace kt : u.1 0 0 = r := kt
  replace ko : r = 0 → o2 0 = r2.toInt64 := ko
  refine lv_istore (lv' := [(6, .int r2), (5, .int r), (0, .ref b), (1, .ref (ad 0 0)), (2, .ref (am 0 0)), (3, .ref (oa 0)), (4, .int (nI i))]) hx hb dL_law_633 hl (by decide) rfl (fun ls hl => ?_)
  refine lv_aload_n hx hb dL_law_635 rfl (lv_at hl 4 rfl) ?_
  refine f_calli (G1 := []) (G := GM cy am u) (G2 := GH cy ad oa (C2, o2)) (GG := GM cy am) K hw (va_runV (As := []) (rest := []) (g_fix K) (c_X8_thrown l D cy am H.size n u  (out := u.1 0 0) rfl) (cwV 0 (g_hts K) gL_law_X8_thrown rfl rfl rfl (by decide +kernel) ⟨Nat.le_of_ble_eq_true rfl, Nat.le_of_ble_eq_true rfl⟩) ⟨g_blind rides_none, g_recv K (Wd_mid (G1 := []) (G := GM cy am u) (G2 := GH cy ad oa (C2, o2)) hw) 0 rfl (by decide : 0 < 1) rfl rfl, g_pre (X2 := fun _ _ => True) K (Wd_mid (G1 := []) (G := GM cy am u) (G2 := GH cy ad oa (C2, o2)) hw) (fun _ _ _ => trivial)⟩ rfl rfl hl.1 rfl (lv_room (Nat.le_of_ble_eq_true rfl)) dL_law_636 ⟨by show cells + 1 + 0 + 0 ≤ 612593; omega, by show slots + 6 + 0 + 0 ≤ 7258324; omega⟩) (fun r3 u3 H locs hp hw => ?_)
  obtain ⟨hp1, hp2⟩ := hp
  rw [hp2] at hw
  replace hw : Wd D (fun q : Nat => s.heap.size ≤ q) s.heap (GM cy am u ++ GH cy ad oa (C2, o2)) H locs := hw
  refine lv_iload hx hb dL_law_639 (lv_at hl 1 rfl) ?_
  refine lv_icmp_eq (tgt := 646) hx hb dL_law_641 (by decide) (fun c1 => ?_) (fun c1 => absurd (hp1.symm.trans kt) c1)
  refine lv_iload hx hb dL_law_646 (lv_at hl 1 rfl) ?_
  refine lv_if_ne (tgt := 663) hx hb dL_law_648 (by decide) (fun c2 => ?_) (fun c2 => ?_)
  · refine lv_goto (tgt := 1224) hx hb dL_law_663 (by decide) ?_
    refine W.widen (k := cells + 6) (n := slots + 36) (by omega) (by omega) ?_
    exact kk C2 u o2 H locs ls kR hw (lv_sub hl [2, 3, 4, 5, 6] rfl)
  · have c3 : r = 0 := c2
    replace ko := ko c3
    refine lv_aload_n hx hb dL_law_651 rfl (lv_at hl 5 rfl) ?_
    refine lv_iconst (v := 0) hx hb dL_law_652 (by decide) ?_
    refine g_lald K hw 58 1 rfl (by decide) rfl rfl (by decide) dL_law_653 ?_
    have e0 : (C2, o2).snd (Int32.toNatClampNeg 0) = r2.toInt64 := ko
    rw [e0]
    refine lv_iload hx hb dL_law_654 (lv_at hl 0 rfl) ?_
    refine lv_i2l hx hb dL_law_656 rfl ?_
    refine W.lcmp hx hb dL_law_657 ?_
    refine lv_if_eq (tgt := 663) hx hb dL_law_658 (by decide) (fun c4 => ?_) (fun c4 => absurd (lgc_self _) c4)
    refine lv_goto (tgt := 1224) hx hb dL_law_663 (by decide) ?_
    refine W.widen (k := cells + 6) (n := slots + 36) (by omega) (by omega) ?_
    exact kk C2 u o2 H locs ls kR hw (lv_sub hl [2, 3, 4, 5, 6] rfl)
set_option maxRecDepth 100000 in
set_option maxHeartbeats 4000000 in
theorem lc_step {p : Program} {l : Launch} {e : Env} {s : State} {m : MethodId} {below : List Frame} {meth : Method} {c : Code} (hl9 : l.stackTraces = false) {b L : Nat} {xs : Nat → Int32} (hL : L ≤ 3072) (hX : va_X b L xs s s.heap) (hbl : b < s.heap.size) {D : va_G} {cy : Nat → ClassId} {ad am : Nat → Nat → Nat} {oa : Nat → Nat} (K : Cx p s m #[Value.ref b] meth c D (fun q : Nat => s.heap.size ≤ q) (tysC cy) RL cL_law 7 ret wsL_law EL) {R : CSt → MSt → Prop} {n i : Nat} {C : CSt} {M : MSt} {o : Nat → Int64} (hi : i + 6 ≤ L) (hst : StI [1, 3] cm_step R (m_X7_step n C (xs (i + 1)) (xs (i + 2)) (xs (i + 3)) (xs (i + 4)) (xs (i + 5))) (m_X8_step n M (xs (i + 1)) (xs (i + 2)) (xs (i + 3)) (xs (i + 4)) (xs (i + 5)))) {H : Heap} {locs : List Loc} {ls : Array Slot} {cells slots : Nat} {Q : State → Prop} (hce : cells + 6 ≤ 612593) (hsl : slots + 36 ≤ 7258324) (hw : Wd D (fun q : Nat => s.heap.size ≤ q) s.heap (GM cy am M ++ GH cy ad oa (C, o)) H locs) (hl : lv_has ls 7 [(0, .ref b), (1, .ref (ad 0 0)), (2, .ref (am 0 0)), (3, .ref (oa 0)), (4, .int (nI i))]) (kk : ∀ (C2 : CSt) (M2 : MSt) (o2 : Nat → Int64) (H2 : Heap) (locs2 : List Loc) (ls2 : Array Slot), R C2 M2 → Wd D (fun q : Nat => s.heap.size ≤ q) s.heap (GM cy am M2 ++ GH cy ad oa (C2, o2)) H2 locs2 → lv_has ls2 7 [(0, .ref b), (1, .ref (ad 0 0)), (2, .ref (am 0 0)), (3, .ref (oa 0)), (4, .int (nI i))] → W p l e room_1 s m #[Value.ref b] below meth c H2 locs2 (cells + 6) (slots + 36) Q (F0 m 1224 ls2 [])) : W p l e room_1 s m #[Value.ref b] below meth c H locs cells slots Q (F0 m 666 ls []) := by
  obtain ⟨hx, hb, hml, hown, hts, hr, hlo, hK, hA, hXX⟩ := id K
  obtain ⟨out, w, hmc, hmm, h1, h2⟩ := hst
  refine lv_aload_n hx hb dL_law_666 rfl (lv_at hl 1 rfl) ?_
  refine lv_aload_n hx hb dL_law_667 rfl (lv_at hl 0 rfl) ?_
  refine lv_iload hx hb dL_law_668 (lv_at hl 4 rfl) ?_
  refine lv_iconst (v := nI 1) hx hb dL_law_670 (by decide) ?_
  refine lv_iadd hx hb dL_law_671 ?_
  refine va_sld hx hb hX hbl (Nat.not_le.mpr hbl) hw.2.2 (sc_in (i := i) (d := 1) (by omega) hL) dL_law_672 ?_
  rw [sc_at (i := i) (d := 1) (by omega) hL xs]
  refine lv_aload_n hx hb dL_law_673 rfl (lv_at hl 0 rfl) ?_
  refine lv_iload hx hb dL_law_674 (lv_at hl 4 rfl) ?_
  refine lv_iconst (v := nI 2) hx hb dL_law_676 (by decide) ?_
  refine lv_iadd hx hb dL_law_677 ?_
  refine va_sld hx hb hX hbl (Nat.not_le.mpr hbl) hw.2.2 (sc_in (i := i) (d := 2) (by omega) hL) dL_law_678 ?_
  rw [sc_at (i := i) (d := 2) (by omega) hL xs]
  refine lv_aload_n hx hb dL_law_679 rfl (lv_at hl 0 rfl) ?_
  refine lv_iload hx hb dL_law_680 (lv_at hl 4 rfl) ?_
  refine lv_iconst (v := nI 3) hx hb dL_law_682 (by decide) ?_
  refine lv_iadd hx hb dL_law_683 ?_
  refine va_sld hx hb hX hbl (Nat.not_le.mpr hbl) hw.2.2 (sc_in (i := i) (d := 3) (by omega) hL) dL_law_684 ?_
  rw [sc_at (i := i) (d := 3) (by omega) hL xs]
  refine lv_aload_n hx hb dL_law_685 rfl (lv_at hl 0 rfl) ?_
  refine lv_iload hx hb dL_law_686 (lv_at hl 4 rfl) ?_
  refine lv_iconst (v := nI 4) hx hb dL_law_688 (by decide) ?_
  refine lv_iadd hx hb dL_law_689 ?_
  refine va_sld hx hb hX hbl (Nat.not_le.mpr hbl) hw.2.2 (sc_in (i := i) (d := 4) (by omega) hL) dL_law_690 ?_
  rw [sc_at (i := i) (d := 4) (by omega) hL xs]
  refine lv_aload_n hx hb dL_law_691 rfl (lv_at hl 0 rfl) ?_
  refine lv_iload hx hb dL_law_692 (lv_at hl 4 rfl) ?_
  refine lv_iconst (v := nI 5) hx hb dL_law_694 (by decide) ?_
  refine lv_iadd hx hb dL_law_695 ?_
  refine va_sld hx hb hX hbl (Nat.not_le.mpr hbl) hw.2.2 (sc_in (i := i) (d := 5) (by omega) hL) dL_law_696 ?_
  rw [sc_at (i := i) (d := 5) (by omega) hL xs]
  refine lv_aload_n hx hb dL_law_697 rfl (lv_at hl 3 rfl) ?_
  have hw := Wd_nil hw
  refine f_calli (G1 := GM cy am M) (G := GH cy ad oa (C, o)) (G2 := []) (GG := GH cy ad oa) K hw (vx_runSW (As := [.ref (ad 0 0), .int (xs (i + 1)), .int (xs (i + 2)), .int (xs (i + 3)), .int (xs (i + 4)), .int (xs (i + 5)), .ref (oa 0)]) (rest := []) (g_fix K) (h_step l hl9 D cy ad oa H.size n C o (xs (i + 1)) (xs (i + 2)) (xs (i + 3)) (xs (i + 4)) (xs (i + 5)) hmc (fun k C2 ho => by have hk := (h2 k C2 ho).1; simpa using hk)) (vx_cwSW 7 (g_hts K) gL_law_L_step rfl rfl rfl (by decide +kernel) ⟨Nat.le_of_ble_eq_true rfl, Nat.le_of_ble_eq_true rfl⟩) ⟨g_blind rides_EL, g_pre K (Wd_mid hw) (g_ride rides_EL K (Wd_mid hw))⟩ rfl rfl hl.1 rfl (lv_room (Nat.le_of_ble_eq_true rfl)) dL_law_698 ⟨by show cells + 1 ≤ 612593; omega, by show slots + 6 ≤ 7258324; omega⟩) (fun r u H locs hp hw => ?_)
  replace hw := Wd_lin hw
  obtain ⟨C2, o2⟩ := u
  have key : R C2 w.2 ∧ w.2.1 0 0 = r ∧ (r = 0 → o2 0 = w.1.toInt64) := by
    rcases hp with ⟨v, C3, ho, hr0, hu⟩ | ⟨k, C3, ho, hr0, hu⟩
    · obtain ⟨a1, a2, a3⟩ := h1 v C3 ho
      cases hu
      exact ⟨a3, a1.trans hr0.symm, fun _ => by rw [upL_0, a2]⟩
    · obtain ⟨a1, a2, a3⟩ := h2 k C3 ho
      cases hu
      refine ⟨a3, a2.trans hr0.symm, fun hz => absurd (hr0.symm.trans hz) ?_⟩
      have a1 : k = 1 ∨ k = 3 := by simpa using a1
      rcases a1 with rfl | rfl <;> decide
  obtain ⟨kR, kt, ko⟩ := key
  refine lv_istore (lv' := [(5, .int r), (0, .ref b), (1, .ref (ad 0 0)), (2, .ref (am 0 0)), (3, .ref (oa 0)), (4, .int (nI i))]) hx hb dL_law_701 hl (by decide) rfl (fun ls hl => ?_)
  refine lv_aload_n hx hb dL_law_703 rfl (lv_at hl 3 rfl) ?_
  refine lv_aload_n hx hb dL_law_704 rfl (lv_at hl 1 rfl) ?_
  refine lv_iload hx hb dL_law_705 (lv_at hl 5 rfl) ?_
  refine lv_iconst (v := nI 1) hx hb dL_law_707 (by decide) ?_
  refine lv_iadd hx hb dL_law_708 ?_
  refine va_sld hx hb hX hbl (Nat.not_le.mpr hbl) hw.2.2 (sc_in (i := i) (d := 1) (by omega) hL) dL_law_709 ?_
  rw [sc_at (i := i) (d := 1) (by omega) hL xs]
  refine lv_aload_n hx hb dL_law_710 rfl (lv_at hl 1 rfl) ?_
  refine lv_iload hx hb dL_law_711 (lv_at hl 5 rfl) ?_
  refine lv_iconst (v := nI 2) hx hb dL_law_713 (by decide) ?_
  refine lv_iadd hx hb dL_law_714 ?_
  refine va_sld hx hb hX hbl (Nat.not_le.mpr hbl) hw.2.2 (sc_in (i := i) (d := 2) (by omega) hL) dL_law_715 ?_
  rw [sc_at (i := i) (d := 2) (by omega) hL xs]
  refine lv_aload_n hx hb dL_law_716 rfl (lv_at hl 1 rfl) ?_
  refine lv_iload hx hb dL_law_717 (lv_at hl 5 rfl) ?_
  refine lv_iconst (v := nI 3) hx hb dL_law_719 (by decide) ?_
  refine lv_iadd hx hb dL_law_720 ?_
  refine va_sld hx hb hX hbl (Nat.not_le.mpr hbl) hw.2.2 (sc_in (i := i) (d := 3) (by omega) hL) dL_law_721 ?_
  rw [sc_at (i := i) (d := 3) (by omega) hL xs]
  refine lv_aload_n hx hb dL_law_722 rfl (lv_at hl 1 rfl) ?_
  refine lv_iload hx hb dL_law_723 (lv_at hl 5 rfl) ?_
  refine lv_iconst (v := nI 4) hx hb dL_law_725 (by decide) ?_
  refine lv_iadd hx hb dL_law_726 ?_
  refine va_sld hx hb hX hbl (Nat.not_le.mpr hbl) hw.2.2 (sc_in (i := i) (d := 4) (by omega) hL) dL_law_727 ?_
  rw [sc_at (i := i) (d := 4) (by omega) hL xs]
  refine lv_aload_n hx hb dL_law_728 rfl (lv_at hl 1 rfl) ?_
  refine lv_iload hx hb dL_law_729 (lv_at hl 5 rfl) ?_
  refine lv_iconst (v := nI 5) hx hb dL_law_731 (by decide) ?_
  refine lv_iadd hx hb dL_law_732 ?_
  refine va_sld hx hb hX hbl (Nat.not_le.mpr hbl) hw.2.2 (sc_in (i := i) (d := 5) (by omega) hL) dL_law_733 ?_
  rw [sc_at (i := i) (d := 5) (by omega) hL xs]
  refine f_calli (G1 := []) (G := GM cy am M) (G2 := GH cy ad oa (C2, o2)) (GG := GM cy am) K hw (va_runV (As := [.int (xs (i + 1)), .int (xs (i + 2)), .int (xs (i + 3)), .int (xs (i + 4)), .int (xs (i + 5))]) (rest := []) (g_fix K) (c_X8_step l D cy am H.size n M (xs (i + 1)) (xs (i + 2)) (xs (i + 3)) (xs (i + 4)) (xs (i + 5)) hmm) (cwV 5 (g_hts K) gL_law_X8_step rfl rfl rfl (by decide +kernel) ⟨Nat.le_of_ble_eq_true rfl, Nat.le_of_ble_eq_true rfl⟩) ⟨g_blind rides_none, g_recv K (Wd_mid (G1 := []) (G := GM cy am M) (G2 := GH cy ad oa (C2, o2)) hw) 0 rfl (by decide : 0 < 1) rfl rfl, g_pre (X2 := fun _ _ => True) K (Wd_mid (G1 := []) (G := GM cy am M) (G2 := GH cy ad oa (C2, o2)) hw) (fun _ _ _ => trivial)⟩ rfl rfl hl.1 rfl (lv_room (Nat.le_of_ble_eq_true rfl)) dL_law_734 ⟨by show cells + 1 + 0 ≤ 612593; omega, by show slots + 6 + 0 ≤ 7258324; omega⟩) (fun r2 u H locs hp hw => ?_)
  replace hw : Wd D (fun q : Nat => s.heap.size ≤ q) s.heap (GM cy am u ++ GH cy ad oa (C2, o2)) H locs := hw
  subst hp
  replace kR : R C2 u := kR
  replace kt : u.1 0 0 = r := kt
  replace ko : r = 0 → o2 0 = r2.toInt64 := ko
  refine lv_istore (lv' := [(6, .int r2), (5, .int r), (0, .ref b), (1, .ref (ad 0 0)), (2, .ref (am 0 0)), (3, .ref (oa 0)), (4, .int (nI i))]) hx hb dL_law_737 hl (by decide) rfl (fun ls hl => ?_)
  refine lv_aload_n hx hb dL_law_739 rfl (lv_at hl 4 rfl) ?_
  refine f_calli (G1 := []) (G := GM cy am u) (G2 := GH cy ad oa (C2, o2)) (GG := GM cy am) K hw (va_runV (As := []) (rest := []) (g_fix K) (c_X8_thrown l D cy am H.size n u  (out := u.1 0 0) rfl) (cwV 0 (g_hts K) gL_law_X8_thrown rfl rfl rfl (by decide +kernel) ⟨Nat.le_of_ble_eq_true rfl, Nat.le_of_ble_eq_true rfl⟩) ⟨g_blind rides_none, g_recv K (Wd_mid (G1 := []) (G := GM cy am u) (G2 := GH cy ad oa (C2, o2)) hw) 0 rfl (by decide : 0 < 1) rfl rfl, g_pre (X2 := fun _ _ => True) K (Wd_mid (G1 := []) (G := GM cy am u) (G2 := GH cy ad oa (C2, o2)) hw) (fun _ _ _ => trivial)⟩ rfl rfl hl.1 rfl (lv_room (Nat.le_of_ble_eq_true rfl)) dL_law_740 ⟨by show cells + 1 + 0 + 0 ≤ 612593; omega, by show slots + 6 + 0 + 0 ≤ 7258324; omega⟩) (fun r3 u3 H locs hp hw => ?_)
  obtain ⟨hp1, hp2⟩ := hp
  rw [hp2] at hw
  replace hw : Wd D (fun q : Nat => s.heap.size ≤ q) s.heap (GM cy am u ++ GH cy ad oa (C2, o2)) H locs := hw
  refine lv_iload hx hb dL_law_743 (lv_at hl 1 rfl) ?_
  refine lv_icmp_eq (tgt := 750) hx hb dL_law_745 (by decide) (fun c1 => ?_) (fun c1 => absurd (hp1.symm.trans kt) c1)
  refine lv_iload hx hb dL_law_750 (lv_at hl 1 rfl) ?_
  refine lv_if_ne (tgt := 767) hx hb dL_law_752 (by decide) (fun c2 => ?_) (fun c2 => ?_)
  · refine lv_goto (tgt := 1224) hx hb dL_law_767 (by decide) ?_
    refine W.widen (k := cells + 6) (n := slots + 36) (by omega) (by omega) ?_
    exact kk C2 u o2 H locs ls kR hw (lv_sub hl [2, 3, 4, 5, 6] rfl)
  · have c3 : r = 0 := c2
    replace ko := ko c3
    refine lv_aload_n hx hb dL_law_755 rfl (lv_at hl 5 rfl) ?_
    refine lv_iconst (v := 0) hx hb dL_law_756 (by decide) ?_
    refine g_lald K hw 58 1 rfl (by decide) rfl rfl (by decide) dL_law_757 ?_
    have e0 : (C2, o2).snd (Int32.toNatClampNeg 0) = r2.toInt64 := ko
    rw [e0]
    refine lv_iload hx hb dL_law_758 (lv_at hl 0 rfl) ?_
    refine lv_i2l hx hb dL_law_760 rfl ?_
    refine W.lcmp hx hb dL_law_761 ?_
    refine lv_if_eq (tgt := 767) hx hb dL_law_762 (by decide) (fun c4 => ?_) (fun c4 => absurd (lgc_self _) c4)
    refine lv_goto (tgt := 1224) hx hb dL_law_767 (by decide) ?_
    refine W.widen (k := cells + 6) (n := slots + 36) (by omega) (by omega) ?_
    exact kk C2 u o2 H locs ls kR hw (lv_sub hl [2, 3, 4, 5, 6] rfl)
set_option maxRecDepth 100000 in
set_option maxHeartbeats 4000000 in
theorem lc_change {p : Program} {l : Launch} {e : Env} {s : State} {m : MethodId} {below : List Frame} {meth : Method} {c : Code} (hl9 : l.stackTraces = false) {b L : Nat} {xs : Nat → Int32} (hL : L ≤ 3072) (hX : va_X b L xs s s.heap) (hbl : b < s.heap.size) {D : va_G} {cy : Nat → ClassId} {ad am : Nat → Nat → Nat} {oa : Nat → Nat} (K : Cx p s m #[Value.ref b] meth c D (fun q : Nat => s.heap.size ≤ q) (tysC cy) RL cL_law 7 ret wsL_law EL) {R : CSt → MSt → Prop} {n i : Nat} {C : CSt} {M : MSt} {o : Nat → Int64} (hi : i + 6 ≤ L) (hst : StI [1, 3] cm_change R (m_X7_change n C (xs (i + 1))) (m_X8_change n M (xs (i + 1)))) {H : Heap} {locs : List Loc} {ls : Array Slot} {cells slots : Nat} {Q : State → Prop} (hce : cells + 6 ≤ 612593) (hsl : slots + 36 ≤ 7258324) (hw : Wd D (fun q : Nat => s.heap.size ≤ q) s.heap (GM cy am M ++ GH cy ad oa (C, o)) H locs) (hl : lv_has ls 7 [(0, .ref b), (1, .ref (ad 0 0)), (2, .ref (am 0 0)), (3, .ref (oa 0)), (4, .int (nI i))]) (kk : ∀ (C2 : CSt) (M2 : MSt) (o2 : Nat → Int64) (H2 : Heap) (locs2 : List Loc) (ls2 : Array Slot), R C2 M2 → Wd D (fun q : Nat => s.heap.size ≤ q) s.heap (GM cy am M2 ++ GH cy ad oa (C2, o2)) H2 locs2 → lv_has ls2 7 [(0, .ref b), (1, .ref (ad 0 0)), (2, .ref (am 0 0)), (3, .ref (oa 0)), (4, .int (nI i))] → W p l e room_1 s m #[Value.ref b] below meth c H2 locs2 (cells + 6) (slots + 36) Q (F0 m 1224 ls2 [])) : W p l e room_1 s m #[Value.ref b] below meth c H locs cells slots Q (F0 m 770 ls []) := by
  obtain ⟨hx, hb, hml, hown, hts, hr, hlo, hK, hA, hXX⟩ := id K
  obtain ⟨out, w, hmc, hmm, h1, h2⟩ := hst
  refine lv_aload_n hx hb dL_law_770 rfl (lv_at hl 1 rfl) ?_
  refine lv_aload_n hx hb dL_law_771 rfl (lv_at hl 0 rfl) ?_
  refine lv_iload hx hb dL_law_772 (lv_at hl 4 rfl) ?_
  refine lv_iconst (v := nI 1) hx hb dL_law_774 (by decide) ?_
  refine lv_iadd hx hb dL_law_775 ?_
  refine va_sld hx hb hX hbl (Nat.not_le.mpr hbl) hw.2.2 (sc_in (i := i) (d := 1) (by omega) hL) dL_law_776 ?_
  rw [sc_at (i := i) (d := 1) (by omega) hL xs]
  refine lv_aload_n hx hb dL_law_777 rfl (lv_at hl 3 rfl) ?_
  have hw := Wd_nil hw
  refine f_calli (G1 := GM cy am M) (G := GH cy ad oa (C, o)) (G2 := []) (GG := GH cy ad oa) K hw (vx_runSW (As := [.ref (ad 0 0), .int (xs (i + 1)), .ref (oa 0)]) (rest := []) (g_fix K) (h_change l hl9 D cy ad oa H.size n C o (xs (i + 1)) hmc (fun k C2 ho => by have hk := (h2 k C2 ho).1; simpa using hk)) (vx_cwSW 3 (g_hts K) gL_law_L_change rfl rfl rfl (by decide +kernel) ⟨Nat.le_of_ble_eq_true rfl, Nat.le_of_ble_eq_true rfl⟩) ⟨g_blind rides_EL, g_pre K (Wd_mid hw) (g_ride rides_EL K (Wd_mid hw))⟩ rfl rfl hl.1 rfl (lv_room (Nat.le_of_ble_eq_true rfl)) dL_law_778 ⟨by show cells + 2 ≤ 612593; omega, by show slots + 12 ≤ 7258324; omega⟩) (fun r u H locs hp hw => ?_)
  replace hw := Wd_lin hw
  obtain ⟨C2, o2⟩ := u
  have key : R C2 w.2 ∧ w.2.1 0 0 = r ∧ (r = 0 → o2 0 = w.1.toInt64) := by
    rcases hp with ⟨v, C3, ho, hr0, hu⟩ | ⟨k, C3, ho, hr0, hu⟩
    · obtain ⟨a1, a2, a3⟩ := h1 v C3 ho
      cases hu
      exact ⟨a3, a1.trans hr0.symm, fun _ => by rw [upL_0, a2]⟩
    · obtain ⟨a1, a2, a3⟩ := h2 k C3 ho
      cases hu
      refine ⟨a3, a2.trans hr0.symm, fun hz => absurd (hr0.symm.trans hz) ?_⟩
      have a1 : k = 1 ∨ k = 3 := by simpa using a1
      rcases a1 with rfl | rfl <;> decide
  obtain ⟨kR, kt, ko⟩ := key
  refine lv_istore (lv' := [(5, .int r), (0, .ref b), (1, .ref (ad 0 0)), (2, .ref (am 0 0)), (3, .ref (oa 0)), (4, .int (nI i))]) hx hb dL_law_781 hl (by decide) rfl (fun ls hl => ?_)
  refine lv_aload_n hx hb dL_law_783 rfl (lv_at hl 3 rfl) ?_
  refine lv_aload_n hx hb dL_law_784 rfl (lv_at hl 1 rfl) ?_
  refine lv_iload hx hb dL_law_785 (lv_at hl 5 rfl) ?_
  refine lv_iconst (v := nI 1) hx hb dL_law_787 (by decide) ?_
  refine lv_iadd hx hb dL_law_788 ?_
  refine va_sld hx hb hX hbl (Nat.not_le.mpr hbl) hw.2.2 (sc_in (i := i) (d := 1) (by omega) hL) dL_law_789 ?_
  rw [sc_at (i := i) (d := 1) (by omega) hL xs]
  refine f_calli (G1 := []) (G := GM cy am M) (G2 := GH cy ad oa (C2, o2)) (GG := GM cy am) K hw (va_runV (As := [.int (xs (i + 1))]) (rest := []) (g_fix K) (c_X8_change l D cy am H.size n M (xs (i + 1)) hmm) (cwV 1 (g_hts K) gL_law_X8_change rfl rfl rfl (by decide +kernel) ⟨Nat.le_of_ble_eq_true rfl, Nat.le_of_ble_eq_true rfl⟩) ⟨g_blind rides_none, g_recv K (Wd_mid (G1 := []) (G := GM cy am M) (G2 := GH cy ad oa (C2, o2)) hw) 0 rfl (by decide : 0 < 1) rfl rfl, g_pre (X2 := fun _ _ => True) K (Wd_mid (G1 := []) (G := GM cy am M) (G2 := GH cy ad oa (C2, o2)) hw) (fun _ _ _ => trivial)⟩ rfl rfl hl.1 rfl (lv_room (Nat.le_of_ble_eq_true rfl)) dL_law_790 ⟨by show cells + 2 + 0 ≤ 612593; omega, by show slots + 12 + 0 ≤ 7258324; omega⟩) (fun r2 u H locs hp hw => ?_)
  replace hw : Wd D (fun q : Nat => s.heap.size ≤ q) s.heap (GM cy am u ++ GH cy ad oa (C2, o2)) H locs := hw
  subst hp
  replace kR : R C2 u := kR
  replace kt : u.1 0 0 = r := kt
  replace ko : r = 0 → o2 0 = r2.toInt64 := ko
  refine lv_istore (lv' := [(6, .int r2), (5, .int r), (0, .ref b), (1, .ref (ad 0 0)), (2, .ref (am 0 0)), (3, .ref (oa 0)), (4, .int (nI i))]) hx hb dL_law_793 hl (by decide) rfl (fun ls hl => ?_)
  refine lv_aload_n hx hb dL_law_795 rfl (lv_at hl 4 rfl) ?_
  refine f_calli (G1 := []) (G := GM cy am u) (G2 := GH cy ad oa (C2, o2)) (GG := GM cy am) K hw (va_runV (As := []) (rest := []) (g_fix K) (c_X8_thrown l D cy am H.size n u  (out := u.1 0 0) rfl) (cwV 0 (g_hts K) gL_law_X8_thrown rfl rfl rfl (by decide +kernel) ⟨Nat.le_of_ble_eq_true rfl, Nat.le_of_ble_eq_true rfl⟩) ⟨g_blind rides_none, g_recv K (Wd_mid (G1 := []) (G := GM cy am u) (G2 := GH cy ad oa (C2, o2)) hw) 0 rfl (by decide : 0 < 1) rfl rfl, g_pre (X2 := fun _ _ => True) K (Wd_mid (G1 := []) (G := GM cy am u) (G2 := GH cy ad oa (C2, o2)) hw) (fun _ _ _ => trivial)⟩ rfl rfl hl.1 rfl (lv_room (Nat.le_of_ble_eq_true rfl)) dL_law_796 ⟨by show cells + 2 + 0 + 0 ≤ 612593; omega, by show slots + 12 + 0 + 0 ≤ 7258324; omega⟩) (fun r3 u3 H locs hp hw => ?_)
  obtain ⟨hp1, hp2⟩ := hp
  rw [hp2] at hw
  replace hw : Wd D (fun q : Nat => s.heap.size ≤ q) s.heap (GM cy am u ++ GH cy ad oa (C2, o2)) H locs := hw
  refine lv_iload hx hb dL_law_799 (lv_at hl 1 rfl) ?_
  refine lv_icmp_eq (tgt := 806) hx hb dL_law_801 (by decide) (fun c1 => ?_) (fun c1 => absurd (hp1.symm.trans kt) c1)
  refine lv_iload hx hb dL_law_806 (lv_at hl 1 rfl) ?_
  refine lv_if_ne (tgt := 823) hx hb dL_law_808 (by decide) (fun c2 => ?_) (fun c2 => ?_)
  · refine lv_goto (tgt := 1224) hx hb dL_law_823 (by decide) ?_
    refine W.widen (k := cells + 6) (n := slots + 36) (by omega) (by omega) ?_
    exact kk C2 u o2 H locs ls kR hw (lv_sub hl [2, 3, 4, 5, 6] rfl)
  · have c3 : r = 0 := c2
    replace ko := ko c3
    refine lv_aload_n hx hb dL_law_811 rfl (lv_at hl 5 rfl) ?_
    refine lv_iconst (v := 0) hx hb dL_law_812 (by decide) ?_
    refine g_lald K hw 58 1 rfl (by decide) rfl rfl (by decide) dL_law_813 ?_
    have e0 : (C2, o2).snd (Int32.toNatClampNeg 0) = r2.toInt64 := ko
    rw [e0]
    refine lv_iload hx hb dL_law_814 (lv_at hl 0 rfl) ?_
    refine lv_i2l hx hb dL_law_816 rfl ?_
    refine W.lcmp hx hb dL_law_817 ?_
    refine lv_if_eq (tgt := 823) hx hb dL_law_818 (by decide) (fun c4 => ?_) (fun c4 => absurd (lgc_self _) c4)
    refine lv_goto (tgt := 1224) hx hb dL_law_823 (by decide) ?_
    refine W.widen (k := cells + 6) (n := slots + 36) (by omega) (by omega) ?_
    exact kk C2 u o2 H locs ls kR hw (lv_sub hl [2, 3, 4, 5, 6] rfl)
set_option maxRecDepth 100000 in
set_option maxHeartbeats 4000000 in
theorem lc_takeBack {p : Program} {l : Launch} {e : Env} {s : State} {m : MethodId} {below : List Frame} {meth : Method} {c : Code} (hl9 : l.stackTraces = false) {b L : Nat} {xs : Nat → Int32} (hL : L ≤ 3072) (hX : va_X b L xs s s.heap) (hbl : b < s.heap.size) {D : va_G} {cy : Nat → ClassId} {ad am : Nat → Nat → Nat} {oa : Nat → Nat} (K : Cx p s m #[Value.ref b] meth c D (fun q : Nat => s.heap.size ≤ q) (tysC cy) RL cL_law 7 ret wsL_law EL) {R : CSt → MSt → Prop} {n i : Nat} {C : CSt} {M : MSt} {o : Nat → Int64} (hi : i + 6 ≤ L) (hst : StI [1, 3] cm_takeBack R (m_X7_takeBack n C (xs (i + 1))) (m_X8_takeBack n M (xs (i + 1)))) {H : Heap} {locs : List Loc} {ls : Array Slot} {cells slots : Nat} {Q : State → Prop} (hce : cells + 6 ≤ 612593) (hsl : slots + 36 ≤ 7258324) (hw : Wd D (fun q : Nat => s.heap.size ≤ q) s.heap (GM cy am M ++ GH cy ad oa (C, o)) H locs) (hl : lv_has ls 7 [(0, .ref b), (1, .ref (ad 0 0)), (2, .ref (am 0 0)), (3, .ref (oa 0)), (4, .int (nI i))]) (kk : ∀ (C2 : CSt) (M2 : MSt) (o2 : Nat → Int64) (H2 : Heap) (locs2 : List Loc) (ls2 : Array Slot), R C2 M2 → Wd D (fun q : Nat => s.heap.size ≤ q) s.heap (GM cy am M2 ++ GH cy ad oa (C2, o2)) H2 locs2 → lv_has ls2 7 [(0, .ref b), (1, .ref (ad 0 0)), (2, .ref (am 0 0)), (3, .ref (oa 0)), (4, .int (nI i))] → W p l e room_1 s m #[Value.ref b] below meth c H2 locs2 (cells + 6) (slots + 36) Q (F0 m 1224 ls2 [])) : W p l e room_1 s m #[Value.ref b] below meth c H locs cells slots Q (F0 m 826 ls []) := by
  obtain ⟨hx, hb, hml, hown, hts, hr, hlo, hK, hA, hXX⟩ := id K
  obtain ⟨out, w, hmc, hmm, h1, h2⟩ := hst
  refine lv_aload_n hx hb dL_law_826 rfl (lv_at hl 1 rfl) ?_
  refine lv_aload_n hx hb dL_law_827 rfl (lv_at hl 0 rfl) ?_
  refine lv_iload hx hb dL_law_828 (lv_at hl 4 rfl) ?_
  refine lv_iconst (v := nI 1) hx hb dL_law_830 (by decide) ?_
  refine lv_iadd hx hb dL_law_831 ?_
  refine va_sld hx hb hX hbl (Nat.not_le.mpr hbl) hw.2.2 (sc_in (i := i) (d := 1) (by omega) hL) dL_law_832 ?_
  rw [sc_at (i := i) (d := 1) (by omega) hL xs]
  refine lv_aload_n hx hb dL_law_833 rfl (lv_at hl 3 rfl) ?_
  have hw := Wd_nil hw
  refine f_calli (G1 := GM cy am M) (G := GH cy ad oa (C, o)) (G2 := []) (GG := GH cy ad oa) K hw (vx_runSW (As := [.ref (ad 0 0), .int (xs (i + 1)), .ref (oa 0)]) (rest := []) (g_fix K) (h_takeBack l hl9 D cy ad oa H.size n C o (xs (i + 1)) hmc (fun k C2 ho => by have hk := (h2 k C2 ho).1; simpa using hk)) (vx_cwSW 3 (g_hts K) gL_law_L_takeBack rfl rfl rfl (by decide +kernel) ⟨Nat.le_of_ble_eq_true rfl, Nat.le_of_ble_eq_true rfl⟩) ⟨g_blind rides_EL, g_pre K (Wd_mid hw) (g_ride rides_EL K (Wd_mid hw))⟩ rfl rfl hl.1 rfl (lv_room (Nat.le_of_ble_eq_true rfl)) dL_law_834 ⟨by show cells + 2 ≤ 612593; omega, by show slots + 12 ≤ 7258324; omega⟩) (fun r u H locs hp hw => ?_)
  replace hw := Wd_lin hw
  obtain ⟨C2, o2⟩ := u
  have key : R C2 w.2 ∧ w.2.1 0 0 = r ∧ (r = 0 → o2 0 = w.1.toInt64) := by
    rcases hp with ⟨v, C3, ho, hr0, hu⟩ | ⟨k, C3, ho, hr0, hu⟩
    · obtain ⟨a1, a2, a3⟩ := h1 v C3 ho
      cases hu
      exact ⟨a3, a1.trans hr0.symm, fun _ => by rw [upL_0, a2]⟩
    · obtain ⟨a1, a2, a3⟩ := h2 k C3 ho
      cases hu
      refine ⟨a3, a2.trans hr0.symm, fun hz => absurd (hr0.symm.trans hz) ?_⟩
      have a1 : k = 1 ∨ k = 3 := by simpa using a1
      rcases a1 with rfl | rfl <;> decide
  obtain ⟨kR, kt, ko⟩ := key
  refine lv_istore (lv' := [(5, .int r), (0, .ref b), (1, .ref (ad 0 0)), (2, .ref (am 0 0)), (3, .ref (oa 0)), (4, .int (nI i))]) hx hb dL_law_837 hl (by decide) rfl (fun ls hl => ?_)
  refine lv_aload_n hx hb dL_law_839 rfl (lv_at hl 3 rfl) ?_
  refine lv_aload_n hx hb dL_law_840 rfl (lv_at hl 1 rfl) ?_
  refine lv_iload hx hb dL_law_841 (lv_at hl 5 rfl) ?_
  refine lv_iconst (v := nI 1) hx hb dL_law_843 (by decide) ?_
  refine lv_iadd hx hb dL_law_844 ?_
  refine va_sld hx hb hX hbl (Nat.not_le.mpr hbl) hw.2.2 (sc_in (i := i) (d := 1) (by omega) hL) dL_law_845 ?_
  rw [sc_at (i := i) (d := 1) (by omega) hL xs]
  refine f_calli (G1 := []) (G := GM cy am M) (G2 := GH cy ad oa (C2, o2)) (GG := GM cy am) K hw (va_runV (As := [.int (xs (i + 1))]) (rest := []) (g_fix K) (c_X8_takeBack l D cy am H.size n M (xs (i + 1)) hmm) (cwV 1 (g_hts K) gL_law_X8_takeBack rfl rfl rfl (by decide +kernel) ⟨Nat.le_of_ble_eq_true rfl, Nat.le_of_ble_eq_true rfl⟩) ⟨g_blind rides_none, g_recv K (Wd_mid (G1 := []) (G := GM cy am M) (G2 := GH cy ad oa (C2, o2)) hw) 0 rfl (by decide : 0 < 1) rfl rfl, g_pre (X2 := fun _ _ => True) K (Wd_mid (G1 := []) (G := GM cy am M) (G2 := GH cy ad oa (C2, o2)) hw) (fun _ _ _ => trivial)⟩ rfl rfl hl.1 rfl (lv_room (Nat.le_of_ble_eq_true rfl)) dL_law_846 ⟨by show cells + 2 + 0 ≤ 612593; omega, by show slots + 12 + 0 ≤ 7258324; omega⟩) (fun r2 u H locs hp hw => ?_)
  replace hw : Wd D (fun q : Nat => s.heap.size ≤ q) s.heap (GM cy am u ++ GH cy ad oa (C2, o2)) H locs := hw
  subst hp
  replace kR : R C2 u := kR
  replace kt : u.1 0 0 = r := kt
  replace ko : r = 0 → o2 0 = r2.toInt64 := ko
  refine lv_istore (lv' := [(6, .int r2), (5, .int r), (0, .ref b), (1, .ref (ad 0 0)), (2, .ref (am 0 0)), (3, .ref (oa 0)), (4, .int (nI i))]) hx hb dL_law_849 hl (by decide) rfl (fun ls hl => ?_)
  refine lv_aload_n hx hb dL_law_851 rfl (lv_at hl 4 rfl) ?_
  refine f_calli (G1 := []) (G := GM cy am u) (G2 := GH cy ad oa (C2, o2)) (GG := GM cy am) K hw (va_runV (As := []) (rest := []) (g_fix K) (c_X8_thrown l D cy am H.size n u  (out := u.1 0 0) rfl) (cwV 0 (g_hts K) gL_law_X8_thrown rfl rfl rfl (by decide +kernel) ⟨Nat.le_of_ble_eq_true rfl, Nat.le_of_ble_eq_true rfl⟩) ⟨g_blind rides_none, g_recv K (Wd_mid (G1 := []) (G := GM cy am u) (G2 := GH cy ad oa (C2, o2)) hw) 0 rfl (by decide : 0 < 1) rfl rfl, g_pre (X2 := fun _ _ => True) K (Wd_mid (G1 := []) (G := GM cy am u) (G2 := GH cy ad oa (C2, o2)) hw) (fun _ _ _ => trivial)⟩ rfl rfl hl.1 rfl (lv_room (Nat.le_of_ble_eq_true rfl)) dL_law_852 ⟨by show cells + 2 + 0 + 0 ≤ 612593; omega, by show slots + 12 + 0 + 0 ≤ 7258324; omega⟩) (fun r3 u3 H locs hp hw => ?_)
  obtain ⟨hp1, hp2⟩ := hp
  rw [hp2] at hw
  replace hw : Wd D (fun q : Nat => s.heap.size ≤ q) s.heap (GM cy am u ++ GH cy ad oa (C2, o2)) H locs := hw
  refine lv_iload hx hb dL_law_855 (lv_at hl 1 rfl) ?_
  refine lv_icmp_eq (tgt := 862) hx hb dL_law_857 (by decide) (fun c1 => ?_) (fun c1 => absurd (hp1.symm.trans kt) c1)
  refine lv_iload hx hb dL_law_862 (lv_at hl 1 rfl) ?_
  refine lv_if_ne (tgt := 879) hx hb dL_law_864 (by decide) (fun c2 => ?_) (fun c2 => ?_)
  · refine lv_goto (tgt := 1224) hx hb dL_law_879 (by decide) ?_
    refine W.widen (k := cells + 6) (n := slots + 36) (by omega) (by omega) ?_
    exact kk C2 u o2 H locs ls kR hw (lv_sub hl [2, 3, 4, 5, 6] rfl)
  · have c3 : r = 0 := c2
    replace ko := ko c3
    refine lv_aload_n hx hb dL_law_867 rfl (lv_at hl 5 rfl) ?_
    refine lv_iconst (v := 0) hx hb dL_law_868 (by decide) ?_
    refine g_lald K hw 58 1 rfl (by decide) rfl rfl (by decide) dL_law_869 ?_
    have e0 : (C2, o2).snd (Int32.toNatClampNeg 0) = r2.toInt64 := ko
    rw [e0]
    refine lv_iload hx hb dL_law_870 (lv_at hl 0 rfl) ?_
    refine lv_i2l hx hb dL_law_872 rfl ?_
    refine W.lcmp hx hb dL_law_873 ?_
    refine lv_if_eq (tgt := 879) hx hb dL_law_874 (by decide) (fun c4 => ?_) (fun c4 => absurd (lgc_self _) c4)
    refine lv_goto (tgt := 1224) hx hb dL_law_879 (by decide) ?_
    refine W.widen (k := cells + 6) (n := slots + 36) (by omega) (by omega) ?_
    exact kk C2 u o2 H locs ls kR hw (lv_sub hl [2, 3, 4, 5, 6] rfl)
set_option maxRecDepth 100000 in
set_option maxHeartbeats 4000000 in
theorem lc_versionOf {p : Program} {l : Launch} {e : Env} {s : State} {m : MethodId} {below : List Frame} {meth : Method} {c : Code} (hl9 : l.stackTraces = false) {b L : Nat} {xs : Nat → Int32} (hL : L ≤ 3072) (hX : va_X b L xs s s.heap) (hbl : b < s.heap.size) {D : va_G} {cy : Nat → ClassId} {ad am : Nat → Nat → Nat} {oa : Nat → Nat} (K : Cx p s m #[Value.ref b] meth c D (fun q : Nat => s.heap.size ≤ q) (tysC cy) RL cL_law 7 ret wsL_law EL) {R : CSt → MSt → Prop} {n i : Nat} {C : CSt} {M : MSt} {o : Nat → Int64} (hi : i + 6 ≤ L) (hst : StP [1, 2] cm_versionOf R C (m_X7_versionOf n C (xs (i + 1))) (m_X8_versionOf n M (xs (i + 1)))) {H : Heap} {locs : List Loc} {ls : Array Slot} {cells slots : Nat} {Q : State → Prop} (hce : cells + 6 ≤ 612593) (hsl : slots + 36 ≤ 7258324) (hw : Wd D (fun q : Nat => s.heap.size ≤ q) s.heap (GM cy am M ++ GH cy ad oa (C, o)) H locs) (hl : lv_has ls 7 [(0, .ref b), (1, .ref (ad 0 0)), (2, .ref (am 0 0)), (3, .ref (oa 0)), (4, .int (nI i))]) (kk : ∀ (C2 : CSt) (M2 : MSt) (o2 : Nat → Int64) (H2 : Heap) (locs2 : List Loc) (ls2 : Array Slot), R C2 M2 → Wd D (fun q : Nat => s.heap.size ≤ q) s.heap (GM cy am M2 ++ GH cy ad oa (C2, o2)) H2 locs2 → lv_has ls2 7 [(0, .ref b), (1, .ref (ad 0 0)), (2, .ref (am 0 0)), (3, .ref (oa 0)), (4, .int (nI i))] → W p l e room_1 s m #[Value.ref b] below meth c H2 locs2 (cells + 6) (slots + 36) Q (F0 m 1224 ls2 [])) : W p l e room_1 s m #[Value.ref b] below meth c H locs cells slots Q (F0 m 882 ls []) := by
  obtain ⟨hx, hb, hml, hown, hts, hr, hlo, hK, hA, hXX⟩ := id K
  obtain ⟨out, w, hmc, hmm, h1, h2⟩ := hst
  refine lv_aload_n hx hb dL_law_882 rfl (lv_at hl 1 rfl) ?_
  refine lv_aload_n hx hb dL_law_883 rfl (lv_at hl 0 rfl) ?_
  refine lv_iload hx hb dL_law_884 (lv_at hl 4 rfl) ?_
  refine lv_iconst (v := nI 1) hx hb dL_law_886 (by decide) ?_
  refine lv_iadd hx hb dL_law_887 ?_
  refine va_sld hx hb hX hbl (Nat.not_le.mpr hbl) hw.2.2 (sc_in (i := i) (d := 1) (by omega) hL) dL_law_888 ?_
  rw [sc_at (i := i) (d := 1) (by omega) hL xs]
  refine lv_aload_n hx hb dL_law_889 rfl (lv_at hl 3 rfl) ?_
  have hw := Wd_nil hw
  refine f_calli (G1 := GM cy am M) (G := GH cy ad oa (C, o)) (G2 := []) (GG := GH cy ad oa) K hw (vx_runSW (As := [.ref (ad 0 0), .int (xs (i + 1)), .ref (oa 0)]) (rest := []) (g_fix K) (h_versionOf l hl9 D cy ad oa H.size n C o (xs (i + 1)) hmc (fun k C2 ho => by have hk := (h2 k C2 ho).1; simpa using hk)) (vx_cwSW 3 (g_hts K) gL_law_L_versionOf rfl rfl rfl (by decide +kernel) ⟨Nat.le_of_ble_eq_true rfl, Nat.le_of_ble_eq_true rfl⟩) ⟨g_blind rides_EL, g_pre K (Wd_mid hw) (g_ride rides_EL K (Wd_mid hw))⟩ rfl rfl hl.1 rfl (lv_room (Nat.le_of_ble_eq_true rfl)) dL_law_890 ⟨by show cells + 2 ≤ 612593; omega, by show slots + 12 ≤ 7258324; omega⟩) (fun r u H locs hp hw => ?_)
  replace hw := Wd_lin hw
  obtain ⟨C2, o2⟩ := u
  have key : R C2 w.2 ∧ w.2.1 0 0 = r ∧ (r = 0 → o2 0 = w.1.toInt64) := by
    rcases hp with ⟨v, ho, hr0, hu⟩ | ⟨k, C3, ho, hr0, hu⟩
    · obtain ⟨a1, a2, a3⟩ := h1 v ho
      cases hu
      exact ⟨a3, a1.trans hr0.symm, fun _ => by rw [upL_0, a2]⟩
    · obtain ⟨a1, a2, a3⟩ := h2 k C3 ho
      cases hu
      refine ⟨a3, a2.trans hr0.symm, fun hz => absurd (hr0.symm.trans hz) ?_⟩
      have a1 : k = 1 ∨ k = 2 := by simpa using a1
      rcases a1 with rfl | rfl <;> decide
  obtain ⟨kR, kt, ko⟩ := key
  refine lv_istore (lv' := [(5, .int r), (0, .ref b), (1, .ref (ad 0 0)), (2, .ref (am 0 0)), (3, .ref (oa 0)), (4, .int (nI i))]) hx hb dL_law_893 hl (by decide) rfl (fun ls hl => ?_)
  refine lv_aload_n hx hb dL_law_895 rfl (lv_at hl 3 rfl) ?_
  refine lv_aload_n hx hb dL_law_896 rfl (lv_at hl 1 rfl) ?_
  refine lv_iload hx hb dL_law_897 (lv_at hl 5 rfl) ?_
  refine lv_iconst (v := nI 1) hx hb dL_law_899 (by decide) ?_
  refine lv_iadd hx hb dL_law_900 ?_
  refine va_sld hx hb hX hbl (Nat.not_le.mpr hbl) hw.2.2 (sc_in (i := i) (d := 1) (by omega) hL) dL_law_901 ?_
  rw [sc_at (i := i) (d := 1) (by omega) hL xs]
  refine f_calli (G1 := []) (G := GM cy am M) (G2 := GH cy ad oa (C2, o2)) (GG := GM cy am) K hw (va_runV (As := [.int (xs (i + 1))]) (rest := []) (g_fix K) (c_X8_versionOf l D cy am H.size n M (xs (i + 1)) hmm) (cwV 1 (g_hts K) gL_law_X8_versionOf rfl rfl rfl (by decide +kernel) ⟨Nat.le_of_ble_eq_true rfl, Nat.le_of_ble_eq_true rfl⟩) ⟨g_blind rides_none, g_recv K (Wd_mid (G1 := []) (G := GM cy am M) (G2 := GH cy ad oa (C2, o2)) hw) 0 rfl (by decide : 0 < 1) rfl rfl, g_pre (X2 := fun _ _ => True) K (Wd_mid (G1 := []) (G := GM cy am M) (G2 := GH cy ad oa (C2, o2)) hw) (fun _ _ _ => trivial)⟩ rfl rfl hl.1 rfl (lv_room (Nat.le_of_ble_eq_true rfl)) dL_law_902 ⟨by show cells + 2 + 0 ≤ 612593; omega, by show slots + 12 + 0 ≤ 7258324; omega⟩) (fun r2 u H locs hp hw => ?_)
  replace hw : Wd D (fun q : Nat => s.heap.size ≤ q) s.heap (GM cy am u ++ GH cy ad oa (C2, o2)) H locs := hw
  subst hp
  replace kR : R C2 u := kR
  replace kt : u.1 0 0 = r := kt
  replace ko : r = 0 → o2 0 = r2.toInt64 := ko
  refine lv_istore (lv' := [(6, .int r2), (5, .int r), (0, .ref b), (1, .ref (ad 0 0)), (2, .ref (am 0 0)), (3, .ref (oa 0)), (4, .int (nI i))]) hx hb dL_law_905 hl (by decide) rfl (fun ls hl => ?_)
  refine lv_aload_n hx hb dL_law_907 rfl (lv_at hl 4 rfl) ?_
  refine f_calli (G1 := []) (G := GM cy am u) (G2 := GH cy ad oa (C2, o2)) (GG := GM cy am) K hw (va_runV (As := []) (rest := []) (g_fix K) (c_X8_thrown l D cy am H.size n u  (out := u.1 0 0) rfl) (cwV 0 (g_hts K) gL_law_X8_thrown rfl rfl rfl (by decide +kernel) ⟨Nat.le_of_ble_eq_true rfl, Nat.le_of_ble_eq_true rfl⟩) ⟨g_blind rides_none, g_recv K (Wd_mid (G1 := []) (G := GM cy am u) (G2 := GH cy ad oa (C2, o2)) hw) 0 rfl (by decide : 0 < 1) rfl rfl, g_pre (X2 := fun _ _ => True) K (Wd_mid (G1 := []) (G := GM cy am u) (G2 := GH cy ad oa (C2, o2)) hw) (fun _ _ _ => trivial)⟩ rfl rfl hl.1 rfl (lv_room (Nat.le_of_ble_eq_true rfl)) dL_law_908 ⟨by show cells + 2 + 0 + 0 ≤ 612593; omega, by show slots + 12 + 0 + 0 ≤ 7258324; omega⟩) (fun r3 u3 H locs hp hw => ?_)
  obtain ⟨hp1, hp2⟩ := hp
  rw [hp2] at hw
  replace hw : Wd D (fun q : Nat => s.heap.size ≤ q) s.heap (GM cy am u ++ GH cy ad oa (C2, o2)) H locs := hw
  refine lv_iload hx hb dL_law_911 (lv_at hl 1 rfl) ?_
  refine lv_icmp_eq (tgt := 918) hx hb dL_law_913 (by decide) (fun c1 => ?_) (fun c1 => absurd (hp1.symm.trans kt) c1)
  refine lv_iload hx hb dL_law_918 (lv_at hl 1 rfl) ?_
  refine lv_if_ne (tgt := 935) hx hb dL_law_920 (by decide) (fun c2 => ?_) (fun c2 => ?_)
  · refine lv_goto (tgt := 1224) hx hb dL_law_935 (by decide) ?_
    refine W.widen (k := cells + 6) (n := slots + 36) (by omega) (by omega) ?_
    exact kk C2 u o2 H locs ls kR hw (lv_sub hl [2, 3, 4, 5, 6] rfl)
  · have c3 : r = 0 := c2
    replace ko := ko c3
    refine lv_aload_n hx hb dL_law_923 rfl (lv_at hl 5 rfl) ?_
    refine lv_iconst (v := 0) hx hb dL_law_924 (by decide) ?_
    refine g_lald K hw 58 1 rfl (by decide) rfl rfl (by decide) dL_law_925 ?_
    have e0 : (C2, o2).snd (Int32.toNatClampNeg 0) = r2.toInt64 := ko
    rw [e0]
    refine lv_iload hx hb dL_law_926 (lv_at hl 0 rfl) ?_
    refine lv_i2l hx hb dL_law_928 rfl ?_
    refine W.lcmp hx hb dL_law_929 ?_
    refine lv_if_eq (tgt := 935) hx hb dL_law_930 (by decide) (fun c4 => ?_) (fun c4 => absurd (lgc_self _) c4)
    refine lv_goto (tgt := 1224) hx hb dL_law_935 (by decide) ?_
    refine W.widen (k := cells + 6) (n := slots + 36) (by omega) (by omega) ?_
    exact kk C2 u o2 H locs ls kR hw (lv_sub hl [2, 3, 4, 5, 6] rfl)
set_option maxRecDepth 100000 in
set_option maxHeartbeats 4000000 in
theorem lc_touch {p : Program} {l : Launch} {e : Env} {s : State} {m : MethodId} {below : List Frame} {meth : Method} {c : Code} (hl9 : l.stackTraces = false) {b L : Nat} {xs : Nat → Int32} (hL : L ≤ 3072) (hX : va_X b L xs s s.heap) (hbl : b < s.heap.size) {D : va_G} {cy : Nat → ClassId} {ad am : Nat → Nat → Nat} {oa : Nat → Nat} (K : Cx p s m #[Value.ref b] meth c D (fun q : Nat => s.heap.size ≤ q) (tysC cy) RL cL_law 7 ret wsL_law EL) {R : CSt → MSt → Prop} {n i : Nat} {C : CSt} {M : MSt} {o : Nat → Int64} (hi : i + 6 ≤ L) (hst : StI [1, 2] cm_touch R (m_X7_touch n C (xs (i + 1))) (m_X8_touch n M (xs (i + 1)))) {H : Heap} {locs : List Loc} {ls : Array Slot} {cells slots : Nat} {Q : State → Prop} (hce : cells + 6 ≤ 612593) (hsl : slots + 36 ≤ 7258324) (hw : Wd D (fun q : Nat => s.heap.size ≤ q) s.heap (GM cy am M ++ GH cy ad oa (C, o)) H locs) (hl : lv_has ls 7 [(0, .ref b), (1, .ref (ad 0 0)), (2, .ref (am 0 0)), (3, .ref (oa 0)), (4, .int (nI i))]) (kk : ∀ (C2 : CSt) (M2 : MSt) (o2 : Nat → Int64) (H2 : Heap) (locs2 : List Loc) (ls2 : Array Slot), R C2 M2 → Wd D (fun q : Nat => s.heap.size ≤ q) s.heap (GM cy am M2 ++ GH cy ad oa (C2, o2)) H2 locs2 → lv_has ls2 7 [(0, .ref b), (1, .ref (ad 0 0)), (2, .ref (am 0 0)), (3, .ref (oa 0)), (4, .int (nI i))] → W p l e room_1 s m #[Value.ref b] below meth c H2 locs2 (cells + 6) (slots + 36) Q (F0 m 1224 ls2 [])) : W p l e room_1 s m #[Value.ref b] below meth c H locs cells slots Q (F0 m 938 ls []) := by
  obtain ⟨hx, hb, hml, hown, hts, hr, hlo, hK, hA, hXX⟩ := id K
  obtain ⟨out, w, hmc, hmm, h1, h2⟩ := hst
  refine lv_aload_n hx hb dL_law_938 rfl (lv_at hl 1 rfl) ?_
  refine lv_aload_n hx hb dL_law_939 rfl (lv_at hl 0 rfl) ?_
  refine lv_iload hx hb dL_law_940 (lv_at hl 4 rfl) ?_
  refine lv_iconst (v := nI 1) hx hb dL_law_942 (by decide) ?_
  refine lv_iadd hx hb dL_law_943 ?_
  refine va_sld hx hb hX hbl (Nat.not_le.mpr hbl) hw.2.2 (sc_in (i := i) (d := 1) (by omega) hL) dL_law_944 ?_
  rw [sc_at (i := i) (d := 1) (by omega) hL xs]
  refine lv_aload_n hx hb dL_law_945 rfl (lv_at hl 3 rfl) ?_
  have hw := Wd_nil hw
  refine f_calli (G1 := GM cy am M) (G := GH cy ad oa (C, o)) (G2 := []) (GG := GH cy ad oa) K hw (vx_runSW (As := [.ref (ad 0 0), .int (xs (i + 1)), .ref (oa 0)]) (rest := []) (g_fix K) (h_touch l hl9 D cy ad oa H.size n C o (xs (i + 1)) hmc (fun k C2 ho => by have hk := (h2 k C2 ho).1; simpa using hk)) (vx_cwSW 3 (g_hts K) gL_law_L_touch rfl rfl rfl (by decide +kernel) ⟨Nat.le_of_ble_eq_true rfl, Nat.le_of_ble_eq_true rfl⟩) ⟨g_blind rides_EL, g_pre K (Wd_mid hw) (g_ride rides_EL K (Wd_mid hw))⟩ rfl rfl hl.1 rfl (lv_room (Nat.le_of_ble_eq_true rfl)) dL_law_946 ⟨by show cells + 2 ≤ 612593; omega, by show slots + 12 ≤ 7258324; omega⟩) (fun r u H locs hp hw => ?_)
  replace hw := Wd_lin hw
  obtain ⟨C2, o2⟩ := u
  have key : R C2 w.2 ∧ w.2.1 0 0 = r ∧ (r = 0 → o2 0 = w.1.toInt64) := by
    rcases hp with ⟨v, C3, ho, hr0, hu⟩ | ⟨k, C3, ho, hr0, hu⟩
    · obtain ⟨a1, a2, a3⟩ := h1 v C3 ho
      cases hu
      exact ⟨a3, a1.trans hr0.symm, fun _ => by rw [upL_0, a2]⟩
    · obtain ⟨a1, a2, a3⟩ := h2 k C3 ho
      cases hu
      refine ⟨a3, a2.trans hr0.symm, fun hz => absurd (hr0.symm.trans hz) ?_⟩
      have a1 : k = 1 ∨ k = 2 := by simpa using a1
      rcases a1 with rfl | rfl <;> decide
  obtain ⟨kR, kt, ko⟩ := key
  refine lv_istore (lv' := [(5, .int r), (0, .ref b), (1, .ref (ad 0 0)), (2, .ref (am 0 0)), (3, .ref (oa 0)), (4, .int (nI i))]) hx hb dL_law_949 hl (by decide) rfl (fun ls hl => ?_)
  refine lv_aload_n hx hb dL_law_951 rfl (lv_at hl 3 rfl) ?_
  refine lv_aload_n hx hb dL_law_952 rfl (lv_at hl 1 rfl) ?_
  refine lv_iload hx hb dL_law_953 (lv_at hl 5 rfl) ?_
  refine lv_iconst (v := nI 1) hx hb dL_law_955 (by decide) ?_
  refine lv_iadd hx hb dL_law_956 ?_
  refine va_sld hx hb hX hbl (Nat.not_le.mpr hbl) hw.2.2 (sc_in (i := i) (d := 1) (by omega) hL) dL_law_957 ?_
  rw [sc_at (i := i) (d := 1) (by omega) hL xs]
  refine f_calli (G1 := []) (G := GM cy am M) (G2 := GH cy ad oa (C2, o2)) (GG := GM cy am) K hw (va_runV (As := [.int (xs (i + 1))]) (rest := []) (g_fix K) (c_X8_touch l D cy am H.size n M (xs (i + 1)) hmm) (cwV 1 (g_hts K) gL_law_X8_touch rfl rfl rfl (by decide +kernel) ⟨Nat.le_of_ble_eq_true rfl, Nat.le_of_ble_eq_true rfl⟩) ⟨g_blind rides_none, g_recv K (Wd_mid (G1 := []) (G := GM cy am M) (G2 := GH cy ad oa (C2, o2)) hw) 0 rfl (by decide : 0 < 1) rfl rfl, g_pre (X2 := fun _ _ => True) K (Wd_mid (G1 := []) (G := GM cy am M) (G2 := GH cy ad oa (C2, o2)) hw) (fun _ _ _ => trivial)⟩ rfl rfl hl.1 rfl (lv_room (Nat.le_of_ble_eq_true rfl)) dL_law_958 ⟨by show cells + 2 + 0 ≤ 612593; omega, by show slots + 12 + 0 ≤ 7258324; omega⟩) (fun r2 u H locs hp hw => ?_)
  replace hw : Wd D (fun q : Nat => s.heap.size ≤ q) s.heap (GM cy am u ++ GH cy ad oa (C2, o2)) H locs := hw
  subst hp
  replace kR : R C2 u := kR
  replace kt : u.1 0 0 = r := kt
  replace ko : r = 0 → o2 0 = r2.toInt64 := ko
  refine lv_istore (lv' := [(6, .int r2), (5, .int r), (0, .ref b), (1, .ref (ad 0 0)), (2, .ref (am 0 0)), (3, .ref (oa 0)), (4, .int (nI i))]) hx hb dL_law_961 hl (by decide) rfl (fun ls hl => ?_)
  refine lv_aload_n hx hb dL_law_963 rfl (lv_at hl 4 rfl) ?_
  refine f_calli (G1 := []) (G := GM cy am u) (G2 := GH cy ad oa (C2, o2)) (GG := GM cy am) K hw (va_runV (As := []) (rest := []) (g_fix K) (c_X8_thrown l D cy am H.size n u  (out := u.1 0 0) rfl) (cwV 0 (g_hts K) gL_law_X8_thrown rfl rfl rfl (by decide +kernel) ⟨Nat.le_of_ble_eq_true rfl, Nat.le_of_ble_eq_true rfl⟩) ⟨g_blind rides_none, g_recv K (Wd_mid (G1 := []) (G := GM cy am u) (G2 := GH cy ad oa (C2, o2)) hw) 0 rfl (by decide : 0 < 1) rfl rfl, g_pre (X2 := fun _ _ => True) K (Wd_mid (G1 := []) (G := GM cy am u) (G2 := GH cy ad oa (C2, o2)) hw) (fun _ _ _ => trivial)⟩ rfl rfl hl.1 rfl (lv_room (Nat.le_of_ble_eq_true rfl)) dL_law_964 ⟨by show cells + 2 + 0 + 0 ≤ 612593; omega, by show slots + 12 + 0 + 0 ≤ 7258324; omega⟩) (fun r3 u3 H locs hp hw => ?_)
  obtain ⟨hp1, hp2⟩ := hp
  rw [hp2] at hw
  replace hw : Wd D (fun q : Nat => s.heap.size ≤ q) s.heap (GM cy am u ++ GH cy ad oa (C2, o2)) H locs := hw
  refine lv_iload hx hb dL_law_967 (lv_at hl 1 rfl) ?_
  refine lv_icmp_eq (tgt := 974) hx hb dL_law_969 (by decide) (fun c1 => ?_) (fun c1 => absurd (hp1.symm.trans kt) c1)
  refine lv_iload hx hb dL_law_974 (lv_at hl 1 rfl) ?_
  refine lv_if_ne (tgt := 991) hx hb dL_law_976 (by decide) (fun c2 => ?_) (fun c2 => ?_)
  · refine lv_goto (tgt := 1224) hx hb dL_law_991 (by decide) ?_
    refine W.widen (k := cells + 6) (n := slots + 36) (by omega) (by omega) ?_
    exact kk C2 u o2 H locs ls kR hw (lv_sub hl [2, 3, 4, 5, 6] rfl)
  · have c3 : r = 0 := c2
    replace ko := ko c3
    refine lv_aload_n hx hb dL_law_979 rfl (lv_at hl 5 rfl) ?_
    refine lv_iconst (v := 0) hx hb dL_law_980 (by decide) ?_
    refine g_lald K hw 58 1 rfl (by decide) rfl rfl (by decide) dL_law_981 ?_
    have e0 : (C2, o2).snd (Int32.toNatClampNeg 0) = r2.toInt64 := ko
    rw [e0]
    refine lv_iload hx hb dL_law_982 (lv_at hl 0 rfl) ?_
    refine lv_i2l hx hb dL_law_984 rfl ?_
    refine W.lcmp hx hb dL_law_985 ?_
    refine lv_if_eq (tgt := 991) hx hb dL_law_986 (by decide) (fun c4 => ?_) (fun c4 => absurd (lgc_self _) c4)
    refine lv_goto (tgt := 1224) hx hb dL_law_991 (by decide) ?_
    refine W.widen (k := cells + 6) (n := slots + 36) (by omega) (by omega) ?_
    exact kk C2 u o2 H locs ls kR hw (lv_sub hl [2, 3, 4, 5, 6] rfl)
set_option maxRecDepth 100000 in
set_option maxHeartbeats 4000000 in
theorem lc_sweep {p : Program} {l : Launch} {e : Env} {s : State} {m : MethodId} {below : List Frame} {meth : Method} {c : Code} (hl9 : l.stackTraces = false) {b L : Nat} {xs : Nat → Int32} (hL : L ≤ 3072) (hX : va_X b L xs s s.heap) (hbl : b < s.heap.size) {D : va_G} {cy : Nat → ClassId} {ad am : Nat → Nat → Nat} {oa : Nat → Nat} (K : Cx p s m #[Value.ref b] meth c D (fun q : Nat => s.heap.size ≤ q) (tysC cy) RL cL_law 7 ret wsL_law EL) {R : CSt → MSt → Prop} {n i : Nat} {C : CSt} {M : MSt} {o : Nat → Int64} (hi : i + 6 ≤ L) (hst : StI [1] cm_sweep R (m_X7_sweep n C (xs (i + 1))) (m_X8_sweep n M (xs (i + 1)))) {H : Heap} {locs : List Loc} {ls : Array Slot} {cells slots : Nat} {Q : State → Prop} (hce : cells + 6 ≤ 612593) (hsl : slots + 36 ≤ 7258324) (hw : Wd D (fun q : Nat => s.heap.size ≤ q) s.heap (GM cy am M ++ GH cy ad oa (C, o)) H locs) (hl : lv_has ls 7 [(0, .ref b), (1, .ref (ad 0 0)), (2, .ref (am 0 0)), (3, .ref (oa 0)), (4, .int (nI i))]) (kk : ∀ (C2 : CSt) (M2 : MSt) (o2 : Nat → Int64) (H2 : Heap) (locs2 : List Loc) (ls2 : Array Slot), R C2 M2 → Wd D (fun q : Nat => s.heap.size ≤ q) s.heap (GM cy am M2 ++ GH cy ad oa (C2, o2)) H2 locs2 → lv_has ls2 7 [(0, .ref b), (1, .ref (ad 0 0)), (2, .ref (am 0 0)), (3, .ref (oa 0)), (4, .int (nI i))] → W p l e room_1 s m #[Value.ref b] below meth c H2 locs2 (cells + 6) (slots + 36) Q (F0 m 1224 ls2 [])) : W p l e room_1 s m #[Value.ref b] below meth c H locs cells slots Q (F0 m 994 ls []) := by
  obtain ⟨hx, hb, hml, hown, hts, hr, hlo, hK, hA, hXX⟩ := id K
  obtain ⟨out, w, hmc, hmm, h1, h2⟩ := hst
  refine lv_aload_n hx hb dL_law_994 rfl (lv_at hl 1 rfl) ?_
  refine lv_aload_n hx hb dL_law_995 rfl (lv_at hl 0 rfl) ?_
  refine lv_iload hx hb dL_law_996 (lv_at hl 4 rfl) ?_
  refine lv_iconst (v := nI 1) hx hb dL_law_998 (by decide) ?_
  refine lv_iadd hx hb dL_law_999 ?_
  refine va_sld hx hb hX hbl (Nat.not_le.mpr hbl) hw.2.2 (sc_in (i := i) (d := 1) (by omega) hL) dL_law_1000 ?_
  rw [sc_at (i := i) (d := 1) (by omega) hL xs]
  refine lv_aload_n hx hb dL_law_1001 rfl (lv_at hl 3 rfl) ?_
  have hw := Wd_nil hw
  refine f_calli (G1 := GM cy am M) (G := GH cy ad oa (C, o)) (G2 := []) (GG := GH cy ad oa) K hw (vx_runSW (As := [.ref (ad 0 0), .int (xs (i + 1)), .ref (oa 0)]) (rest := []) (g_fix K) (h_sweep l hl9 D cy ad oa H.size n C o (xs (i + 1)) hmc (fun k C2 ho => by have hk := (h2 k C2 ho).1; simpa using hk)) (vx_cwSW 3 (g_hts K) gL_law_L_sweep rfl rfl rfl (by decide +kernel) ⟨Nat.le_of_ble_eq_true rfl, Nat.le_of_ble_eq_true rfl⟩) ⟨g_blind rides_EL, g_pre K (Wd_mid hw) (g_ride rides_EL K (Wd_mid hw))⟩ rfl rfl hl.1 rfl (lv_room (Nat.le_of_ble_eq_true rfl)) dL_law_1002 ⟨by show cells + 1 ≤ 612593; omega, by show slots + 6 ≤ 7258324; omega⟩) (fun r u H locs hp hw => ?_)
  replace hw := Wd_lin hw
  obtain ⟨C2, o2⟩ := u
  have key : R C2 w.2 ∧ w.2.1 0 0 = r ∧ (r = 0 → o2 0 = w.1.toInt64) := by
    rcases hp with ⟨v, C3, ho, hr0, hu⟩ | ⟨k, C3, ho, hr0, hu⟩
    · obtain ⟨a1, a2, a3⟩ := h1 v C3 ho
      cases hu
      exact ⟨a3, a1.trans hr0.symm, fun _ => by rw [upL_0, a2]⟩
    · obtain ⟨a1, a2, a3⟩ := h2 k C3 ho
      cases hu
      refine ⟨a3, a2.trans hr0.symm, fun hz => absurd (hr0.symm.trans hz) ?_⟩
      have a1 : k = 1 := by simpa using a1
      rcases a1 with rfl <;> decide
  obtain ⟨kR, kt, ko⟩ := key
  refine lv_istore (lv' := [(5, .int r), (0, .ref b), (1, .ref (ad 0 0)), (2, .ref (am 0 0)), (3, .ref (oa 0)), (4, .int (nI i))]) hx hb dL_law_1005 hl (by decide) rfl (fun ls hl => ?_)
  refine lv_aload_n hx hb dL_law_1007 rfl (lv_at hl 3 rfl) ?_
  refine lv_aload_n hx hb dL_law_1008 rfl (lv_at hl 1 rfl) ?_
  refine lv_iload hx hb dL_law_1009 (lv_at hl 5 rfl) ?_
  refine lv_iconst (v := nI 1) hx hb dL_law_1011 (by decide) ?_
  refine lv_iadd hx hb dL_law_1012 ?_
  refine va_sld hx hb hX hbl (Nat.not_le.mpr hbl) hw.2.2 (sc_in (i := i) (d := 1) (by omega) hL) dL_law_1013 ?_
  rw [sc_at (i := i) (d := 1) (by omega) hL xs]
  refine f_calli (G1 := []) (G := GM cy am M) (G2 := GH cy ad oa (C2, o2)) (GG := GM cy am) K hw (va_runV (As := [.int (xs (i + 1))]) (rest := []) (g_fix K) (c_X8_sweep l D cy am H.size n M (xs (i + 1)) hmm) (cwV 1 (g_hts K) gL_law_X8_sweep rfl rfl rfl (by decide +kernel) ⟨Nat.le_of_ble_eq_true rfl, Nat.le_of_ble_eq_true rfl⟩) ⟨g_blind rides_none, g_recv K (Wd_mid (G1 := []) (G := GM cy am M) (G2 := GH cy ad oa (C2, o2)) hw) 0 rfl (by decide : 0 < 1) rfl rfl, g_pre (X2 := fun _ _ => True) K (Wd_mid (G1 := []) (G := GM cy am M) (G2 := GH cy ad oa (C2, o2)) hw) (fun _ _ _ => trivial)⟩ rfl rfl hl.1 rfl (lv_room (Nat.le_of_ble_eq_true rfl)) dL_law_1014 ⟨by show cells + 1 + 0 ≤ 612593; omega, by show slots + 6 + 0 ≤ 7258324; omega⟩) (fun r2 u H locs hp hw => ?_)
  replace hw : Wd D (fun q : Nat => s.heap.size ≤ q) s.heap (GM cy am u ++ GH cy ad oa (C2, o2)) H locs := hw
  subst hp
  replace kR : R C2 u := kR
  replace kt : u.1 0 0 = r := kt
  replace ko : r = 0 → o2 0 = r2.toInt64 := ko
  refine lv_istore (lv' := [(6, .int r2), (5, .int r), (0, .ref b), (1, .ref (ad 0 0)), (2, .ref (am 0 0)), (3, .ref (oa 0)), (4, .int (nI i))]) hx hb dL_law_1017 hl (by decide) rfl (fun ls hl => ?_)
  refine lv_aload_n hx hb dL_law_1019 rfl (lv_at hl 4 rfl) ?_
  refine f_calli (G1 := []) (G := GM cy am u) (G2 := GH cy ad oa (C2, o2)) (GG := GM cy am) K hw (va_runV (As := []) (rest := []) (g_fix K) (c_X8_thrown l D cy am H.size n u  (out := u.1 0 0) rfl) (cwV 0 (g_hts K) gL_law_X8_thrown rfl rfl rfl (by decide +kernel) ⟨Nat.le_of_ble_eq_true rfl, Nat.le_of_ble_eq_true rfl⟩) ⟨g_blind rides_none, g_recv K (Wd_mid (G1 := []) (G := GM cy am u) (G2 := GH cy ad oa (C2, o2)) hw) 0 rfl (by decide : 0 < 1) rfl rfl, g_pre (X2 := fun _ _ => True) K (Wd_mid (G1 := []) (G := GM cy am u) (G2 := GH cy ad oa (C2, o2)) hw) (fun _ _ _ => trivial)⟩ rfl rfl hl.1 rfl (lv_room (Nat.le_of_ble_eq_true rfl)) dL_law_1020 ⟨by show cells + 1 + 0 + 0 ≤ 612593; omega, by show slots + 6 + 0 + 0 ≤ 7258324; omega⟩) (fun r3 u3 H locs hp hw => ?_)
  obtain ⟨hp1, hp2⟩ := hp
  rw [hp2] at hw
  replace hw : Wd D (fun q : Nat => s.heap.size ≤ q) s.heap (GM cy am u ++ GH cy ad oa (C2, o2)) H locs := hw
  refine lv_iload hx hb dL_law_1023 (lv_at hl 1 rfl) ?_
  refine lv_icmp_eq (tgt := 1030) hx hb dL_law_1025 (by decide) (fun c1 => ?_) (fun c1 => absurd (hp1.symm.trans kt) c1)
  refine lv_iload hx hb dL_law_1030 (lv_at hl 1 rfl) ?_
  refine lv_if_ne (tgt := 1047) hx hb dL_law_1032 (by decide) (fun c2 => ?_) (fun c2 => ?_)
  · refine lv_goto (tgt := 1224) hx hb dL_law_1047 (by decide) ?_
    refine W.widen (k := cells + 6) (n := slots + 36) (by omega) (by omega) ?_
    exact kk C2 u o2 H locs ls kR hw (lv_sub hl [2, 3, 4, 5, 6] rfl)
  · have c3 : r = 0 := c2
    replace ko := ko c3
    refine lv_aload_n hx hb dL_law_1035 rfl (lv_at hl 5 rfl) ?_
    refine lv_iconst (v := 0) hx hb dL_law_1036 (by decide) ?_
    refine g_lald K hw 58 1 rfl (by decide) rfl rfl (by decide) dL_law_1037 ?_
    have e0 : (C2, o2).snd (Int32.toNatClampNeg 0) = r2.toInt64 := ko
    rw [e0]
    refine lv_iload hx hb dL_law_1038 (lv_at hl 0 rfl) ?_
    refine lv_i2l hx hb dL_law_1040 rfl ?_
    refine W.lcmp hx hb dL_law_1041 ?_
    refine lv_if_eq (tgt := 1047) hx hb dL_law_1042 (by decide) (fun c4 => ?_) (fun c4 => absurd (lgc_self _) c4)
    refine lv_goto (tgt := 1224) hx hb dL_law_1047 (by decide) ?_
    refine W.widen (k := cells + 6) (n := slots + 36) (by omega) (by omega) ?_
    exact kk C2 u o2 H locs ls kR hw (lv_sub hl [2, 3, 4, 5, 6] rfl)
set_option maxRecDepth 100000 in
set_option maxHeartbeats 4000000 in
theorem lc_collect {p : Program} {l : Launch} {e : Env} {s : State} {m : MethodId} {below : List Frame} {meth : Method} {c : Code} (hl9 : l.stackTraces = false) {b L : Nat} {xs : Nat → Int32} (hL : L ≤ 3072) (hX : va_X b L xs s s.heap) (hbl : b < s.heap.size) {D : va_G} {cy : Nat → ClassId} {ad am : Nat → Nat → Nat} {oa : Nat → Nat} (K : Cx p s m #[Value.ref b] meth c D (fun q : Nat => s.heap.size ≤ q) (tysC cy) RL cL_law 7 ret wsL_law EL) {R : CSt → MSt → Prop} {n i : Nat} {C : CSt} {M : MSt} {o : Nat → Int64} (hi : i + 6 ≤ L) (hst : StC R (m_X7_collect n C) (m_X8_collect n M)) {H : Heap} {locs : List Loc} {ls : Array Slot} {cells slots : Nat} {Q : State → Prop} (hce : cells + 6 ≤ 612593) (hsl : slots + 36 ≤ 7258324) (hw : Wd D (fun q : Nat => s.heap.size ≤ q) s.heap (GM cy am M ++ GH cy ad oa (C, o)) H locs) (hl : lv_has ls 7 [(0, .ref b), (1, .ref (ad 0 0)), (2, .ref (am 0 0)), (3, .ref (oa 0)), (4, .int (nI i))]) (kk : ∀ (C2 : CSt) (M2 : MSt) (o2 : Nat → Int64) (H2 : Heap) (locs2 : List Loc) (ls2 : Array Slot), R C2 M2 → Wd D (fun q : Nat => s.heap.size ≤ q) s.heap (GM cy am M2 ++ GH cy ad oa (C2, o2)) H2 locs2 → lv_has ls2 7 [(0, .ref b), (1, .ref (ad 0 0)), (2, .ref (am 0 0)), (3, .ref (oa 0)), (4, .int (nI i))] → W p l e room_1 s m #[Value.ref b] below meth c H2 locs2 (cells + 6) (slots + 36) Q (F0 m 1224 ls2 [])) : W p l e room_1 s m #[Value.ref b] below meth c H locs cells slots Q (F0 m 1050 ls []) := by
  obtain ⟨hx, hb, hml, hown, hts, hr, hlo, hK, hA, hXX⟩ := id K
  obtain ⟨out, w, hmc, hmm, h1, hR⟩ := hst
  refine lv_aload_n hx hb dL_law_1050 rfl (lv_at hl 1 rfl) ?_
  refine f_calli (G1 := GM cy am M) (G := GC cy ad C) (G2 := og cy oa o) (GG := GC cy ad) K hw (va_runV (As := []) (rest := []) (g_fix K) (c_X7_collect l D cy ad H.size n C hmc) (cwV 0 (g_hts K) gL_law_X7_collect rfl rfl rfl (by decide +kernel) ⟨Nat.le_of_ble_eq_true rfl, Nat.le_of_ble_eq_true rfl⟩) ⟨g_blind rides_none, g_recv K (Wd_mid (G1 := GM cy am M) (G := GC cy ad C) (G2 := og cy oa o) hw) 0 rfl (by decide : 0 < 1) rfl rfl, g_pre (X2 := fun _ _ => True) K (Wd_mid (G1 := GM cy am M) (G := GC cy ad C) (G2 := og cy oa o) hw) (fun _ _ _ => trivial)⟩ rfl rfl hl.1 rfl (lv_room (Nat.le_of_ble_eq_true rfl)) dL_law_1051 ⟨by show cells + 0 ≤ 612593; omega, by show slots + 0 ≤ 7258324; omega⟩) (fun r u H locs hp hw => ?_)
  subst hp
  replace hw : Wd D (fun q : Nat => s.heap.size ≤ q) s.heap (GM cy am M ++ GH cy ad oa (u, o)) H locs := hw
  refine lv_aload_n hx hb dL_law_1054 rfl (lv_at hl 2 rfl) ?_
  refine f_calli (G1 := []) (G := GM cy am M) (G2 := GH cy ad oa (u, o)) (GG := GM cy am) K hw (va_runV (As := []) (rest := [.int r]) (g_fix K) (c_X8_collect l D cy am H.size n M  hmm) (cwV 0 (g_hts K) gL_law_X8_collect rfl rfl rfl (by decide +kernel) ⟨Nat.le_of_ble_eq_true rfl, Nat.le_of_ble_eq_true rfl⟩) ⟨g_blind rides_none, g_recv K (Wd_mid (G1 := []) (G := GM cy am M) (G2 := GH cy ad oa (u, o)) hw) 0 rfl (by decide : 0 < 1) rfl rfl, g_pre (X2 := fun _ _ => True) K (Wd_mid (G1 := []) (G := GM cy am M) (G2 := GH cy ad oa (u, o)) hw) (fun _ _ _ => trivial)⟩ rfl rfl hl.1 rfl (lv_room (Nat.le_of_ble_eq_true rfl)) dL_law_1055 ⟨by show cells + 0 + 0 ≤ 612593; omega, by show slots + 0 + 0 ≤ 7258324; omega⟩) (fun r2 u2 H locs hp hw => ?_)
  subst hp
  refine lv_icmp_eq (tgt := 1224) hx hb dL_law_1058 (by decide) (fun c1 => ?_) (fun c1 => absurd h1 c1)
  refine W.widen (k := cells + 6) (n := slots + 36) (by omega) (by omega) ?_
  exact kk _ u2 o H locs ls hR hw hl
set_option maxRecDepth 100000 in
set_option maxHeartbeats 4000000 in
theorem lc_about {p : Program} {l : Launch} {e : Env} {s : State} {m : MethodId} {below : List Frame} {meth : Method} {c : Code} (hl9 : l.stackTraces = false) {b L : Nat} {xs : Nat → Int32} (hL : L ≤ 3072) (hX : va_X b L xs s s.heap) (hbl : b < s.heap.size) {D : va_G} {cy : Nat → ClassId} {ad am : Nat → Nat → Nat} {oa : Nat → Nat} (K : Cx p s m #[Value.ref b] meth c D (fun q : Nat => s.heap.size ≤ q) (tysC cy) RL cL_law 7 ret wsL_law EL) {R : CSt → MSt → Prop} {n i : Nat} {C : CSt} {M : MSt} {o : Nat → Int64} (hi : i + 6 ≤ L) (hst : StP [1] cm_about R C (m_X7_about n C (xs (i + 1)) (xs (i + 2))) (m_X8_about n M (xs (i + 1)) (xs (i + 2)))) {H : Heap} {locs : List Loc} {ls : Array Slot} {cells slots : Nat} {Q : State → Prop} (hce : cells + 6 ≤ 612593) (hsl : slots + 36 ≤ 7258324) (hw : Wd D (fun q : Nat => s.heap.size ≤ q) s.heap (GM cy am M ++ GH cy ad oa (C, o)) H locs) (hl : lv_has ls 7 [(0, .ref b), (1, .ref (ad 0 0)), (2, .ref (am 0 0)), (3, .ref (oa 0)), (4, .int (nI i))]) (kk : ∀ (C2 : CSt) (M2 : MSt) (o2 : Nat → Int64) (H2 : Heap) (locs2 : List Loc) (ls2 : Array Slot), R C2 M2 → Wd D (fun q : Nat => s.heap.size ≤ q) s.heap (GM cy am M2 ++ GH cy ad oa (C2, o2)) H2 locs2 → lv_has ls2 7 [(0, .ref b), (1, .ref (ad 0 0)), (2, .ref (am 0 0)), (3, .ref (oa 0)), (4, .int (nI i))] → W p l e room_1 s m #[Value.ref b] below meth c H2 locs2 (cells + 6) (slots + 36) Q (F0 m 1224 ls2 [])) : W p l e room_1 s m #[Value.ref b] below meth c H locs cells slots Q (F0 m 1063 ls []) := by
  obtain ⟨hx, hb, hml, hown, hts, hr, hlo, hK, hA, hXX⟩ := id K
  obtain ⟨out, w, hmc, hmm, h1, h2⟩ := hst
  refine lv_aload_n hx hb dL_law_1063 rfl (lv_at hl 1 rfl) ?_
  refine lv_aload_n hx hb dL_law_1064 rfl (lv_at hl 0 rfl) ?_
  refine lv_iload hx hb dL_law_1065 (lv_at hl 4 rfl) ?_
  refine lv_iconst (v := nI 1) hx hb dL_law_1067 (by decide) ?_
  refine lv_iadd hx hb dL_law_1068 ?_
  refine va_sld hx hb hX hbl (Nat.not_le.mpr hbl) hw.2.2 (sc_in (i := i) (d := 1) (by omega) hL) dL_law_1069 ?_
  rw [sc_at (i := i) (d := 1) (by omega) hL xs]
  refine lv_aload_n hx hb dL_law_1070 rfl (lv_at hl 0 rfl) ?_
  refine lv_iload hx hb dL_law_1071 (lv_at hl 4 rfl) ?_
  refine lv_iconst (v := nI 2) hx hb dL_law_1073 (by decide) ?_
  refine lv_iadd hx hb dL_law_1074 ?_
  refine va_sld hx hb hX hbl (Nat.not_le.mpr hbl) hw.2.2 (sc_in (i := i) (d := 2) (by omega) hL) dL_law_1075 ?_
  rw [sc_at (i := i) (d := 2) (by omega) hL xs]
  refine lv_aload_n hx hb dL_law_1076 rfl (lv_at hl 3 rfl) ?_
  have hw := Wd_nil hw
  refine f_calli (G1 := GM cy am M) (G := GH cy ad oa (C, o)) (G2 := []) (GG := GH cy ad oa) K hw (vx_runSW (As := [.ref (ad 0 0), .int (xs (i + 1)), .int (xs (i + 2)), .ref (oa 0)]) (rest := []) (g_fix K) (h_about l hl9 D cy ad oa H.size n C o (xs (i + 1)) (xs (i + 2)) hmc (fun k C2 ho => by have hk := (h2 k C2 ho).1; simpa using hk)) (vx_cwSW 4 (g_hts K) gL_law_L_about rfl rfl rfl (by decide +kernel) ⟨Nat.le_of_ble_eq_true rfl, Nat.le_of_ble_eq_true rfl⟩) ⟨g_blind rides_EL, g_pre K (Wd_mid hw) (g_ride rides_EL K (Wd_mid hw))⟩ rfl rfl hl.1 rfl (lv_room (Nat.le_of_ble_eq_true rfl)) dL_law_1077 ⟨by show cells + 2 ≤ 612593; omega, by show slots + 12 ≤ 7258324; omega⟩) (fun r u H locs hp hw => ?_)
  replace hw := Wd_lin hw
  obtain ⟨C2, o2⟩ := u
  have key : R C2 w.2 ∧ w.2.1 0 0 = r ∧ (r = 0 → o2 0 = w.1.toInt64) := by
    rcases hp with ⟨v, ho, hr0, hu⟩ | ⟨k, C3, ho, hr0, hu⟩
    · obtain ⟨a1, a2, a3⟩ := h1 v ho
      cases hu
      exact ⟨a3, a1.trans hr0.symm, fun _ => by rw [upL_0, a2]⟩
    · obtain ⟨a1, a2, a3⟩ := h2 k C3 ho
      cases hu
      refine ⟨a3, a2.trans hr0.symm, fun hz => absurd (hr0.symm.trans hz) ?_⟩
      have a1 : k = 1 := by simpa using a1
      rcases a1 with rfl <;> decide
  obtain ⟨kR, kt, ko⟩ := key
  refine lv_istore (lv' := [(5, .int r), (0, .ref b), (1, .ref (ad 0 0)), (2, .ref (am 0 0)), (3, .ref (oa 0)), (4, .int (nI i))]) hx hb dL_law_1080 hl (by decide) rfl (fun ls hl => ?_)
  refine lv_aload_n hx hb dL_law_1082 rfl (lv_at hl 3 rfl) ?_
  refine lv_aload_n hx hb dL_law_1083 rfl (lv_at hl 1 rfl) ?_
  refine lv_iload hx hb dL_law_1084 (lv_at hl 5 rfl) ?_
  refine lv_iconst (v := nI 1) hx hb dL_law_1086 (by decide) ?_
  refine lv_iadd hx hb dL_law_1087 ?_
  refine va_sld hx hb hX hbl (Nat.not_le.mpr hbl) hw.2.2 (sc_in (i := i) (d := 1) (by omega) hL) dL_law_1088 ?_
  rw [sc_at (i := i) (d := 1) (by omega) hL xs]
  refine lv_aload_n hx hb dL_law_1089 rfl (lv_at hl 1 rfl) ?_
  refine lv_iload hx hb dL_law_1090 (lv_at hl 5 rfl) ?_
  refine lv_iconst (v := nI 2) hx hb dL_law_1092 (by decide) ?_
  refine lv_iadd hx hb dL_law_1093 ?_
  refine va_sld hx hb hX hbl (Nat.not_le.mpr hbl) hw.2.2 (sc_in (i := i) (d := 2) (by omega) hL) dL_law_1094 ?_
  rw [sc_at (i := i) (d := 2) (by omega) hL xs]
  refine f_calli (G1 := []) (G := GM cy am M) (G2 := GH cy ad oa (C2, o2)) (GG := GM cy am) K hw (va_runV (As := [.int (xs (i + 1)), .int (xs (i + 2))]) (rest := []) (g_fix K) (c_X8_about l D cy am H.size n M (xs (i + 1)) (xs (i + 2)) hmm) (cwV 2 (g_hts K) gL_law_X8_about rfl rfl rfl (by decide +kernel) ⟨Nat.le_of_ble_eq_true rfl, Nat.le_of_ble_eq_true rfl⟩) ⟨g_blind rides_none, g_recv K (Wd_mid (G1 := []) (G := GM cy am M) (G2 := GH cy ad oa (C2, o2)) hw) 0 rfl (by decide : 0 < 1) rfl rfl, g_pre (X2 := fun _ _ => True) K (Wd_mid (G1 := []) (G := GM cy am M) (G2 := GH cy ad oa (C2, o2)) hw) (fun _ _ _ => trivial)⟩ rfl rfl hl.1 rfl (lv_room (Nat.le_of_ble_eq_true rfl)) dL_law_1095 ⟨by show cells + 2 + 0 ≤ 612593; omega, by show slots + 12 + 0 ≤ 7258324; omega⟩) (fun r2 u H locs hp hw => ?_)
  replace hw : Wd D (fun q : Nat => s.heap.size ≤ q) s.heap (GM cy am u ++ GH cy ad oa (C2, o2)) H locs := hw
  subst hp
  replace kR : R C2 u := kR
  replace kt : u.1 0 0 = r := kt
  replace ko : r = 0 → o2 0 = r2.toInt64 := ko
  refine lv_istore (lv' := [(6, .int r2), (5, .int r), (0, .ref b), (1, .ref (ad 0 0)), (2, .ref (am 0 0)), (3, .ref (oa 0)), (4, .int (nI i))]) hx hb dL_law_1098 hl (by decide) rfl (fun ls hl => ?_)
  refine lv_aload_n hx hb dL_law_1100 rfl (lv_at hl 4 rfl) ?_
  refine f_calli (G1 := []) (G := GM cy am u) (G2 := GH cy ad oa (C2, o2)) (GG := GM cy am) K hw (va_runV (As := []) (rest := []) (g_fix K) (c_X8_thrown l D cy am H.size n u  (out := u.1 0 0) rfl) (cwV 0 (g_hts K) gL_law_X8_thrown rfl rfl rfl (by decide +kernel) ⟨Nat.le_of_ble_eq_true rfl, Nat.le_of_ble_eq_true rfl⟩) ⟨g_blind rides_none, g_recv K (Wd_mid (G1 := []) (G := GM cy am u) (G2 := GH cy ad oa (C2, o2)) hw) 0 rfl (by decide : 0 < 1) rfl rfl, g_pre (X2 := fun _ _ => True) K (Wd_mid (G1 := []) (G := GM cy am u) (G2 := GH cy ad oa (C2, o2)) hw) (fun _ _ _ => trivial)⟩ rfl rfl hl.1 rfl (lv_room (Nat.le_of_ble_eq_true rfl)) dL_law_1101 ⟨by show cells + 2 + 0 + 0 ≤ 612593; omega, by show slots + 12 + 0 + 0 ≤ 7258324; omega⟩) (fun r3 u3 H locs hp hw => ?_)
  obtain ⟨hp1, hp2⟩ := hp
  rw [hp2] at hw
  replace hw : Wd D (fun q : Nat => s.heap.size ≤ q) s.heap (GM cy am u ++ GH cy ad oa (C2, o2)) H locs := hw
  refine lv_iload hx hb dL_law_1104 (lv_at hl 1 rfl) ?_
  refine lv_icmp_eq (tgt := 1111) hx hb dL_law_1106 (by decide) (fun c1 => ?_) (fun c1 => absurd (hp1.symm.trans kt) c1)
  refine lv_iload hx hb dL_law_1111 (lv_at hl 1 rfl) ?_
  refine lv_if_ne (tgt := 1128) hx hb dL_law_1113 (by decide) (fun c2 => ?_) (fun c2 => ?_)
  · refine lv_goto (tgt := 1224) hx hb dL_law_1128 (by decide) ?_
    refine W.widen (k := cells + 6) (n := slots + 36) (by omega) (by omega) ?_
    exact kk C2 u o2 H locs ls kR hw (lv_sub hl [2, 3, 4, 5, 6] rfl)
  · have c3 : r = 0 := c2
    replace ko := ko c3
    refine lv_aload_n hx hb dL_law_1116 rfl (lv_at hl 5 rfl) ?_
    refine lv_iconst (v := 0) hx hb dL_law_1117 (by decide) ?_
    refine g_lald K hw 58 1 rfl (by decide) rfl rfl (by decide) dL_law_1118 ?_
    have e0 : (C2, o2).snd (Int32.toNatClampNeg 0) = r2.toInt64 := ko
    rw [e0]
    refine lv_iload hx hb dL_law_1119 (lv_at hl 0 rfl) ?_
    refine lv_i2l hx hb dL_law_1121 rfl ?_
    refine W.lcmp hx hb dL_law_1122 ?_
    refine lv_if_eq (tgt := 1128) hx hb dL_law_1123 (by decide) (fun c4 => ?_) (fun c4 => absurd (lgc_self _) c4)
    refine lv_goto (tgt := 1224) hx hb dL_law_1128 (by decide) ?_
    refine W.widen (k := cells + 6) (n := slots + 36) (by omega) (by omega) ?_
    exact kk C2 u o2 H locs ls kR hw (lv_sub hl [2, 3, 4, 5, 6] rfl)
set_option maxRecDepth 100000 in
set_option maxHeartbeats 4000000 in
theorem lc_field {p : Program} {l : Launch} {e : Env} {s : State} {m : MethodId} {below : List Frame} {meth : Method} {c : Code} (hl9 : l.stackTraces = false) {b L : Nat} {xs : Nat → Int32} (hL : L ≤ 3072) (hX : va_X b L xs s s.heap) (hbl : b < s.heap.size) {D : va_G} {cy : Nat → ClassId} {ad am : Nat → Nat → Nat} {oa : Nat → Nat} (K : Cx p s m #[Value.ref b] meth c D (fun q : Nat => s.heap.size ≤ q) (tysC cy) RL cL_law 7 ret wsL_law EL) {R : CSt → MSt → Prop} {n i : Nat} {C : CSt} {M : MSt} {o : Nat → Int64} (hi : i + 6 ≤ L) (hst : StP [1, 4] cm_field R C (m_X7_field n C (xs (i + 1)) (xs (i + 2)) (xs (i + 3))) (m_X8_field n M (xs (i + 1)) (xs (i + 2)) (xs (i + 3)))) {H : Heap} {locs : List Loc} {ls : Array Slot} {cells slots : Nat} {Q : State → Prop} (hce : cells + 6 ≤ 612593) (hsl : slots + 36 ≤ 7258324) (hw : Wd D (fun q : Nat => s.heap.size ≤ q) s.heap (GM cy am M ++ GH cy ad oa (C, o)) H locs) (hl : lv_has ls 7 [(0, .ref b), (1, .ref (ad 0 0)), (2, .ref (am 0 0)), (3, .ref (oa 0)), (4, .int (nI i))]) (kk : ∀ (C2 : CSt) (M2 : MSt) (o2 : Nat → Int64) (H2 : Heap) (locs2 : List Loc) (ls2 : Array Slot), R C2 M2 → Wd D (fun q : Nat => s.heap.size ≤ q) s.heap (GM cy am M2 ++ GH cy ad oa (C2, o2)) H2 locs2 → lv_has ls2 7 [(0, .ref b), (1, .ref (ad 0 0)), (2, .ref (am 0 0)), (3, .ref (oa 0)), (4, .int (nI i))] → W p l e room_1 s m #[Value.ref b] below meth c H2 locs2 (cells + 6) (slots + 36) Q (F0 m 1224 ls2 [])) : W p l e room_1 s m #[Value.ref b] below meth c H locs cells slots Q (F0 m 1131 ls []) := by
  obtain ⟨hx, hb, hml, hown, hts, hr, hlo, hK, hA, hXX⟩ := id K
  obtain ⟨out, w, hmc, hmm, h1, h2⟩ := hst
  refine lv_aload_n hx hb dL_law_1131 rfl (lv_at hl 1 rfl) ?_
  refine lv_aload_n hx hb dL_law_1132 rfl (lv_at hl 0 rfl) ?_
  refine lv_iload hx hb dL_law_1133 (lv_at hl 4 rfl) ?_
  refine lv_iconst (v := nI 1) hx hb dL_law_1135 (by decide) ?_
  refine lv_iadd hx hb dL_law_1136 ?_
  refine va_sld hx hb hX hbl (Nat.not_le.mpr hbl) hw.2.2 (sc_in (i := i) (d := 1) (by omega) hL) dL_law_1137 ?_
  rw [sc_at (i := i) (d := 1) (by omega) hL xs]
  refine lv_aload_n hx hb dL_law_1138 rfl (lv_at hl 0 rfl) ?_
  refine lv_iload hx hb dL_law_1139 (lv_at hl 4 rfl) ?_
  refine lv_iconst (v := nI 2) hx hb dL_law_1141 (by decide) ?_
  refine lv_iadd hx hb dL_law_1142 ?_
  refine va_sld hx hb hX hbl (Nat.not_le.mpr hbl) hw.2.2 (sc_in (i := i) (d := 2) (by omega) hL) dL_law_1143 ?_
  rw [sc_at (i := i) (d := 2) (by omega) hL xs]
  refine lv_aload_n hx hb dL_law_1144 rfl (lv_at hl 0 rfl) ?_
  refine lv_iload hx hb dL_law_1145 (lv_at hl 4 rfl) ?_
  refine lv_iconst (v := nI 3) hx hb dL_law_1147 (by decide) ?_
  refine lv_iadd hx hb dL_law_1148 ?_
  refine va_sld hx hb hX hbl (Nat.not_le.mpr hbl) hw.2.2 (sc_in (i := i) (d := 3) (by omega) hL) dL_law_1149 ?_
  rw [sc_at (i := i) (d := 3) (by omega) hL xs]
  refine lv_aload_n hx hb dL_law_1150 rfl (lv_at hl 3 rfl) ?_
  have hw := Wd_nil hw
  refine f_calli (G1 := GM cy am M) (G := GH cy ad oa (C, o)) (G2 := []) (GG := GH cy ad oa) K hw (vx_runSW (As := [.ref (ad 0 0), .int (xs (i + 1)), .int (xs (i + 2)), .int (xs (i + 3)), .ref (oa 0)]) (rest := []) (g_fix K) (h_field l hl9 D cy ad oa H.size n C o (xs (i + 1)) (xs (i + 2)) (xs (i + 3)) hmc (fun k C2 ho => by have hk := (h2 k C2 ho).1; simpa using hk)) (vx_cwSW 5 (g_hts K) gL_law_L_field rfl rfl rfl (by decide +kernel) ⟨Nat.le_of_ble_eq_true rfl, Nat.le_of_ble_eq_true rfl⟩) ⟨g_blind rides_EL, g_pre K (Wd_mid hw) (g_ride rides_EL K (Wd_mid hw))⟩ rfl rfl hl.1 rfl (lv_room (Nat.le_of_ble_eq_true rfl)) dL_law_1151 ⟨by show cells + 2 ≤ 612593; omega, by show slots + 12 ≤ 7258324; omega⟩) (fun r u H locs hp hw => ?_)
  replace hw := Wd_lin hw
  obtain ⟨C2, o2⟩ := u
  have key : R C2 w.2 ∧ w.2.1 0 0 = r ∧ (r = 0 → o2 0 = w.1.toInt64) := by
    rcases hp with ⟨v, ho, hr0, hu⟩ | ⟨k, C3, ho, hr0, hu⟩
    · obtain ⟨a1, a2, a3⟩ := h1 v ho
      cases hu
      exact ⟨a3, a1.trans hr0.symm, fun _ => by rw [upL_0, a2]⟩
    · obtain ⟨a1, a2, a3⟩ := h2 k C3 ho
      cases hu
      refine ⟨a3, a2.trans hr0.symm, fun hz => absurd (hr0.symm.trans hz) ?_⟩
      have a1 : k = 1 ∨ k = 4 := by simpa using a1
      rcases a1 with rfl | rfl <;> decide
  obtain ⟨kR, kt, ko⟩ := key
  refine lv_istore (lv' := [(5, .int r), (0, .ref b), (1, .ref (ad 0 0)), (2, .ref (am 0 0)), (3, .ref (oa 0)), (4, .int (nI i))]) hx hb dL_law_1154 hl (by decide) rfl (fun ls hl => ?_)
  refine lv_aload_n hx hb dL_law_1156 rfl (lv_at hl 3 rfl) ?_
  refine lv_aload_n hx hb dL_law_1157 rfl (lv_at hl 1 rfl) ?_
  refine lv_iload hx hb dL_law_1158 (lv_at hl 5 rfl) ?_
  refine lv_iconst (v := nI 1) hx hb dL_law_1160 (by decide) ?_
  refine lv_iadd hx hb dL_law_1161 ?_
  refine va_sld hx hb hX hbl (Nat.not_le.mpr hbl) hw.2.2 (sc_in (i := i) (d := 1) (by omega) hL) dL_law_1162 ?_
  rw [sc_at (i := i) (d := 1) (by omega) hL xs]
  refine lv_aload_n hx hb dL_law_1163 rfl (lv_at hl 1 rfl) ?_
  refine lv_iload hx hb dL_law_1164 (lv_at hl 5 rfl) ?_
  refine lv_iconst (v := nI 2) hx hb dL_law_1166 (by decide) ?_
  refine lv_iadd hx hb dL_law_1167 ?_
  refine va_sld hx hb hX hbl (Nat.not_le.mpr hbl) hw.2.2 (sc_in (i := i) (d := 2) (by omega) hL) dL_law_1168 ?_
  rw [sc_at (i := i) (d := 2) (by omega) hL xs]
  refine lv_aload_n hx hb dL_law_1169 rfl (lv_at hl 1 rfl) ?_
  refine lv_iload hx hb dL_law_1170 (lv_at hl 5 rfl) ?_
  refine lv_iconst (v := nI 3) hx hb dL_law_1172 (by decide) ?_
  refine lv_iadd hx hb dL_law_1173 ?_
  refine va_sld hx hb hX hbl (Nat.not_le.mpr hbl) hw.2.2 (sc_in (i := i) (d := 3) (by omega) hL) dL_law_1174 ?_
  rw [sc_at (i := i) (d := 3) (by omega) hL xs]
  refine f_calli (G1 := []) (G := GM cy am M) (G2 := GH cy ad oa (C2, o2)) (GG := GM cy am) K hw (va_runV (As := [.int (xs (i + 1)), .int (xs (i + 2)), .int (xs (i + 3))]) (rest := []) (g_fix K) (c_X8_field l D cy am H.size n M (xs (i + 1)) (xs (i + 2)) (xs (i + 3)) hmm) (cwV 3 (g_hts K) gL_law_X8_field rfl rfl rfl (by decide +kernel) ⟨Nat.le_of_ble_eq_true rfl, Nat.le_of_ble_eq_true rfl⟩) ⟨g_blind rides_none, g_recv K (Wd_mid (G1 := []) (G := GM cy am M) (G2 := GH cy ad oa (C2, o2)) hw) 0 rfl (by decide : 0 < 1) rfl rfl, g_pre (X2 := fun _ _ => True) K (Wd_mid (G1 := []) (G := GM cy am M) (G2 := GH cy ad oa (C2, o2)) hw) (fun _ _ _ => trivial)⟩ rfl rfl hl.1 rfl (lv_room (Nat.le_of_ble_eq_true rfl)) dL_law_1175 ⟨by show cells + 2 + 0 ≤ 612593; omega, by show slots + 12 + 0 ≤ 7258324; omega⟩) (fun r2 u H locs hp hw => ?_)
  replace hw : Wd D (fun q : Nat => s.heap.size ≤ q) s.heap (GM cy am u ++ GH cy ad oa (C2, o2)) H locs := hw
  subst hp
  replace kR : R C2 u := kR
  replace kt : u.1 0 0 = r := kt
  replace ko : r = 0 → o2 0 = r2.toInt64 := ko
  refine lv_istore (lv' := [(6, .int r2), (5, .int r), (0, .ref b), (1, .ref (ad 0 0)), (2, .ref (am 0 0)), (3, .ref (oa 0)), (4, .int (nI i))]) hx hb dL_law_1178 hl (by decide) rfl (fun ls hl => ?_)
  refine lv_aload_n hx hb dL_law_1180 rfl (lv_at hl 4 rfl) ?_
  refine f_calli (G1 := []) (G := GM cy am u) (G2 := GH cy ad oa (C2, o2)) (GG := GM cy am) K hw (va_runV (As := []) (rest := []) (g_fix K) (c_X8_thrown l D cy am H.size n u  (out := u.1 0 0) rfl) (cwV 0 (g_hts K) gL_law_X8_thrown rfl rfl rfl (by decide +kernel) ⟨Nat.le_of_ble_eq_true rfl, Nat.le_of_ble_eq_true rfl⟩) ⟨g_blind rides_none, g_recv K (Wd_mid (G1 := []) (G := GM cy am u) (G2 := GH cy ad oa (C2, o2)) hw) 0 rfl (by decide : 0 < 1) rfl rfl, g_pre (X2 := fun _ _ => True) K (Wd_mid (G1 := []) (G := GM cy am u) (G2 := GH cy ad oa (C2, o2)) hw) (fun _ _ _ => trivial)⟩ rfl rfl hl.1 rfl (lv_room (Nat.le_of_ble_eq_true rfl)) dL_law_1181 ⟨by show cells + 2 + 0 + 0 ≤ 612593; omega, by show slots + 12 + 0 + 0 ≤ 7258324; omega⟩) (fun r3 u3 H locs hp hw => ?_)
  obtain ⟨hp1, hp2⟩ := hp
  rw [hp2] at hw
  replace hw : Wd D (fun q : Nat => s.heap.size ≤ q) s.heap (GM cy am u ++ GH cy ad oa (C2, o2)) H locs := hw
  refine lv_iload hx hb dL_law_1184 (lv_at hl 1 rfl) ?_
  refine lv_icmp_eq (tgt := 1191) hx hb dL_law_1186 (by decide) (fun c1 => ?_) (fun c1 => absurd (hp1.symm.trans kt) c1)
  refine lv_iload hx hb dL_law_1191 (lv_at hl 1 rfl) ?_
  refine lv_if_ne (tgt := 1208) hx hb dL_law_1193 (by decide) (fun c2 => ?_) (fun c2 => ?_)
  · refine lv_goto (tgt := 1224) hx hb dL_law_1208 (by decide) ?_
    refine W.widen (k := cells + 6) (n := slots + 36) (by omega) (by omega) ?_
    exact kk C2 u o2 H locs ls kR hw (lv_sub hl [2, 3, 4, 5, 6] rfl)
  · have c3 : r = 0 := c2
    replace ko := ko c3
    refine lv_aload_n hx hb dL_law_1196 rfl (lv_at hl 5 rfl) ?_
    refine lv_iconst (v := 0) hx hb dL_law_1197 (by decide) ?_
    refine g_lald K hw 58 1 rfl (by decide) rfl rfl (by decide) dL_law_1198 ?_
    have e0 : (C2, o2).snd (Int32.toNatClampNeg 0) = r2.toInt64 := ko
    rw [e0]
    refine lv_iload hx hb dL_law_1199 (lv_at hl 0 rfl) ?_
    refine lv_i2l hx hb dL_law_1201 rfl ?_
    refine W.lcmp hx hb dL_law_1202 ?_
    refine lv_if_eq (tgt := 1208) hx hb dL_law_1203 (by decide) (fun c4 => ?_) (fun c4 => absurd (lgc_self _) c4)
    refine lv_goto (tgt := 1224) hx hb dL_law_1208 (by decide) ?_
    refine W.widen (k := cells + 6) (n := slots + 36) (by omega) (by omega) ?_
    exact kk C2 u o2 H locs ls kR hw (lv_sub hl [2, 3, 4, 5, 6] rfl)
set_option maxRecDepth 100000 in
set_option maxHeartbeats 4000000 in
theorem lc_fault {p : Program} {l : Launch} {e : Env} {s : State} {m : MethodId} {below : List Frame} {meth : Method} {c : Code} (hl9 : l.stackTraces = false) {b L : Nat} {xs : Nat → Int32} (hL : L ≤ 3072) (hX : va_X b L xs s s.heap) (hbl : b < s.heap.size) {D : va_G} {cy : Nat → ClassId} {ad am : Nat → Nat → Nat} {oa : Nat → Nat} (K : Cx p s m #[Value.ref b] meth c D (fun q : Nat => s.heap.size ≤ q) (tysC cy) RL cL_law 7 ret wsL_law EL) {R : CSt → MSt → Prop} {n i : Nat} {C : CSt} {M : MSt} {o : Nat → Int64} (hi : i + 6 ≤ L) (hst : StF R C (m_X7_fault n C) (m_X8_fault n M)) {H : Heap} {locs : List Loc} {ls : Array Slot} {cells slots : Nat} {Q : State → Prop} (hce : cells + 6 ≤ 612593) (hsl : slots + 36 ≤ 7258324) (hw : Wd D (fun q : Nat => s.heap.size ≤ q) s.heap (GM cy am M ++ GH cy ad oa (C, o)) H locs) (hl : lv_has ls 7 [(0, .ref b), (1, .ref (ad 0 0)), (2, .ref (am 0 0)), (3, .ref (oa 0)), (4, .int (nI i))]) (kk : ∀ (C2 : CSt) (M2 : MSt) (o2 : Nat → Int64) (H2 : Heap) (locs2 : List Loc) (ls2 : Array Slot), R C2 M2 → Wd D (fun q : Nat => s.heap.size ≤ q) s.heap (GM cy am M2 ++ GH cy ad oa (C2, o2)) H2 locs2 → lv_has ls2 7 [(0, .ref b), (1, .ref (ad 0 0)), (2, .ref (am 0 0)), (3, .ref (oa 0)), (4, .int (nI i))] → W p l e room_1 s m #[Value.ref b] below meth c H2 locs2 (cells + 6) (slots + 36) Q (F0 m 1224 ls2 [])) : W p l e room_1 s m #[Value.ref b] below meth c H locs cells slots Q (F0 m 1211 ls []) := by
  obtain ⟨hx, hb, hml, hown, hts, hr, hlo, hK, hA, hXX⟩ := id K
  obtain ⟨out, w, hmc, hmm, h1, hR⟩ := hst
  refine lv_aload_n hx hb dL_law_1211 rfl (lv_at hl 1 rfl) ?_
  refine f_calli (G1 := GM cy am M) (G := GC cy ad C) (G2 := og cy oa o) (GG := GC cy ad) K hw (va_runV (As := []) (rest := []) (g_fix K) (c_X7_fault l D cy ad H.size n C hmc) (cwV 0 (g_hts K) gL_law_X7_fault rfl rfl rfl (by decide +kernel) ⟨Nat.le_of_ble_eq_true rfl, Nat.le_of_ble_eq_true rfl⟩) ⟨g_blind rides_none, g_recv K (Wd_mid (G1 := GM cy am M) (G := GC cy ad C) (G2 := og cy oa o) hw) 0 rfl (by decide : 0 < 1) rfl rfl, g_pre (X2 := fun _ _ => True) K (Wd_mid (G1 := GM cy am M) (G := GC cy ad C) (G2 := og cy oa o) hw) (fun _ _ _ => trivial)⟩ rfl rfl hl.1 rfl (lv_room (Nat.le_of_ble_eq_true rfl)) dL_law_1212 ⟨by show cells + 0 ≤ 612593; omega, by show slots + 0 ≤ 7258324; omega⟩) (fun r u H locs hp hw => ?_)
  obtain ⟨hp1, hp2⟩ := hp
  rw [hp2] at hw
  subst hp1
  replace hw : Wd D (fun q : Nat => s.heap.size ≤ q) s.heap (GM cy am M ++ GH cy ad oa (C, o)) H locs := hw
  refine lv_aload_n hx hb dL_law_1215 rfl (lv_at hl 2 rfl) ?_
  refine f_calli (G1 := []) (G := GM cy am M) (G2 := GH cy ad oa (C, o)) (GG := GM cy am) K hw (va_runV (As := []) (rest := [.int out]) (g_fix K) (c_X8_fault l D cy am H.size n M  hmm) (cwV 0 (g_hts K) gL_law_X8_fault rfl rfl rfl (by decide +kernel) ⟨Nat.le_of_ble_eq_true rfl, Nat.le_of_ble_eq_true rfl⟩) ⟨g_blind rides_none, g_recv K (Wd_mid (G1 := []) (G := GM cy am M) (G2 := GH cy ad oa (C, o)) hw) 0 rfl (by decide : 0 < 1) rfl rfl, g_pre (X2 := fun _ _ => True) K (Wd_mid (G1 := []) (G := GM cy am M) (G2 := GH cy ad oa (C, o)) hw) (fun _ _ _ => trivial)⟩ rfl rfl hl.1 rfl (lv_room (Nat.le_of_ble_eq_true rfl)) dL_law_1216 ⟨by show cells + 0 + 0 ≤ 612593; omega, by show slots + 0 + 0 ≤ 7258324; omega⟩) (fun r2 u2 H locs hp hw => ?_)
  subst hp
  refine lv_icmp_eq (tgt := 1224) hx hb dL_law_1219 (by decide) (fun c1 => ?_) (fun c1 => absurd h1 c1)
  refine W.widen (k := cells + 6) (n := slots + 36) (by omega) (by omega) ?_
  exact kk _ u2 o H locs ls hR hw hl
