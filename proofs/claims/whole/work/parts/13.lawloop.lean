/-! ===== the law's loop ===== -/
def R_law : String := "MigrantHeapLaw"
def lw_P (b : Addr) (xs : List Int32) (args : Array Value) (s : State) : Prop := args = #[.ref b] ∧ s.IntsAt b xs ∧ xs.length ≤ 3072 ∧ (Jvm.Cond.and given_1 narrow_1).before args s = true
def lw_Q (_ : Array Value) (s : State) (o : Outcome) (t : State) : Prop := o = .returned (some (.int 1)) ∧ Framed s o t [] 612593 7258324
def lw_Z (below : List Frame) (a : Array Value) (s : State) : State → Prop := fun t => ∃ o, t.status = .running ∧ Ended t below o ∧ lw_Q a s o t
/-- the law's own end, with 1 on the stack, nothing written that was there before, its room as the claim has it -/
theorem lw_ret {p : Program} {l : Launch} {e : Env} {s : State} {m : MethodId} {below : List Frame} {meth : Method} {c : Code} {b : Nat} (hx : p.tables.exec = Jvm.exec) (hb : c.code = code) (hr : meth.sig.returnType = ret) (hlocks : meth.locks = false) {pc : Nat} {H : Heap} {ls : Array Slot} (hdg : decode code pc = .ok (.ireturn, 1)) : W p l e room_1 s m #[Value.ref b] below meth c H [] 612593 7258324 (lw_Z below #[Value.ref b] s) (F0 m pc ls [.int 1]) := by
  intro T hT X
  obtain ⟨fs, hret, hrun, hended, hW, hframe⟩ := X.leave (v := some (.int 1)) (hlocks := hlocks) (fun h => by rw [hr] at h; cases h)
  have hmeth' : T.vm.method? m = some meth := X.method'
  refine ⟨T.setFrames fs, ?_, .returned (some (.int 1)), hrun, hended, rfl, ⟨_, rfl⟩, hW, hframe⟩
  jvm_step X.here [X.here.top, hx, hb, hdg, hmeth', hr, ret, narrow_b1]
  (try refine ⟨rfl, ?_⟩); (try refine ⟨rfl, ?_⟩)
  first | (intro acts; rw [hret _ acts rfl rfl rfl]) | rw [hret _ _ rfl rfl rfl]
  exact Steps.refl _
theorem i32_eq {a b : Int32} (h : a.toInt = b.toInt) : a = b := Int32.toInt_inj.mp h
theorem toInt_sub6 {L : Nat} (hL : L ≤ 3072) : (nI L - 6).toInt = (L : Int) - 6 := by
  rw [Int32.toInt_sub, nI_toInt (by omega)]
  show Int.bmod ((L : Int) - 6) (2 ^ 32) = _
  rw [Int.bmod_eq_of_le] <;> omega
theorem gt6 {i L : Nat} (hi : i ≤ 3072) (hL : L ≤ 3072) : nI L - 6 < nI i ↔ L < i + 6 := by
  rw [Int32.lt_iff_toInt_lt, toInt_sub6 hL, nI_toInt (by omega)]
  omega
theorem inc6 (i : Nat) : nI i + Int32.ofInt 6 = nI (i + 6) := by
  show nI i + nI 6 = _
  rw [nI_add]
set_option maxRecDepth 100000 in
set_option maxHeartbeats 4000000 in
theorem law_loop {p : Program} {l : Launch} {e : Env} {s : State} {m : MethodId} {below : List Frame} {meth : Method} {c : Code} (hl9 : l.stackTraces = false) {b L : Nat} {xs : Nat → Int32} (hL : L ≤ 3072) (hX : va_X b L xs s s.heap) (hbl : b < s.heap.size) {D : va_G} {cy : Nat → ClassId} {ad am : Nat → Nat → Nat} {oa : Nat → Nat} (K : Cx p s m #[Value.ref b] meth c D (fun q : Nat => s.heap.size ≤ q) (tysC cy) RL cL_law 7 ret wsL_law EL) {Rel : Nat → CSt → MSt → Prop} {n : Nat} (hd : Does n Rel) :
    ∀ (k j : Nat) (C : CSt) (M : MSt) (o : Nat → Int64) (H : Heap) (locs : List Loc) (ls : Array Slot), j + k = 513 → 6 * j ≤ L → Rel j C M → Wd D (fun q : Nat => s.heap.size ≤ q) s.heap (GM cy am M ++ GH cy ad oa (C, o)) H locs → lv_has ls 7 [(0, .ref b), (1, .ref (ad 0 0)), (2, .ref (am 0 0)), (3, .ref (oa 0)), (4, .int (nI (6 * j)))] → W p l e room_1 s m #[Value.ref b] below meth c H locs (200 + 6 * j) (2200 + 36 * j) (lw_Z below #[Value.ref b] s) (F0 m 23 ls []) := by
  obtain ⟨hx, hb, hml, hown, hts, hr, hlo, hK, hA, hXX⟩ := id K
  intro k
  induction k with
  | zero =>
    intro j C M o H locs ls h1 h2
    exact absurd h2 (by omega)
  | succ k ih =>
    intro j C M o H locs ls hjk hj hR hw hl
    refine lv_iload hx hb dL_law_23 (lv_at hl 4 rfl) ?_
    refine lv_aload_n hx hb dL_law_25 rfl (lv_at hl 0 rfl) ?_
    refine va_slen hx hb hX hbl (Nat.not_le.mpr hbl) hw.2.2 dL_law_26 ?_
    refine lv_bipush (v := 6) hx hb dL_law_27 (by decide) ?_
    refine lv_isub hx hb dL_law_29 ?_
    refine lv_icmp_gt (tgt := 1230) hx hb dL_law_30 (by decide) (fun c1 => ?_) (fun c1 => ?_)
    · refine lv_iconst (v := 1) hx hb dL_law_1230 (by decide) ?_
      refine va_forget (fun q hq => hw.2.2.2.2 q hq) ?_
      refine W.widen (k := 612593) (n := 7258324) (by omega) (by omega) ?_
      exact lw_ret hx hb hr hlo dL_law_1231
    have hi : 6 * j + 6 ≤ L := Nat.not_lt.mp (fun h => c1 ((gt6 (by omega) hL).mpr h))
    have hj5 : j < 512 := by omega
    have nx : ∀ (C2 : CSt) (M2 : MSt) (o2 : Nat → Int64) (H2 : Heap) (locs2 : List Loc) (ls2 : Array Slot), Rel (j + 1) C2 M2 → Wd D (fun q : Nat => s.heap.size ≤ q) s.heap (GM cy am M2 ++ GH cy ad oa (C2, o2)) H2 locs2 → lv_has ls2 7 [(0, .ref b), (1, .ref (ad 0 0)), (2, .ref (am 0 0)), (3, .ref (oa 0)), (4, .int (nI (6 * j)))] → W p l e room_1 s m #[Value.ref b] below meth c H2 locs2 (200 + 6 * j + 6) (2200 + 36 * j + 36) (lw_Z below #[Value.ref b] s) (F0 m 1224 ls2 []) := by
      intro C2 M2 o2 H2 locs2 ls2 hR2 hw2 hl2
      refine lv_iinc (v := nI (6 * j + 6)) (lv' := [(4, .int (nI (6 * j + 6))), (0, .ref b), (1, .ref (ad 0 0)), (2, .ref (am 0 0)), (3, .ref (oa 0))]) hx hb dL_law_1224 hl2 (k := 4) rfl (inc6 _) (by decide) rfl (fun ls hl => ?_)
      refine lv_goto (tgt := 23) hx hb dL_law_1227 (by decide) ?_
      refine W.widen (k := 200 + 6 * (j + 1)) (n := 2200 + 36 * (j + 1)) (by omega) (by omega) ?_
      exact ih (j + 1) C2 M2 o2 H2 locs2 ls (by omega) (by omega) hR2 hw2 (lv_sub hl [1, 2, 3, 4, 0] rfl)
    refine lv_aload_n hx hb dL_law_33 rfl (lv_at hl 0 rfl) ?_
    refine lv_iload hx hb dL_law_34 (lv_at hl 4 rfl) ?_
    refine va_sld hx hb hX hbl (Nat.not_le.mpr hbl) hw.2.2 (vp_in_nI (by omega) (by omega)) dL_law_36 ?_
    refine lv_bipush (v := 31) hx hb dL_law_37 (by decide) ?_
    refine lv_iand hx hb dL_law_39 ?_
    refine lv_topi (fun v hv => ?_)
    have hce : 200 + 6 * j + 6 ≤ 612593 := by omega
    have hsl : 2200 + 36 * j + 36 ≤ 7258324 := by omega
    obtain ⟨h_skip, hd_newClass, hd_make, hd_get, hd_set, hd_link, hd_follow, hd_drop, hd_same, hd_word, hd_step, hd_change, hd_takeBack, hd_versionOf, hd_touch, hd_sweep, hd_collect, hd_about, hd_field, hd_fault⟩ := hd
    by_cases v0 : v.toInt = 0
    · refine lv_tableIn (off := 92) (tgt := 132) hx hb dL_law_40 (by omega) (by omega) (by rw [v0]; rfl) (by decide) ?_
      exact lc_newClass hl9 hL hX hbl K hi (hd_newClass j C M hj5 hR) hce hsl hw hl nx
    by_cases v1 : v.toInt = 1
    · refine lv_tableIn (off := 136) (tgt := 176) hx hb dL_law_40 (by omega) (by omega) (by rw [v1]; rfl) (by decide) ?_
      exact lc_make hl9 hL hX hbl K hi (hd_make j C M hj5 hR _ _) hce hsl hw hl nx
    by_cases v2 : v.toInt = 2
    · refine lv_tableIn (off := 184) (tgt := 224) hx hb dL_law_40 (by omega) (by omega) (by rw [v2]; rfl) (by decide) ?_
      exact lc_get hl9 hL hX hbl K hi (hd_get j C M hj5 hR _ _) hce hsl hw hl nx
    by_cases v3 : v.toInt = 3
    · refine lv_tableIn (off := 252) (tgt := 292) hx hb dL_law_40 (by omega) (by omega) (by rw [v3]; rfl) (by decide) ?_
      exact lc_set hl9 hL hX hbl K hi (hd_set j C M hj5 hR _ _ _) hce hsl hw hl nx
    by_cases v4 : v.toInt = 4
    · refine lv_tableIn (off := 312) (tgt := 352) hx hb dL_law_40 (by omega) (by omega) (by rw [v4]; rfl) (by decide) ?_
      exact lc_link hl9 hL hX hbl K hi (hd_link j C M hj5 hR _ _ _) hce hsl hw hl nx
    by_cases v5 : v.toInt = 5
    · refine lv_tableIn (off := 372) (tgt := 412) hx hb dL_law_40 (by omega) (by omega) (by rw [v5]; rfl) (by decide) ?_
      exact lc_follow hl9 hL hX hbl K hi (hd_follow j C M hj5 hR _ _ _) hce hsl hw hl nx
    by_cases v6 : v.toInt = 6
    · refine lv_tableIn (off := 432) (tgt := 472) hx hb dL_law_40 (by omega) (by omega) (by rw [v6]; rfl) (by decide) ?_
      exact lc_drop hl9 hL hX hbl K hi (hd_drop j C M hj5 hR _) hce hsl hw hl nx
    by_cases v7 : v.toInt = 7
    · refine lv_tableIn (off := 495) (tgt := 535) hx hb dL_law_40 (by omega) (by omega) (by rw [v7]; rfl) (by decide) ?_
      exact lc_same hl9 hL hX hbl K hi (hd_same j C M hj5 hR _ _) hce hsl hw hl nx
    by_cases v8 : v.toInt = 8
    · refine lv_tableIn (off := 570) (tgt := 610) hx hb dL_law_40 (by omega) (by omega) (by rw [v8]; rfl) (by decide) ?_
      exact lc_word hl9 hL hX hbl K hi (hd_word j C M hj5 hR _) hce hsl hw hl nx
    by_cases v9 : v.toInt = 9
    · refine lv_tableIn (off := 626) (tgt := 666) hx hb dL_law_40 (by omega) (by omega) (by rw [v9]; rfl) (by decide) ?_
      exact lc_step hl9 hL hX hbl K hi (hd_step j C M hj5 hR _ _ _ _ _) hce hsl hw hl nx
    by_cases v10 : v.toInt = 10
    · refine lv_tableIn (off := 730) (tgt := 770) hx hb dL_law_40 (by omega) (by omega) (by rw [v10]; rfl) (by decide) ?_
      exact lc_change hl9 hL hX hbl K hi (hd_change j C M hj5 hR _) hce hsl hw hl nx
    by_cases v11 : v.toInt = 11
    · refine lv_tableIn (off := 786) (tgt := 826) hx hb dL_law_40 (by omega) (by omega) (by rw [v11]; rfl) (by decide) ?_
      exact lc_takeBack hl9 hL hX hbl K hi (hd_takeBack j C M hj5 hR _) hce hsl hw hl nx
    by_cases v12 : v.toInt = 12
    · refine lv_tableIn (off := 842) (tgt := 882) hx hb dL_law_40 (by omega) (by omega) (by rw [v12]; rfl) (by decide) ?_
      exact lc_versionOf hl9 hL hX hbl K hi (hd_versionOf j C M hj5 hR _) hce hsl hw hl nx
    by_cases v13 : v.toInt = 13
    · refine lv_tableIn (off := 898) (tgt := 938) hx hb dL_law_40 (by omega) (by omega) (by rw [v13]; rfl) (by decide) ?_
      exact lc_touch hl9 hL hX hbl K hi (hd_touch j C M hj5 hR _) hce hsl hw hl nx
    by_cases v14 : v.toInt = 14
    · refine lv_tableIn (off := 954) (tgt := 994) hx hb dL_law_40 (by omega) (by omega) (by rw [v14]; rfl) (by decide) ?_
      exact lc_sweep hl9 hL hX hbl K hi (hd_sweep j C M hj5 hR _) hce hsl hw hl nx
    by_cases v15 : v.toInt = 15
    · refine lv_tableIn (off := 1010) (tgt := 1050) hx hb dL_law_40 (by omega) (by omega) (by rw [v15]; rfl) (by decide) ?_
      exact lc_collect hl9 hL hX hbl K hi (hd_collect j C M hj5 hR) hce hsl hw hl nx
    by_cases v16 : v.toInt = 16
    · refine lv_tableIn (off := 1023) (tgt := 1063) hx hb dL_law_40 (by omega) (by omega) (by rw [v16]; rfl) (by decide) ?_
      exact lc_about hl9 hL hX hbl K hi (hd_about j C M hj5 hR _ _) hce hsl hw hl nx
    by_cases v17 : v.toInt = 17
    · refine lv_tableIn (off := 1091) (tgt := 1131) hx hb dL_law_40 (by omega) (by omega) (by rw [v17]; rfl) (by decide) ?_
      exact lc_field hl9 hL hX hbl K hi (hd_field j C M hj5 hR _ _ _) hce hsl hw hl nx
    by_cases v18 : v.toInt = 18
    · refine lv_tableIn (off := 1171) (tgt := 1211) hx hb dL_law_40 (by omega) (by omega) (by rw [v18]; rfl) (by decide) ?_
      exact lc_fault hl9 hL hX hbl K hi (hd_fault j C M hj5 hR) hce hsl hw hl nx
    refine lv_tableOut (tgt := 1224) hx hb dL_law_40 (by omega) (by decide) ?_
    refine W.widen (k := 200 + 6 * j + 6) (n := 2200 + 36 * j + 36) (by omega) (by omega) ?_
    exact nx C M o H locs ls (h_skip j C M hj5 hR) hw hl
