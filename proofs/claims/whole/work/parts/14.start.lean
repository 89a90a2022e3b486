/-! ===== the law's start ===== -/
theorem str_of {k : Nat} {tx : String} {args : Array Value} {s : State} (h : (Cond.stringRef RX7 k tx).before args s = true) : ∃ sa, vk_R RX7 k tx sa s := by
  have h' := h
  simp only [Cond.before, Cond.holds, Cond.value] at h'
  cases hc : s.vm.findClass RX7 with
  | none => simp [hc] at h'
  | some c =>
    cases hr : s.resolvedAt? RX7 k with
    | none => simp [hc, hr] at h'
    | some r =>
      cases r with
      | string a =>
        refine ⟨a, vk_R.of h ?_⟩
        cases hcl : s.vm.classes[c]? with
        | none => simp [State.resolvedAt?, hc, hcl] at hr
        | some kc =>
          simp [State.resolvedAt?, hc, hcl] at hr
          simp [Term.eval, hc, hcl, hr]
      | _ => simp [hc, hr] at h'
def PreJ (D : va_G) (tys : List (ClassId × FieldType)) (ws : va_W) (sz : Nat) (U : State) : Prop := U.heap.size = sz ∧ va_P D vwCl ws U.heap ∧ va_K D vwCl tys U ∧ va_D (fun _ => True) ws
theorem j_blind {vs : List Value} {D : va_G} {tys : List (ClassId × FieldType)} {ws : va_W} {sz : Nat} : FrameBlind (va_Pc vs (PreJ D tys ws sz)) := by
  intro a U g mk h
  obtain ⟨h1, h2, h3, h4, h5⟩ := h
  exact ⟨h1, h2, h3, va_K.moved (u := U) (U := U.calling g mk a) (Vm.Alike.refl U.vm) h4, h5⟩
section LStart
variable {p : Program} {l : Launch} {e : Env} {R : Room} {s : State} {m : MethodId} {args : Array Value} {below : List Frame} {meth : Method} {c : Code} {H : Heap} {locs : List Loc} {cells slots : Nat} {Q : State → Prop}
variable {cc : ByteArray} {pc : Nat} {ls : Array Slot} {rest st0 : List Value} {D : va_G} {A : Nat → Prop} {tys : List (ClassId × FieldType)} {B : va_W} {H0 : Heap}
theorem j_pre {q : Nat} {e0 : va_E} (hK : va_K D vwCl tys s) (hP : va_P D vwCl (B ++ [(q, e0)]) H) (hD : va_D A (B ++ [(q, e0)])) : ∀ U : State, U.heap = H → s.WarmedH U.vm → va_Pc [.ref q] (PreJ D tys [(q, e0)] H.size) [Value.ref q].toArray U := by
  intro U hU hW
  exact ⟨rfl, by rw [hU], by rw [hU]; exact P_r hP, va_K.moved hW.alike hK, (D_r hD).weaken (fun _ _ _ _ => trivial)⟩
theorem i_callP {St : Type} {q : Nat} {e0 : va_E} {post : St → Prop} {bk : St → va_W} {a : Array Value} {mc ms : Nat} (hP : va_P D vwCl (B ++ [(q, e0)]) H) (hD : va_D A (B ++ [(q, e0)])) (hS : va_S A H0 H locs) (hA : ∀ q, H0.size ≤ q → A q) (hr : va_Run p l e R s m args below meth c H locs cells slots mc ms (F0 m pc ls st0) rest (va_Qv post (fun u => PstI D tys (AA [q] H.size) (bk u)) (AA [q] H.size) a) (AA [q] H.size)) (hH : s.heap = H0)
    (kk : ∀ (u : St) (H1 : Heap) (locs1 : List Loc), post u → va_P D vwCl (B ++ bk u) H1 → va_D A (B ++ bk u) → va_S A H0 H1 locs1 → W p l e R s m args below meth c H1 locs1 (cells + mc) (slots + ms) Q (F0 m (pc + 3) ls rest)) : W p l e R s m args below meth c H locs cells slots Q (F0 m pc ls st0) := by
  subst hH
  have hq : A q := hD.2 B.length (q, e0) (by simp)
  have hF : ∀ z, AA [q] H.size z → A z := fun z hz => by
    rcases hz with h | h
    · rw [List.mem_singleton.mp h]; exact hq
    · exact hA z (Nat.le_trans hS.1 h)
  refine va_callv hr hS (fun z _ h => hF z h) hF (fun u t H1 locs1 ht hvm hp hB hz hk hS1 => ?_)
  have h3 := frame3 (w1 := B) (w := [(q, e0)]) (w2 := []) (w' := bk u) (AC := AA [q] H.size) (H := H) (H1 := H1) (by rw [List.append_nil]; exact hP) (by rw [List.append_nil]; exact hD) (by rw [← ht]; exact hB.1) hB.2.2 (fun z hz => by
    rcases hz with h | h
    · exact Or.inl ⟨0, e0, by rw [List.mem_singleton.mp h]; rfl⟩
    · exact Or.inr h) hF hk
  rw [List.append_nil] at h3
  exact kk u H1 locs1 hp h3.1 h3.2 hS1
end LStart
/-- what is left: the two pure pictures go side by side -/
def lw_At (p : Program) (s : State) (m : MethodId) (meth : Method) (c : Code) (b L : Nat) (xs : Nat → Int32) : Prop :=
  p.tables.exec = Jvm.exec ∧ c.code = code ∧ meth.sig.returnType = ret ∧ c.maxLocals = 7 ∧ s.vm.findClass R_law = some m.cls ∧ (∀ w ∈ lw_tbl, w.before #[Value.ref b] s = true) ∧ va_X b L xs s s.heap ∧ b < s.heap.size ∧ meth.locks = false ∧ (Jvm.Cond.and given_1 narrow_1).before #[Value.ref b] s = true
theorem st_K {s : State} {args : Array Value} (hts : ∀ w ∈ lw_tbl, w.before args s = true) : ∃ (D : va_G) (cy : Nat → ClassId), va_K D vwCl (tysC cy) s := by
  obtain ⟨c0, iS0, hKn0⟩ := u_known (C := RX0) (T := TX0) (N := 6) (n := 6) hts in_wsX00 (hts (.instantiable RX0 6) (by decide +kernel))
  obtain ⟨c1, iS1, hKn1⟩ := u_known (C := RX1) (T := TX1) (N := 2) (n := 2) hts in_wsX10 (hts (.instantiable RX1 2) (by decide +kernel))
  obtain ⟨c2, iS2, hKn2⟩ := u_known (C := RX2) (T := TX2) (N := 4) (n := 4) hts in_wsX20 (hts (.instantiable RX2 4) (by decide +kernel))
  obtain ⟨c3, iS3, hKn3⟩ := u_known (C := RX3) (T := TX3) (N := 3) (n := 3) hts in_wsX30 (hts (.instantiable RX3 3) (by decide +kernel))
  obtain ⟨c4, iS4, hKn4⟩ := u_known (C := RX4) (T := TX4) (N := 6) (n := 6) hts in_wsX40 (hts (.instantiable RX4 6) (by decide +kernel))
  obtain ⟨c5, iS5, hKn5⟩ := u_known (C := RX5) (T := TX5) (N := 6) (n := 6) hts in_wsX50 (hts (.instantiable RX5 6) (by decide +kernel))
  obtain ⟨c6, iS6, hKn6⟩ := u_known (C := RX6) (T := TX6) (N := 3) (n := 3) hts in_wsX60 (hts (.instantiable RX6 3) (by decide +kernel))
  obtain ⟨c7, iS7, hKn7⟩ := u_known (C := RX7) (T := TX7) (N := 11) (n := 11) hts in_wsX70 (hts (.instantiable RX7 11) (by decide +kernel))
  obtain ⟨c8, iS8, hKn8⟩ := u_known (C := RX8) (T := TX8) (N := 44) (n := 44) hts in_wsX80 (hts (.instantiable RX8 44) (by decide +kernel))
  obtain ⟨a0, k0, p0, f0, g0, e0⟩ := Cond.arrayClass_spec (hts (.arrayClass .int) (by decide +kernel))
  obtain ⟨a1, k1, p1, f1, g1, e1⟩ := Cond.arrayClass_spec (hts (.arrayClass .long) (by decide +kernel))
  obtain ⟨a2, k2, p2, f2, g2, e2⟩ := Cond.arrayClass_spec (hts (.arrayClass .boolean) (by decide +kernel))
  obtain ⟨p3, a3, k3, b3, d3, g3, e3, f3⟩ := Cond.arrayOver_spec (hts (.arrayOver (.object RX0)) (by decide +kernel))
  obtain ⟨p4, a4, k4, b4, d4, g4, e4, f4⟩ := Cond.arrayOver_spec (hts (.arrayOver (.object RX2)) (by decide +kernel))
  obtain ⟨p5, a5, k5, b5, d5, g5, e5, f5⟩ := Cond.arrayOver_spec (hts (.arrayOver (.object RX5)) (by decide +kernel))
  refine ⟨(fun k => [c0, c1, c2, c3, c4, c5, c6, c7, c8].getD k c0, fun k => [iS0, iS1, iS2, iS3, iS4, iS5, iS6, iS7, iS8].getD k iS0), fun k => [a0, a1, a2, a3, a4, a5].getD k a0, ?_, ?_⟩
  · intro k q hq
    match k, hq with
    | 0, hq => cases hq; exact hKn0
    | 1, hq => cases hq; exact hKn1
    | 2, hq => cases hq; exact hKn2
    | 3, hq => cases hq; exact hKn3
    | 4, hq => cases hq; exact hKn4
    | 5, hq => cases hq; exact hKn5
    | 6, hq => cases hq; exact hKn6
    | 7, hq => cases hq; exact hKn7
    | 8, hq => cases hq; exact hKn8
    | k + 9, hq => simp [vwCl] at hq
  · intro k q hq
    match k, hq with
    | 0, hq => cases hq; exact ⟨fun N z => ⟨(fun _ h => by cases h), k0, g0, p0, e0⟩, f0⟩
    | 1, hq => cases hq; exact ⟨fun N z => ⟨(fun _ h => by cases h), k1, g1, p1, e1⟩, f1⟩
    | 2, hq => cases hq; exact ⟨fun N z => ⟨(fun _ h => by cases h), k2, g2, p2, e2⟩, f2⟩
    | 3, hq => cases hq; exact ⟨fun N z => ⟨(fun _ h => by cases h), k3, g3, p3, e3⟩, k3, p3, g3, e3, b3, f3⟩
    | 4, hq => cases hq; exact ⟨fun N z => ⟨(fun _ h => by cases h), k4, g4, p4, e4⟩, k4, p4, g4, e4, b4, f4⟩
    | 5, hq => cases hq; exact ⟨fun N z => ⟨(fun _ h => by cases h), k5, g5, p5, e5⟩, k5, p5, g5, e5, b5, f5⟩
    | k + 6, hq => simp [tysC] at hq
theorem st_NI {s : State} {args : Array Value} (hts : ∀ w ∈ lw_tbl, w.before args s = true) : NI s := by
  refine ⟨?_, va_AO.of (hts (.arrayOver (.object RX0)) (by decide +kernel)), va_AO.of (hts (.arrayOver (.object RX2)) (by decide +kernel)), va_AO.of (hts (.arrayOver (.object RX5)) (by decide +kernel))⟩
  intro q hq
  have h : Cond.methodLinkNest q.1 q.2.1 q.2.2 RX7 ∈ lw_tbl := by
    revert q
    decide +kernel
  exact hts _ h
theorem st_EL {s : State} {args : Array Value} (hts : ∀ w ∈ lw_tbl, w.before args s = true) (hgv : (Jvm.Cond.and given_1 narrow_1).before args s = true) : EL (fun q : Nat => s.heap.size ≤ q) s := by
  have hs := flat_of_before _ hgv
  refine ⟨⟨hts (.methodLinkNest RX4 43 yX7_isIn RX7) (by decide +kernel), ?_, ?_, ?_, ?_, ?_⟩, ?_⟩
  · intro q hq
    have h : Cond.stringRef RX7 q.1 q.2 ∈ lw_tbl := by
      revert q
      decide +kernel
    exact str_of (hts _ h)
  · intro E hE
    have h : Cond.castable E E ∈ lw_tbl := by
      revert E
      decide +kernel
    exact hts _ h
  · intro Y hY
    have h : Cond.declares (iniS Y) ∈ lw_tbl := by
      revert Y
      decide +kernel
    exact hts _ h
  · exact vx_Zqof (hts (.laysStatic Bundle.tN "UNASSIGNED_STACK" Bundle.steD) (by decide +kernel)) (hts (.initialized Bundle.tN) (by decide +kernel)) (hs (.isRef (.static Bundle.tN "UNASSIGNED_STACK" Bundle.steD)) (by decide +kernel)) (fun a ha => Nat.not_le.mpr ha)
  · exact vx_Zqof (hts (.laysStatic Bundle.tN "SUPPRESSED_SENTINEL" Bundle.listD) (by decide +kernel)) (hts (.initialized Bundle.tN) (by decide +kernel)) (hs (.isRef (.static Bundle.tN "SUPPRESSED_SENTINEL" Bundle.listD)) (by decide +kernel)) (fun a ha => Nat.not_le.mpr ha)
  · intro E hE F hF hn
    have h : Cond.not (.castable E F) ∈ flatC (Jvm.Cond.and given_1 narrow_1) := by
      revert E F
      decide +kernel
    exact va_Nc.of (hs _ h)
set_option maxRecDepth 100000 in
set_option maxHeartbeats 1000000 in
theorem ws_alloc {p : Program} {e : Env} {s : State} {m : MethodId} {below : List Frame} {meth : Method} {c : Code} {l : Launch} {b L : Nat} {xs : Nat → Int32} {Q : State → Prop} (A0 : lw_At p s m meth c b L xs) {D : va_G} {cy : Nat → ClassId} (hK : va_K D vwCl (tysC cy) s) {ws : va_W} {H : Heap} {locs : List Loc} {ls : Array Slot} {q7 q8 : Nat} (hP : va_P D vwCl ws H) (hD : va_D (fun q : Nat => s.heap.size ≤ q) ws) (hS : va_S (fun q : Nat => s.heap.size ≤ q) s.heap H locs) (hl : lv_has ls 7 [(1, .ref q7), (0, .ref b)])
    (kk : ∀ (qo : Nat) (H : Heap) (locs : List Loc) (ls : Array Slot), va_P D vwCl (ws ++ [(qo, .inl (cy 1, 1, .inr (.inl (fun _ => 0))))]) H → va_D (fun q : Nat => s.heap.size ≤ q) (ws ++ [(qo, .inl (cy 1, 1, .inr (.inl (fun _ => 0))))]) → va_S (fun q : Nat => s.heap.size ≤ q) s.heap H locs → lv_has ls 7 [(4, .int 0), (3, .ref qo), (2, .ref q8), (1, .ref q7), (0, .ref b)] → W p l e room_1 s m #[Value.ref b] below meth c H locs 196 2176 Q (F0 m 23 ls [])) : W p l e room_1 s m #[Value.ref b] below meth c H locs 195 2175 Q (F0 m 15 ls [Value.ref q8]) := by
  obtain ⟨hx, hb, hr, hml, hown, hts, hX, hbl, hlocks, hgv⟩ := id A0
  replace hown : s.vm.findClass RL = some m.cls := hown
  replace hb : c.code = cL_law := hb
  have hA : ∀ q : Nat, s.heap.size ≤ q → (fun q : Nat => s.heap.size ≤ q) q := fun _ h => h
  refine lv_astore_n (lv' := [(2, .ref q8), (1, .ref q7), (0, .ref b)]) hx hb dL_law_15 rfl hl (by decide) rfl (fun ls hl => ?_)
  refine lv_iconst (v := 1) hx hb dL_law_16 (by decide) ?_
  have har : (Cond.arrayClass (newarray.typeOf .long)).before #[Value.ref b] s = true := hts (.arrayClass .long) (by decide +kernel)
  have c1 : 195 + 1 ≤ room_1.cells := Nat.le_of_ble_eq_true rfl
  have c2 : 2175 + 1 ≤ room_1.slots := Nat.le_of_ble_eq_true rfl
  have ty1 : (tysC cy)[1]? = some (cy 1, .long) := rfl
  refine l_newa (atype := .long) (ty := .long) (cA := cy 1) (a0 := (1, .inr (.inl (fun _ => 0)))) (n := 1) (N' := 1) (rest := []) hx hb har rfl hK 1 ty1 hP hD hS hA (fun _ => rfl) (by decide) (by decide) (by decide) c1 c2 dL_law_17 (fun qo H hP hD hS => ?_)
  refine lv_astore_n (lv' := [(3, .ref qo), (2, .ref q8), (1, .ref q7), (0, .ref b)]) hx hb dL_law_19 rfl hl (by decide) rfl (fun ls hl => ?_)
  refine lv_iconst (v := 0) hx hb dL_law_20 (by decide) ?_
  refine lv_istore (lv' := [(4, .int 0), (3, .ref qo), (2, .ref q8), (1, .ref q7), (0, .ref b)]) hx hb dL_law_21 hl (by decide) rfl (fun ls hl => ?_)
  exact kk qo H _ ls hP hD hS hl
set_option maxRecDepth 100000 in
set_option maxHeartbeats 4000000 in
theorem whole_start (hsim : Sim) {p : Program} {e : Env} {s : State} {m : MethodId} {below : List Frame} {meth : Method} {c : Code} (l : Launch) (hl9 : l.stackTraces = false) {b L : Nat} {xs : Nat → Int32} (hL : L ≤ 3072) (A0 : lw_At p s m meth c b L xs) : W p l e room_1 s m #[Value.ref b] below meth c s.heap [] 0 0 (lw_Z below #[Value.ref b] s) (entryFrame m ([Value.ref b] : List Value).toArray 7) := by
  obtain ⟨hx, hb, hr, hml, hown, hts, hX, hbl, hlocks, hgv⟩ := id A0
  obtain ⟨n, Rel, out, hi8, hR0, hdo⟩ := hsim
  replace hown : s.vm.findClass RL = some m.cls := hown
  replace hb : c.code = cL_law := hb
  obtain ⟨D, cy, hK⟩ := st_K hts
  have hNI := st_NI hts
  have hEL := st_EL hts hgv
  have htsL : ∀ w ∈ wsL_law, w.before #[Value.ref b] s = true := fun w hw => hts w (wsL_law_in w hw)
  have hA : ∀ q : Nat, s.heap.size ≤ q → (fun q : Nat => s.heap.size ≤ q) q := fun _ h => h
  have K : Cx p s m #[Value.ref b] meth c D (fun q : Nat => s.heap.size ≤ q) (tysC cy) RL cL_law 7 ret wsL_law EL := ⟨hx, hb, hml, hown, htsL, hr, hlocks, hK, hA, hEL⟩
  have hS : va_S (fun q : Nat => s.heap.size ≤ q) s.heap s.heap [] := va_S.rf
  have hP : va_P D vwCl [] s.heap := fun k q h => by simp at h
  have hD : va_D (fun q : Nat => s.heap.size ≤ q) [] := ⟨fun i j p q h => by simp at h, fun k q h => by simp at h⟩
  have hl := lv_entry ([.ref b]) (n := 7) (Nat.le_of_ble_eq_true rfl)
  rw [lg_entry_eq]
  generalize (lg_sl ([.ref b]) ++ List.replicate (7 - (lg_sl ([.ref b])).length) Slot.unset).toArray = ls at hl ⊢
  have hl : lv_has ls 7 [(0, .ref b)] := hl
  refine va_new (ci := 7) (fs := [.null, .int 0, .null, .null, .null, .null, .int 0, .int 0, .null, .null, .null]) (C := RX7) (T := TX7) (N := 11) hx hb hts in_wsX70 tyX7 tyX7_ok hown (hts (.classLink RL 8 RX7) (by decide +kernel)) (hts (.instantiable RX7 11) (by decide +kernel)) (hts (.initialized RX7) (by decide +kernel)) hK hP hD hS hA rfl (fun j hj => by rcases (show j = 0 ∨ j = 1 ∨ j = 2 ∨ j = 3 ∨ j = 4 ∨ j = 5 ∨ j = 6 ∨ j = 7 ∨ j = 8 ∨ j = 9 ∨ j = 10 by omega) with rfl | rfl | rfl | rfl | rfl | rfl | rfl | rfl | rfl | rfl | rfl <;> rfl) (Nat.le_of_ble_eq_true rfl) (Nat.le_of_ble_eq_true rfl) dL_law_0 (fun q7 H hP hD hS => ?_)
  refine lv_dup hx hb dL_law_3 rfl ?_
  refine i_callP (B := []) (bk := fun ad => GW (GC cy ad C0)) hP hD hS hA (va_runI (b := q7) (As := []) (rest := [.ref q7]) ⟨hx, hb, hml, hown, htsL⟩ (c_X7_init l D cy q7 H.size) (cwI 0 htsL gL_law_X7_init rfl rfl rfl (hts (.initialized RX7) (by decide +kernel)) (hts (.methodLink RL 77 yX7_init) (by decide +kernel)) (hts (.instanceMethod yX7_init) (by decide +kernel)) rfl (by decide +kernel) ⟨Nat.le_of_ble_eq_true rfl, Nat.le_of_ble_eq_true rfl⟩) ⟨i_blind, i_pre (B := []) hK hNI hP hD⟩ rfl rfl hl.1 rfl (lv_room (Nat.le_of_ble_eq_true rfl)) dL_law_4 ⟨Nat.le_of_ble_eq_true rfl, Nat.le_of_ble_eq_true rfl⟩) rfl (fun ad H locs had hP hD hS => ?_)
  replace hP : va_P D vwCl (GW (GC cy ad C0)) H := hP
  replace hD : va_D (fun q : Nat => s.heap.size ≤ q) (GW (GC cy ad C0)) := hD
  have had7 : ad 0 0 = q7 := had
  refine lv_astore_n (lv' := [(1, .ref q7), (0, .ref b)]) hx hb dL_law_7 rfl hl (by decide) rfl (fun ls hl => ?_)
  refine va_new (ci := 8) (fs := [.int 0, .int 0, .null, .null, .null, .null, .null, .null, .null, .null, .null, .null, .null, .null, .null, .null, .null, .null, .null, .null, .int 0, .null, .int 0, .null, .null, .null, .int 0, .int 0, .int 0, .null, .null, .null, .null, .null, .null, .int 0, .int 0, .null, .null, .null, .int 0, .null, .null, .null]) (C := RX8) (T := TX8) (N := 44) hx hb hts in_wsX80 tyX8 tyX8_ok hown (hts (.classLink RL 78 RX8) (by decide +kernel)) (hts (.instantiable RX8 44) (by decide +kernel)) (hts (.initialized RX8) (by decide +kernel)) hK hP hD hS hA rfl (fun j hj => by rcases (show j = 0 ∨ j = 1 ∨ j = 2 ∨ j = 3 ∨ j = 4 ∨ j = 5 ∨ j = 6 ∨ j = 7 ∨ j = 8 ∨ j = 9 ∨ j = 10 ∨ j = 11 ∨ j = 12 ∨ j = 13 ∨ j = 14 ∨ j = 15 ∨ j = 16 ∨ j = 17 ∨ j = 18 ∨ j = 19 ∨ j = 20 ∨ j = 21 ∨ j = 22 ∨ j = 23 ∨ j = 24 ∨ j = 25 ∨ j = 26 ∨ j = 27 ∨ j = 28 ∨ j = 29 ∨ j = 30 ∨ j = 31 ∨ j = 32 ∨ j = 33 ∨ j = 34 ∨ j = 35 ∨ j = 36 ∨ j = 37 ∨ j = 38 ∨ j = 39 ∨ j = 40 ∨ j = 41 ∨ j = 42 ∨ j = 43 by omega) with rfl | rfl | rfl | rfl | rfl | rfl | rfl | rfl | rfl | rfl | rfl | rfl | rfl | rfl | rfl | rfl | rfl | rfl | rfl | rfl | rfl | rfl | rfl | rfl | rfl | rfl | rfl | rfl | rfl | rfl | rfl | rfl | rfl | rfl | rfl | rfl | rfl | rfl | rfl | rfl | rfl | rfl | rfl | rfl <;> rfl) (Nat.le_of_ble_eq_true rfl) (Nat.le_of_ble_eq_true rfl) dL_law_8 (fun q8 H hP hD hS => ?_)
  refine lv_dup hx hb dL_law_11 rfl ?_
  refine i_callP (B := GW (GC cy ad C0)) (bk := fun (u : (Nat → Nat → Nat) × MSt) => GW (GM cy u.1 u.2)) hP hD hS hA (va_runI (b := q8) (As := []) (rest := [.ref q8]) ⟨hx, hb, hml, hown, htsL⟩ (c_X8_init l D cy q8 H.size n hi8) (cwI 0 htsL gL_law_X8_init rfl rfl rfl (hts (.initialized RX8) (by decide +kernel)) (hts (.methodLink RL 80 yX8_init) (by decide +kernel)) (hts (.instanceMethod yX8_init) (by decide +kernel)) rfl (by decide +kernel) ⟨Nat.le_of_ble_eq_true rfl, Nat.le_of_ble_eq_true rfl⟩) ⟨j_blind, j_pre (B := GW (GC cy ad C0)) hK hP hD⟩ rfl rfl hl.1 rfl (lv_room (Nat.le_of_ble_eq_true rfl)) dL_law_12 ⟨Nat.le_of_ble_eq_true rfl, Nat.le_of_ble_eq_true rfl⟩) rfl (fun u H locs had hP hD hS => ?_)
  obtain ⟨am, M⟩ := u
  obtain ⟨had, hou⟩ := had
  replace had : am 0 0 = q8 := had
  replace hou : out = M := hou
  replace hP : va_P D vwCl (GW (GC cy ad C0) ++ GW (GM cy am out)) H := by rw [hou]; exact hP
  replace hD : va_D (fun q : Nat => s.heap.size ≤ q) (GW (GC cy ad C0) ++ GW (GM cy am out)) := by rw [hou]; exact hD
  refine ws_alloc A0 hK hP hD hS hl (fun qo H locs ls hP hD hS hl => ?_)
  rw [← had7, ← had] at hl
  have hpm : ((GW (GC cy ad C0) ++ GW (GM cy am out)) ++ ([(qo, .inl (cy 1, 1, .inr (.inl (fun _ => 0))))] : va_W)).Perm (GW (GM cy am out ++ GH cy ad (fun _ => qo) (C0, fun _ => 0))) := by
    rw [GW_app]
    show ((GW (GC cy ad C0) ++ GW (GM cy am out)) ++ ([(qo, .inl (cy 1, 1, .inr (.inl (fun _ => 0))))] : va_W)).Perm (GW (GM cy am out) ++ GW (GC cy ad C0 ++ og cy (fun _ => qo) (fun _ => 0)))
    rw [GW_app, ← List.append_assoc]
    exact List.Perm.append_right _ List.perm_append_comm
  refine W.widen (k := 200 + 6 * 0) (n := 2200 + 36 * 0) (by omega) (by omega) ?_
  exact law_loop (oa := fun _ => qo) hl9 hL hX hbl K hdo 513 0 C0 out (fun _ => 0) H locs ls (by omega) (by omega) hR0 ⟨P_perm hpm hP, D_perm hpm hD, hS⟩ (lv_sub hl [4, 3, 2, 1, 0] rfl)
set_option maxHeartbeats 4000000 in
theorem lw_walk (hsim : Sim) (l : Launch) (hl9 : l.stackTraces = false) (b : Addr) (xs : List Int32) : MetFree l x (headSpec (Jvm.Cond.code x code maxLocals ret :: tables_1) room_1) (lw_P b xs) (fun _ _ _ _ _ => True) lw_Q := by
  refine MetFree.of_bodyS (code := code) (maxLocals := maxLocals) (ret := ret) (by decide) ?_ ?_
  · intro args s m h hn
    obtain ⟨meth, c, h1, h2, h3, h4, h5, h6, -, -⟩ := Cond.code_spec hn (atoms_spec (ws := Jvm.Cond.code x code maxLocals ret :: tables_1) h _ List.mem_cons_self)
    exact ⟨meth, c, h1, h2, h3, h4, h5, h6⟩
  · intro p e s m args below meth c s₁ B hml0 hP _
    obtain ⟨rfl, hx, hbd, hgv⟩ := hP
    obtain ⟨scr, harrAt, hlist, hof, hsmall⟩ := hx
    obtain ⟨hcb, hkn, -, -⟩ := State.arrayAt?_spec harrAt
    have hown : s.vm.findClass R_law = some m.cls := findClass_of_methodNamed B.named
    have hts0 : ∀ c ∈ (Jvm.Cond.code x code maxLocals ret :: tables_1), c.before #[Value.ref b] s = true := atoms_spec (ws := Jvm.Cond.code x code maxLocals ret :: tables_1) B.pre
    have hts : ∀ w ∈ lw_tbl, w.before #[Value.ref b] s = true := k2_hts_sels lw_privs (fun w hw => hts0 w (List.mem_cons_of_mem _ hw)) lw_privs_ok
    have hml : c.maxLocals = 7 := B.maxLocals_eq (hts0 _ List.mem_cons_self)
    have X₀ : Stand p l e room_1 s m #[Value.ref b] below meth c s₁ [] 0 0 := Stand.of_body B
    have hh0 : s₁.heap = s.heap := by rw [B.state]; rfl
    have hsz : scr.slots.size = xs.length := by rw [← Array.length_toList, hlist, List.length_map]
    have hval : ∀ j : Nat, j < xs.length → scr.slots[j]? = some (.int (xs.getD j 0)) := fun j hj => by
      rw [← Array.getElem?_toList, hlist]
      simp [hj]
    have hbl : b < s.heap.size := (Array.getElem?_eq_some_iff.mp hcb).1
    have hX : va_X b xs.length (fun j => xs.getD j 0) s s.heap := ⟨scr, hcb, hof, hkn, hsz, hval⟩
    have K : W p l e room_1 s m #[Value.ref b] below meth c s₁.heap [] 0 0 (lw_Z below #[Value.ref b] s) (entryFrame m ([Value.ref b] : List Value).toArray 7) := by
      rw [hh0]
      exact whole_start hsim l hl9 hbd ⟨B.exec, B.bytes, B.returns, hml, hown, hts, hX, hbl, B.notSynchronized, hgv⟩
    obtain ⟨t, a1, o, b1, b2, b3⟩ := K s₁ rfl X₀
    exact ⟨t, o, a1, b1, b2, b3⟩
theorem lw_pre_spec {args : Array Value} {s : State} (h : (Jvm.Cond.and given_1 narrow_1).before args s = true) (hr : rest_1_c.before args s = true) : ∃ (b : Addr) (xs : List Int32), lw_P b xs args s := by
  have hs := flat_of_before _ h
  have hq := flat_of_before _ hr
  have hc : (Cond.count 1).before args s = true := hs _ (by decide +kernel)
  have harr : (Cond.arrayOf (.arg 0) .int).before args s = true := hs _ (by decide +kernel)
  have hle : (Cond.le (.length (.arg 0)) (.int 3072)).before args s = true := hs _ (by decide +kernel)
  have hlen : (Cond.isInt (.length (.arg 0))).before args s = true := hq _ (by decide +kernel)
  have hall : (Cond.all (.arg 0) (.isInt (.elem (.arg 0) (.index 0)))).before args s = true := hq _ (by decide +kernel)
  obtain ⟨b, xs, hb, hx⟩ := State.ints_of_pre rfl harr hlen hall
  have hsm : xs.length < 2 ^ 31 := hx.choose_spec.2.2.2
  have hev : (Term.length (.arg 0)).eval args s none [] s = some (.int xs.length.toInt32) := hx.length_eval hb
  have hv := Cond.le_ints hev (show (Term.int 3072).eval args s none [] s = some (.int 3072) from rfl)
  have hd : xs.length.toInt32 ≤ 3072 := by
    simpa [Cond.before, Cond.holds, hv] using hle
  have hN : xs.length ≤ 3072 := (Int32.ofNat_le_ofNat hsm (by decide)).mp (show Int32.ofNat xs.length ≤ Int32.ofNat 3072 from hd)
  exact ⟨b, xs, Cond.one_arg hc (show args[0]? = some (.ref b) from hb), hx, hN, h⟩
theorem lw_comes (hsim : Sim) (l : Launch) (hl9 : l.stackTraces = false) : Comes l x (Jvm.Cond.code x code maxLocals ret :: tables_1) room_1 (fun tb e args s => Calls_1 tb e args s ∧ rest_1 tb e args s ∧ Pre_1 tb e args s)
    (fun _ _ args s o t => lw_Q args s o t) := by
  intro p e ha hc hk s m args below hf hfit hheap happ hpre
  obtain ⟨b, xs, hP⟩ := lw_pre_spec hpre.2.2 hpre.2.1
  obtain ⟨k, o, h1, h2, h3, hQ⟩ := lw_walk hsim l hl9 b xs p e ha hc hk s m args below hf ((Spec.applies_iff_loose hf).mp happ).1 hP trivial
  exact ⟨k, o, h1, h2, h3, hQ⟩
theorem lw_frame {s t : State} {o : Outcome} {args : Array Value} (h : Framed s o t [] 612593 7258324) :
    Framed s o t (fieldLocs frame_1_writes args s ++ arrayLocs frame_1_arrays args s ++ staticLocs frame_1_statics s) 612593 7258324 := h
theorem lw_limb (hsim : Sim) (L : Cond) (hL : ∀ (args : Array Value) (s t : State), L.after args s (.returned (some (.int 1))) t = true) :
    ArmFor flags0 classFile x code maxLocals ret World_1 tables_1 room_1 Calls_1 rest_1 Pre_1
      (fun tb e a s o t => postC L tb e a s o t ∧ Framed s o t (fieldLocs frame_1_writes a s ++ arrayLocs frame_1_arrays a s ++ staticLocs frame_1_statics s) 612593 7258324) := by
  intro l hfl _ _ p e ha hc hk s m args below hf hfit hheap happ hpre
  obtain ⟨k, o, h1, h2, h3, rfl, hF⟩ := lw_comes hsim l (by unfold Launch.stackTraces; rw [hfl]; decide +kernel) p e ha hc hk s m args below hf hfit hheap happ hpre
  exact ⟨k, _, h1, h2, h3, hL args s _, lw_frame hF⟩
theorem vc_of (hsim : Sim) : Claimed_1_1 ∧ Claimed_1_2 := ⟨lw_limb hsim limb_1_1 (fun args s t => by simp [limb_1_1, Cond.after, Cond.holds, Cond.value]), lw_limb hsim limb_1_2 (fun args s t => Cond.after_iff.mpr (by
  first | (rw [show limb_1_2 = Cond.eq .result (.int 1) from rfl, Cond.eq_ints (x := 1) (y := 1) rfl rfl]; simp; done) | (simp [limb_1_2, Cond.value, Term.eval]; done)))⟩
