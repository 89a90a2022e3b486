section GCall
variable {p : Program} {l : Launch} {e : Env} {R : Room} {s : State} {m : MethodId} {args : Array Value} {below : List Frame} {meth : Method} {c : Code} {H : Heap} {locs : List Loc} {cells slots : Nat} {Q : State → Prop}
variable {cc : ByteArray} {pc nL : Nat} {ls : Array Slot} {rest st0 : List Value} {D : va_G} {A : Nat → Prop} {tys : List (ClassId × FieldType)} {G : List Gp} {own : String} {ret : Option FieldType} {Ts : List Cond} {X : (Nat → Prop) → State → Prop}
theorem AA_sub {H0 : Heap} (hD : va_D A (GW G)) (hS : va_S A H0 H locs) (hA : ∀ q, H0.size ≤ q → A q) : ∀ q, AA (adrs G) H.size q → A q := by
  intro q hq
  rcases hq with h | h
  · rw [← GW_adrs] at h
    obtain ⟨x, hx, rfl⟩ := List.mem_map.mp h
    obtain ⟨k, hk⟩ := List.getElem?_of_mem hx
    exact hD.2 k x hk
  · exact hA q (Nat.le_trans hS.1 h)
theorem g_blind {vs : List Value} {sz : Nat} (hR : Rides X) : FrameBlind (va_Pc vs (Pre D tys G X sz)) := by
  intro a U g mk h
  obtain ⟨h1, h2, h3, h4, h5, h6⟩ := h
  exact ⟨h1, h2, h3, va_K.moved (u := U) (U := U.calling g mk a) (Vm.Alike.refl U.vm) h4, h5, hR.1 _ _ _ _ _ h6⟩
theorem g_pre {X2 : (Nat → Prop) → State → Prop} (K : Cx p s m args meth c D A tys own cc nL ret Ts X) (hw : Wd D A s.heap G H locs) {vs : List Value} (hX : ∀ U : State, U.heap = H → s.WarmedH U.vm → X2 (AA (adrs G) H.size) U) : ∀ U : State, U.heap = H → s.WarmedH U.vm → va_Pc vs (Pre D tys G X2 H.size) vs.toArray U := by
  intro U hU hW
  obtain ⟨hx, hb, hml, hown, hts, hr, hlo, hK, hA, hX1⟩ := K
  exact ⟨rfl, by rw [hU], by rw [hU]; exact hw.1, va_K.moved hW.alike hK, hw.2.1.weaken (fun _ _ _ _ => trivial), hX U hU hW⟩
theorem g_ride (hR : Rides X) (K : Cx p s m args meth c D A tys own cc nL ret Ts X) (hw : Wd D A s.heap G H locs) : ∀ U : State, U.heap = H → s.WarmedH U.vm → X (AA (adrs G) H.size) U := by
  intro U hU hW
  obtain ⟨hx, hb, hml, hown, hts, hr, hlo, hK, hA, hX1⟩ := K
  exact hR.2 A _ s U locs hX1 (by rw [hU]; exact hw.2.2) (AA_sub hw.2.1 hw.2.2 hA) hW
theorem g_none (U : State) (_ : U.heap = H) (_ : s.WarmedH U.vm) : (fun (_ : Nat → Prop) (_ : State) => True) (AA (adrs G) H.size) U := trivial
theorem g_recv (K : Cx p s m args meth c D A tys own cc nL ret Ts X) (hw : Wd D A s.heap G H locs) (k : Nat) {i n ci : Nat} {ad : Nat → Nat} {ce : Nat → va_E} (hk : G[k]? = some (n, ad, ce)) (hi : i < n) {fs : List Value} (hce : ce i = .inr (ci, fs)) {q : vw_C} (hc : vwCl[ci]? = some q) : ∃ cell : Cell, H[ad i]? = some cell ∧ cell.vm.isStatics = false ∧ s.vm.findClass q.1 = some cell.cls := by
  obtain ⟨hx, hb, hml, hown, hts, hr, hlo, hK, hA, hX1⟩ := K
  obtain ⟨r, h1, -⟩ := GW_at G k i _ hk hi
  exact va_recv hK hw.1 hc (h1.trans (by rw [show ((n, ad, ce) : Gp).2.2 i = ce i from rfl, hce]))
theorem g_fix (K : Cx p s m args meth c D A tys own cc nL ret Ts X) : CallFix p m c cc nL s args Ts own := by
  obtain ⟨hx, hb, hml, hown, hts, hr, hlo, hK, hA, hX1⟩ := K
  exact ⟨hx, hb, hml, hown, hts⟩
theorem g_hts (K : Cx p s m args meth c D A tys own cc nL ret Ts X) : ∀ w ∈ Ts, w.before args s = true := by
  obtain ⟨hx, hb, hml, hown, hts, hr, hlo, hK, hA, hX1⟩ := K
  exact hts
theorem g_calli {St : Type} {GG : St → List Gp} {post : Int32 → St → Prop} {a : Array Value} {mc ms : Nat} (K : Cx p s m args meth c D A tys own cc nL ret Ts X) (hw : Wd D A s.heap G H locs) (hr : va_Run p l e R s m args below meth c H locs cells slots mc ms (F0 m pc ls st0) rest (va_Qi post (fun u => Pst D tys (AA (adrs G) H.size) (GG u)) (AA (adrs G) H.size) a) (AA (adrs G) H.size))
    (kk : ∀ (r : Int32) (u : St) (H1 : Heap) (locs1 : List Loc), post r u → Wd D A s.heap (GG u) H1 locs1 → W p l e R s m args below meth c H1 locs1 (cells + mc) (slots + ms) Q (F0 m (pc + 3) ls (.int r :: rest))) : W p l e R s m args below meth c H locs cells slots Q (F0 m pc ls st0) := by
  obtain ⟨hx, hb, hml, hown, hts, hrt, hlo, hK, hA, hX1⟩ := K
  have hF := AA_sub hw.2.1 hw.2.2 hA
  refine va_calli hr hw.2.2 (fun q _ h => hF q h) hF (fun r u t H1 locs1 ht hvm hp hB hz hk hS => kk r u H1 locs1 hp ⟨?_, hB.2.2.weaken (fun _ _ _ h => hF _ h), hS⟩)
  rw [← ht]; exact hB.1
theorem g_calll {St : Type} {GG : St → List Gp} {post : Int64 → St → Prop} {a : Array Value} {mc ms : Nat} (K : Cx p s m args meth c D A tys own cc nL ret Ts X) (hw : Wd D A s.heap G H locs) (hr : va_Run p l e R s m args below meth c H locs cells slots mc ms (F0 m pc ls st0) rest (va_Ql post (fun u => Pst D tys (AA (adrs G) H.size) (GG u)) (AA (adrs G) H.size) a) (AA (adrs G) H.size))
    (kk : ∀ (r : Int64) (u : St) (H1 : Heap) (locs1 : List Loc), post r u → Wd D A s.heap (GG u) H1 locs1 → W p l e R s m args below meth c H1 locs1 (cells + mc) (slots + ms) Q (F0 m (pc + 3) ls (.long r :: rest))) : W p l e R s m args below meth c H locs cells slots Q (F0 m pc ls st0) := by
  obtain ⟨hx, hb, hml, hown, hts, hrt, hlo, hK, hA, hX1⟩ := K
  have hF := AA_sub hw.2.1 hw.2.2 hA
  refine va_calll hr hw.2.2 (fun q _ h => hF q h) hF (fun r u t H1 locs1 ht hvm hp hB hz hk hS => kk r u H1 locs1 hp ⟨?_, hB.2.2.weaken (fun _ _ _ h => hF _ h), hS⟩)
  rw [← ht]; exact hB.1
theorem g_callv {St : Type} {GG : St → List Gp} {post : St → Prop} {a : Array Value} {mc ms : Nat} (K : Cx p s m args meth c D A tys own cc nL ret Ts X) (hw : Wd D A s.heap G H locs) (hr : va_Run p l e R s m args below meth c H locs cells slots mc ms (F0 m pc ls st0) rest (va_Qv post (fun u => Pst D tys (AA (adrs G) H.size) (GG u)) (AA (adrs G) H.size) a) (AA (adrs G) H.size))
    (kk : ∀ (u : St) (H1 : Heap) (locs1 : List Loc), post u → Wd D A s.heap (GG u) H1 locs1 → W p l e R s m args below meth c H1 locs1 (cells + mc) (slots + ms) Q (F0 m (pc + 3) ls rest)) : W p l e R s m args below meth c H locs cells slots Q (F0 m pc ls st0) := by
  obtain ⟨hx, hb, hml, hown, hts, hrt, hlo, hK, hA, hX1⟩ := K
  have hF := AA_sub hw.2.1 hw.2.2 hA
  refine va_callv hr hw.2.2 (fun q _ h => hF q h) hF (fun u t H1 locs1 ht hvm hp hB hz hk hS => kk u H1 locs1 hp ⟨?_, hB.2.2.weaken (fun _ _ _ h => hF _ h), hS⟩)
  rw [← ht]; exact hB.1
theorem g_callq {St : Type} {GG : St → List Gp} {post : Option Nat → St → Prop} {a : Array Value} {mc ms : Nat} (K : Cx p s m args meth c D A tys own cc nL ret Ts X) (hw : Wd D A s.heap G H locs) (hr : va_Run p l e R s m args below meth c H locs cells slots mc ms (F0 m pc ls st0) rest (va_Qq post (fun u => Pst D tys (AA (adrs G) H.size) (GG u)) (AA (adrs G) H.size) a) (AA (adrs G) H.size))
    (kk : ∀ (r : Option Nat) (u : St) (H1 : Heap) (locs1 : List Loc), post r u → Wd D A s.heap (GG u) H1 locs1 → W p l e R s m args below meth c H1 locs1 (cells + mc) (slots + ms) Q (F0 m (pc + 3) ls (va_rf r :: rest))) : W p l e R s m args below meth c H locs cells slots Q (F0 m pc ls st0) := by
  obtain ⟨hx, hb, hml, hown, hts, hrt, hlo, hK, hA, hX1⟩ := K
  have hF := AA_sub hw.2.1 hw.2.2 hA
  refine va_callq hr hw.2.2 (fun q _ h => hF q h) hF (fun r u t H1 locs1 ht hvm hp hB hz hk hS => kk r u H1 locs1 hp ⟨?_, hB.2.2.weaken (fun _ _ _ h => hF _ h), hS⟩)
  rw [← ht]; exact hB.1
theorem g_iret {St : Type} {GG : St → List Gp} {u : St} {post : Int32 → St → Prop} {v : Int32} (K : Cx p s m args meth c D A tys own cc nL (some .int) Ts X) (hw : Wd D A s.heap (GG u) H locs) (hp : post v u) (hdg : decode cc pc = .ok (.ireturn, 1)) : W p l e R s m args below meth c H locs cells slots (MQ below (va_Qi post (fun u => Pst D tys A (GG u)) A) args s cells slots A) (F0 m pc ls [.int v]) := by
  obtain ⟨hx, hb, hml, hown, hts, hr, hlo, hK, hA, hX1⟩ := K
  exact W.iret hx hb hr (fun t ht hW => ⟨⟨v, u, rfl, hp, by rw [ht]; exact hw.1, va_K.moved hW.alike hK, hw.2.1⟩, hw.2.2.F ht⟩) hw.2.2.2.2 hdg hlo
theorem g_zret {St : Type} {GG : St → List Gp} {u : St} {post : Int32 → St → Prop} {v : Int32} (K : Cx p s m args meth c D A tys own cc nL (some .boolean) Ts X) (hw : Wd D A s.heap (GG u) H locs) (hz : isZ v = true) (hp : post v u) (hdg : decode cc pc = .ok (.ireturn, 1)) : W p l e R s m args below meth c H locs cells slots (MQ below (va_Qi post (fun u => Pst D tys A (GG u)) A) args s cells slots A) (F0 m pc ls [.int v]) := by
  obtain ⟨hx, hb, hml, hown, hts, hr, hlo, hK, hA, hX1⟩ := K
  exact W.zret hx hb hr (isZ_n hz).1 (fun t ht hW => ⟨⟨v, u, rfl, hp, by rw [ht]; exact hw.1, va_K.moved hW.alike hK, hw.2.1⟩, hw.2.2.F ht⟩) hw.2.2.2.2 hdg hlo
theorem g_lret {St : Type} {GG : St → List Gp} {u : St} {post : Int64 → St → Prop} {v : Int64} (K : Cx p s m args meth c D A tys own cc nL (some .long) Ts X) (hw : Wd D A s.heap (GG u) H locs) (hp : post v u) (hdg : decode cc pc = .ok (.lreturn, 1)) : W p l e R s m args below meth c H locs cells slots (MQ below (va_Ql post (fun u => Pst D tys A (GG u)) A) args s cells slots A) (F0 m pc ls [.long v]) := by
  obtain ⟨hx, hb, hml, hown, hts, hr, hlo, hK, hA, hX1⟩ := K
  exact W.lret hx hb hr (fun t ht hW => ⟨⟨v, u, rfl, hp, by rw [ht]; exact hw.1, va_K.moved hW.alike hK, hw.2.1⟩, hw.2.2.F ht⟩) hw.2.2.2.2 hdg hlo
theorem g_vret {St : Type} {GG : St → List Gp} {u : St} {post : St → Prop} (K : Cx p s m args meth c D A tys own cc nL none Ts X) (hw : Wd D A s.heap (GG u) H locs) (hp : post u) (hdg : decode cc pc = .ok (.return_, 1)) : W p l e R s m args below meth c H locs cells slots (MQ below (va_Qv post (fun u => Pst D tys A (GG u)) A) args s cells slots A) (F0 m pc ls []) := by
  obtain ⟨hx, hb, hml, hown, hts, hr, hlo, hK, hA, hX1⟩ := K
  exact W.vret hx hb hr (fun t ht hW => ⟨⟨u, rfl, hp, by rw [ht]; exact hw.1, va_K.moved hW.alike hK, hw.2.1⟩, hw.2.2.F ht⟩) hw.2.2.2.2 hdg hlo
theorem g_aret {St : Type} {GG : St → List Gp} {u : St} {post : Option Nat → St → Prop} {r : Option Nat} {nm : String} (K : Cx p s m args meth c D A tys own cc nL (some (.object nm)) Ts X) (hw : Wd D A s.heap (GG u) H locs) (hp : post r u) (hdg : decode cc pc = .ok (.areturn, 1)) : W p l e R s m args below meth c H locs cells slots (MQ below (va_Qq post (fun u => Pst D tys A (GG u)) A) args s cells slots A) (F0 m pc ls [va_rf r]) := by
  obtain ⟨hx, hb, hml, hown, hts, hr, hlo, hK, hA, hX1⟩ := K
  exact W.aret hx hb hr (Or.inl ⟨nm, rfl⟩) (va_rf_or r) (fun t ht hW => ⟨⟨r, u, rfl, hp, by rw [ht]; exact hw.1, va_K.moved hW.alike hK, hw.2.1⟩, hw.2.2.F ht⟩) hw.2.2.2.2 hdg hlo
end GCall
theorem g_met {l : Launch} {y : MethodName} {ws ws' : List Cond} {rm : Room} {D : va_G} {tys : List (ClassId × FieldType)} {G : List Gp} {X : (Nat → Prop) → State → Prop} {cc : ByteArray} {maxL : Nat} {ret : Option FieldType} {vs : List Value} {sz mc ms : Nat} {Qc : Array Value → State → Outcome → State → Prop} {free : Addr → Prop} (hy : plainName y.cls = true) (hw : ws = Cond.code y cc maxL ret :: ws') (hlen : (lg_sl vs).length ≤ maxL)
    (body : ∀ (p : Program) (e : Env) (s : State) (m : MethodId) (args : Array Value) (below : List Frame) (meth : Method) (c : Code), Cx p s m args meth c D (AA (adrs G) sz) tys y.cls cc maxL ret ws X → Wd D (AA (adrs G) sz) s.heap G s.heap [] → ∀ ls : Array Slot, lv_has ls maxL (lv_args 0 vs) → W p l e rm s m args below meth c s.heap [] 0 0 (MQ below Qc args s mc ms free) (F0 m 0 ls [])) :
    Met l y ws rm (va_Pc vs (Pre D tys G X sz)) Qc mc ms free := by
  refine Met.ofW (cc := cc) (maxL := maxL) (ret := ret) hy hw ?_
  intro p e s m args below meth c s₁ B hml hv
  obtain ⟨rfl, hsz, hP, hK, hD0, hX⟩ := hv
  have hts := atoms_spec (ws := ws) B.pre
  have hown : s.vm.findClass y.cls = some m.cls := findClass_of_methodNamed B.named
  have hl := lv_entry vs (n := maxL) hlen
  rw [lg_entry_eq]
  generalize (lg_sl vs ++ List.replicate (maxL - (lg_sl vs).length) Slot.unset).toArray = ls at hl ⊢
  exact body p e s m vs.toArray below meth c ⟨B.exec, B.bytes, hml, hown, hts, B.returns, B.notSynchronized, hK, fun q h => Or.inr (by rw [← hsz]; exact h), hX⟩ ⟨hP, ⟨hD0.1, fun k q hq => AA_in hq⟩, va_S.rf⟩ ls hl
