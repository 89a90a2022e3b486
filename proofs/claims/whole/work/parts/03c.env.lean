/-! ===== the environment of the class's methods: the nest link, the texts, the words of its exceptions ===== -/
def exN : Nat → String
  | 1 => "java/lang/IllegalArgumentException"
  | 2 => "java/util/NoSuchElementException"
  | 3 => "java/lang/IllegalStateException"
  | _ => "java/lang/IndexOutOfBoundsException"
def evS : List (Nat × String) := [(70, "there are four classes"), (89, "there would be too many records"), (124, "the number is not in the range"), (141, "the reference can't refer to that"), (148, "no word"), (154, "twelve words wait"), (163, "no step"), (168, "six steps wait"), (181, "no step waits"), (186, "the class has ten versions"), (191, "the script is refused"), (197, "there is no change that can be taken back"), (239, "nothing is told by this number"), (243, "no such field"), (255, "no such class"), (257, "no such root"), (262, "no such name"), (278, "the root holds nothing"), (287, "no such number"), (292, "no such reference")]
def evC : List String := ["java/lang/IllegalArgumentException", "java/util/NoSuchElementException", "java/lang/IllegalStateException", "java/lang/IndexOutOfBoundsException"]
def evD : List String := ["java/lang/RuntimeException", "java/lang/Exception", "java/lang/Throwable"]
def iniS (Y : String) : MethodName := ⟨Y, "<init>", "(Ljava/lang/String;)V"⟩
def EV (A : Nat → Prop) (U : State) : Prop := va_Nw (.methodLinkNest RX4 43 yX7_isIn RX7) U ∧ (∀ q ∈ evS, ∃ sa, vk_R RX7 q.1 q.2 sa U) ∧ (∀ E ∈ evC, va_Nw (.castable E E) U) ∧ (∀ Y ∈ evD, va_Nw (.declares (iniS Y)) U) ∧ vx_Zq Bundle.tN "UNASSIGNED_STACK" Bundle.steD A U U.heap ∧ vx_Zq Bundle.tN "SUPPRESSED_SENTINEL" Bundle.listD A U U.heap
theorem rides_EV : Rides EV := by
  refine ⟨fun A U g mk a h => ?_, fun A B s U locs h hS hAB hW => ?_⟩
  · obtain ⟨h1, h2, h3, h4, h5, h6⟩ := h
    have hv : (U.calling g mk a).vm = U.vm := rfl
    refine ⟨va_Nw.same rfl hv.symm h1, fun q hq => ?_, fun E hE => va_Nw.same rfl hv.symm (h3 E hE), fun Y hY => va_Nw.same rfl hv.symm (h4 Y hY), ?_, ?_⟩
    · obtain ⟨sa, h⟩ := h2 q hq
      exact ⟨sa, vk_R.same hv h⟩
    · exact vx_Zq.moved (u := U) (U := U.calling g mk a) (Vm.Alike.refl U.vm) h5
    · exact vx_Zq.moved (u := U) (U := U.calling g mk a) (Vm.Alike.refl U.vm) h6
  · obtain ⟨h1, h2, h3, h4, h5, h6⟩ := h
    refine ⟨va_Nw.warmM hW h1, fun q hq => ?_, fun E hE => va_Nw.warmC hW (h3 E hE), fun Y hY => va_Nw.warmD hW (h4 Y hY), ?_, ?_⟩
    · obtain ⟨sa, h⟩ := h2 q hq
      exact ⟨sa, vk_R.warm hW h⟩
    · exact vx_Zq.narrow (vx_Zq.kept (vx_Zq.moved hW.alike h5) (fun a h1 h2 => hS.2.1 a h1 h2)) hAB
    · exact vx_Zq.narrow (vx_Zq.kept (vx_Zq.moved hW.alike h6) (fun a h1 h2 => hS.2.1 a h1 h2)) hAB
abbrev rteL : List String := ["java/lang/RuntimeException", "java/lang/Exception"]
/-- the words of a throw of IllegalArgumentException, IllegalStateException or IndexOutOfBoundsException -/
theorem ev_hat {A : Nat → Prop} {s : State} {args : Array Value} {Ts : List Cond} {ic : Nat} {E : String} (hX : EV A s) (hE : E ∈ evC) (hts : ∀ w ∈ Ts, w.before args s = true) (hin : ∀ w ∈ (vx_atS RX7 ic E rteL).filter goodWord, w ∈ Ts)
    (hB : ∀ w ∈ (vx_atS RX7 ic E rteL).filter (fun w => !goodWord w), w ∈ [Cond.castable E E, .declares (iniS "java/lang/RuntimeException"), .declares (iniS "java/lang/Exception"), .declares (iniS "java/lang/Throwable")]) : ∀ w ∈ vx_atS RX7 ic E rteL, w.before args s = true :=
  vx_hat (fun w hw => hts w (hin w hw)) hB (vx_c (va_Nw.use rfl (hX.2.2.1 E hE)) (vx_c (va_Nw.use rfl (hX.2.2.2.1 "java/lang/RuntimeException" (by decide))) (vx_c (va_Nw.use rfl (hX.2.2.2.1 "java/lang/Exception" (by decide))) (vx_c (va_Nw.use rfl (hX.2.2.2.1 "java/lang/Throwable" (by decide))) vx_n))))
/-- what a method leaves that throws: exN k, the world as out says -/
def XCx {α : Type} (D : va_G) (tys : List (ClassId × FieldType)) (A : Nat → Prop) (GG : CSt → List Gp) (out : α ⊕ (Nat × CSt)) : String → State → State → Prop := vx_X (fun u : Nat × CSt => out = .inr u) (fun E u t => E = exN u.1 ∧ Pst D tys A (GG u.2) t) A
section VXQ
variable {p : Program} {l : Launch} {e : Env} {R : Room} {s : State} {m : MethodId} {args : Array Value} {below : List Frame} {meth : Method} {c : Code} {H : Heap} {locs : List Loc} {cells slots : Nat} {Q : State → Prop}
variable {mc ms pc : Nat} {free : Addr → Prop} {A0 A1 : Nat → Prop} {H0 : Heap} {a : Array Value} {ls : Array Slot} {st0 rest : List Value}
theorem vx_callq {S SX : Type} {post : Option Nat → S → Prop} {px : SX → Prop} {B : S → State → Prop} {BX : String → SX → State → Prop} {AX : Nat → Prop} (hr : vx_Run p l e R s m args below meth c H locs cells slots mc ms (F0 m pc ls st0) rest (va_Qq post B A1 a) (vx_X px BX AX) free) (hS : va_S A0 H0 H locs) (hA : ∀ q, q < H.size → A1 q → A0 q) (hf : ∀ q, free q → A0 q) (hAX : ∀ q, q < H.size → AX q → A0 q)
    (kx : ∀ (E : String) (ce : Cell) (q9 : Addr) (u : SX) (t : State) (H1 : Heap) (locs1 : List Loc), t.heap = H1 → s.vm.Alike t.vm → px u → BX E u t → H.size ≤ H1.size → (∀ q : Nat, q < H.size → ¬ AX q → H1[q]? = H[q]?) → va_S A0 H0 H1 locs1 → H1[q9]? = some ce → ce.vm = .none → s.vm.findClass E = some ce.cls → vx_W p l e R s m args below meth c H1 locs1 (cells + mc) (slots + ms) Q (F0 m pc ls rest) q9)
    (kk : ∀ (r : Option Nat) (u : S) (t : State) (H1 : Heap) (locs1 : List Loc), t.heap = H1 → s.vm.Alike t.vm → post r u → B u t → H.size ≤ H1.size → (∀ q : Nat, q < H.size → ¬ A1 q → H1[q]? = H[q]?) → va_S A0 H0 H1 locs1 → W p l e R s m args below meth c H1 locs1 (cells + mc) (slots + ms) Q (F0 m (pc + 3) ls (va_rf r :: rest))) : W p l e R s m args below meth c H locs cells slots Q (F0 m pc ls st0) := by
  intro T hT X
  rcases hr T hT X with ⟨v, st₀, t, T', L, h0, X', hL, e1, e2, ⟨⟨r, u, hv, hp, hb⟩, hF⟩, st⟩ | ⟨q, st₀, t, T', L, E, ce, h0, X', hL, e1, e2, ⟨u, hp, hb, hF⟩, hce, hcv, hcl, st⟩
  · cases hv
    obtain ⟨k1, k2, k3⟩ := vx_keep h0 e1 hS hA hf hL hF
    obtain ⟨t2, a1, b1⟩ := kk r u t T'.heap (locs ++ L) e1.symm (by rw [← e2]; exact X'.warmed.alike) hp hb k1 k2 k3 T' rfl X'
    exact ⟨t2, st t2 a1, b1⟩
  · obtain ⟨k1, k2, k3⟩ := vx_keep h0 e1 hS hAX hf hL hF
    obtain ⟨t2, a1, b1⟩ := kx E ce q u t T'.heap (locs ++ L) e1.symm (by rw [← e2]; exact X'.warmed.alike) hp hb k1 k2 k3 (by rw [e1]; exact hce) hcv hcl T' rfl X'
    exact ⟨t2, st.trans a1, b1⟩
end VXQ
section GThrow
variable {p : Program} {l : Launch} {e : Env} {R : Room} {s : State} {m : MethodId} {args : Array Value} {below : List Frame} {meth : Method} {c : Code} {H : Heap} {locs : List Loc} {cells slots : Nat}
variable {cc : ByteArray} {pc nL : Nat} {ls : Array Slot} {rest st0 : List Value} {D : va_G} {A : Nat → Prop} {tys : List (ClassId × FieldType)} {G : List Gp} {own : String} {ret : Option FieldType} {Ts : List Cond} {X : (Nat → Prop) → State → Prop} {GG : CSt → List Gp}
theorem g_xc {α : Type} {out : α ⊕ (Nat × CSt)} {S : CSt} {k : Nat} (K : Cx p s m args meth c D A tys own cc nL ret Ts X) (hw : Wd D A s.heap (GG S) H locs) (ho : out = .inr (k, S)) {cls : String} (hE : cls = exN k) : ∀ t : State, s.vm.Alike t.vm → H.size ≤ t.heap.size → (∀ q : Nat, q < H.size → t.heap[q]? = H[q]?) → XCx D tys A GG out cls s t := by
  intro t ha hsz hk
  obtain ⟨hx, hb, hml, hown, hts, hr, hlo, hK, hA, hX1⟩ := K
  exact ⟨(k, S), ho, ⟨hE, hw.1.kept (fun k q hq => hk q.1 (hw.1 k q hq).lt), va_K.moved ha hK, hw.2.1⟩, Nat.le_trans hw.2.2.1 hsz, fun q h1 h2 => (hk q (Nat.lt_of_lt_of_le h1 hw.2.2.1)).trans (hw.2.2.2.1 q h1 h2)⟩

theorem g_xcalli {α β : Type} {Qc : Array Value → State → Outcome → State → Prop} {out1 : β ⊕ (Nat × CSt)} {out : α ⊕ (Nat × CSt)} {post : Int32 → CSt → Prop} {a : Array Value} {mc ms mc2 ms2 : Nat} (K : Cx p s m args meth c D A tys own cc nL ret Ts X) (hno : ∀ x ∈ c.exceptionTable.toList, False) (hw : Wd D A s.heap G H locs) (hr : vx_Run p l e R s m args below meth c H locs cells slots mc ms (F0 m pc ls st0) rest (va_Qi post (fun u => Pst D tys (AA (adrs G) H.size) (GG u)) (AA (adrs G) H.size) a) (XCx D tys (AA (adrs G) H.size) GG out1) (AA (adrs G) H.size))
    (ho : ∀ u, out1 = .inr u → out = .inr u) (hc : cells + mc ≤ mc2) (hs : slots + ms ≤ ms2)
    (kk : ∀ (r : Int32) (u : CSt) (H1 : Heap) (locs1 : List Loc), post r u → Wd D A s.heap (GG u) H1 locs1 → W p l e R s m args below meth c H1 locs1 (cells + mc) (slots + ms) (vx_MQ below Qc (XCx D tys A GG out) args s mc2 ms2 A) (F0 m (pc + 3) ls (.int r :: rest))) : W p l e R s m args below meth c H locs cells slots (vx_MQ below Qc (XCx D tys A GG out) args s mc2 ms2 A) (F0 m pc ls st0) := by
  obtain ⟨hx, hb, hml, hown, hts, hrt, hlo, hK, hA, hX1⟩ := K
  have hF := AA_sub hw.2.1 hw.2.2 hA
  refine vx_calli hr hw.2.2 (fun q _ h => hF q h) hF (fun q _ h => hF q h) (fun E ce q9 u t H1 locs1 ht hvm hp hB hz hk hS hce hv hcl => ?_) (fun r u t H1 locs1 ht hvm hp hB hz hk hS => kk r u H1 locs1 hp ⟨?_, hB.2.2.weaken (fun _ _ _ h => hF _ h), hS⟩)
  · refine vx_out (fun x h => (hno x h).elim) hlo hce hv hcl (fun t2 ht2 ha2 => ⟨u, ho u hp, ⟨hB.1, ?_, va_K.moved ha2 hK, hB.2.2.2.weaken (fun _ _ _ h => hF _ h)⟩, hS.F ht2⟩) hS.2.2 hc hs
    rw [ht2, ← ht]; exact hB.2.1
  · rw [← ht]; exact hB.1
theorem g_xcalll {α β : Type} {Qc : Array Value → State → Outcome → State → Prop} {out1 : β ⊕ (Nat × CSt)} {out : α ⊕ (Nat × CSt)} {post : Int64 → CSt → Prop} {a : Array Value} {mc ms mc2 ms2 : Nat} (K : Cx p s m args meth c D A tys own cc nL ret Ts X) (hno : ∀ x ∈ c.exceptionTable.toList, False) (hw : Wd D A s.heap G H locs) (hr : vx_Run p l e R s m args below meth c H locs cells slots mc ms (F0 m pc ls st0) rest (va_Ql post (fun u => Pst D tys (AA (adrs G) H.size) (GG u)) (AA (adrs G) H.size) a) (XCx D tys (AA (adrs G) H.size) GG out1) (AA (adrs G) H.size))
    (ho : ∀ u, out1 = .inr u → out = .inr u) (hc : cells + mc ≤ mc2) (hs : slots + ms ≤ ms2)
    (kk : ∀ (r : Int64) (u : CSt) (H1 : Heap) (locs1 : List Loc), post r u → Wd D A s.heap (GG u) H1 locs1 → W p l e R s m args below meth c H1 locs1 (cells + mc) (slots + ms) (vx_MQ below Qc (XCx D tys A GG out) args s mc2 ms2 A) (F0 m (pc + 3) ls (.long r :: rest))) : W p l e R s m args below meth c H locs cells slots (vx_MQ below Qc (XCx D tys A GG out) args s mc2 ms2 A) (F0 m pc ls st0) := by
  obtain ⟨hx, hb, hml, hown, hts, hrt, hlo, hK, hA, hX1⟩ := K
  have hF := AA_sub hw.2.1 hw.2.2 hA
  refine vx_calll hr hw.2.2 (fun q _ h => hF q h) hF (fun q _ h => hF q h) (fun E ce q9 u t H1 locs1 ht hvm hp hB hz hk hS hce hv hcl => ?_) (fun r u t H1 locs1 ht hvm hp hB hz hk hS => kk r u H1 locs1 hp ⟨?_, hB.2.2.weaken (fun _ _ _ h => hF _ h), hS⟩)
  · refine vx_out (fun x h => (hno x h).elim) hlo hce hv hcl (fun t2 ht2 ha2 => ⟨u, ho u hp, ⟨hB.1, ?_, va_K.moved ha2 hK, hB.2.2.2.weaken (fun _ _ _ h => hF _ h)⟩, hS.F ht2⟩) hS.2.2 hc hs
    rw [ht2, ← ht]; exact hB.2.1
  · rw [← ht]; exact hB.1
theorem g_xcallv {α β : Type} {Qc : Array Value → State → Outcome → State → Prop} {out1 : β ⊕ (Nat × CSt)} {out : α ⊕ (Nat × CSt)} {post : CSt → Prop} {a : Array Value} {mc ms mc2 ms2 : Nat} (K : Cx p s m args meth c D A tys own cc nL ret Ts X) (hno : ∀ x ∈ c.exceptionTable.toList, False) (hw : Wd D A s.heap G H locs) (hr : vx_Run p l e R s m args below meth c H locs cells slots mc ms (F0 m pc ls st0) rest (va_Qv post (fun u => Pst D tys (AA (adrs G) H.size) (GG u)) (AA (adrs G) H.size) a) (XCx D tys (AA (adrs G) H.size) GG out1) (AA (adrs G) H.size))
    (ho : ∀ u, out1 = .inr u → out = .inr u) (hc : cells + mc ≤ mc2) (hs : slots + ms ≤ ms2)
    (kk : ∀ (u : CSt) (H1 : Heap) (locs1 : List Loc), post u → Wd D A s.heap (GG u) H1 locs1 → W p l e R s m args below meth c H1 locs1 (cells + mc) (slots + ms) (vx_MQ below Qc (XCx D tys A GG out) args s mc2 ms2 A) (F0 m (pc + 3) ls (rest))) : W p l e R s m args below meth c H locs cells slots (vx_MQ below Qc (XCx D tys A GG out) args s mc2 ms2 A) (F0 m pc ls st0) := by
  obtain ⟨hx, hb, hml, hown, hts, hrt, hlo, hK, hA, hX1⟩ := K
  have hF := AA_sub hw.2.1 hw.2.2 hA
  refine vx_callv hr hw.2.2 (fun q _ h => hF q h) hF (fun q _ h => hF q h) (fun E ce q9 u t H1 locs1 ht hvm hp hB hz hk hS hce hv hcl => ?_) (fun u t H1 locs1 ht hvm hp hB hz hk hS => kk u H1 locs1 hp ⟨?_, hB.2.2.weaken (fun _ _ _ h => hF _ h), hS⟩)
  · refine vx_out (fun x h => (hno x h).elim) hlo hce hv hcl (fun t2 ht2 ha2 => ⟨u, ho u hp, ⟨hB.1, ?_, va_K.moved ha2 hK, hB.2.2.2.weaken (fun _ _ _ h => hF _ h)⟩, hS.F ht2⟩) hS.2.2 hc hs
    rw [ht2, ← ht]; exact hB.2.1
  · rw [← ht]; exact hB.1
theorem g_xcallq {α β : Type} {Qc : Array Value → State → Outcome → State → Prop} {out1 : β ⊕ (Nat × CSt)} {out : α ⊕ (Nat × CSt)} {post : Option Nat → CSt → Prop} {a : Array Value} {mc ms mc2 ms2 : Nat} (K : Cx p s m args meth c D A tys own cc nL ret Ts X) (hno : ∀ x ∈ c.exceptionTable.toList, False) (hw : Wd D A s.heap G H locs) (hr : vx_Run p l e R s m args below meth c H locs cells slots mc ms (F0 m pc ls st0) rest (va_Qq post (fun u => Pst D tys (AA (adrs G) H.size) (GG u)) (AA (adrs G) H.size) a) (XCx D tys (AA (adrs G) H.size) GG out1) (AA (adrs G) H.size))
    (ho : ∀ u, out1 = .inr u → out = .inr u) (hc : cells + mc ≤ mc2) (hs : slots + ms ≤ ms2)
    (kk : ∀ (r : Option Nat) (u : CSt) (H1 : Heap) (locs1 : List Loc), post r u → Wd D A s.heap (GG u) H1 locs1 → W p l e R s m args below meth c H1 locs1 (cells + mc) (slots + ms) (vx_MQ below Qc (XCx D tys A GG out) args s mc2 ms2 A) (F0 m (pc + 3) ls (va_rf r :: rest))) : W p l e R s m args below meth c H locs cells slots (vx_MQ below Qc (XCx D tys A GG out) args s mc2 ms2 A) (F0 m pc ls st0) := by
  obtain ⟨hx, hb, hml, hown, hts, hrt, hlo, hK, hA, hX1⟩ := K
  have hF := AA_sub hw.2.1 hw.2.2 hA
  refine vx_callq hr hw.2.2 (fun q _ h => hF q h) hF (fun q _ h => hF q h) (fun E ce q9 u t H1 locs1 ht hvm hp hB hz hk hS hce hv hcl => ?_) (fun r u t H1 locs1 ht hvm hp hB hz hk hS => kk r u H1 locs1 hp ⟨?_, hB.2.2.weaken (fun _ _ _ h => hF _ h), hS⟩)
  · refine vx_out (fun x h => (hno x h).elim) hlo hce hv hcl (fun t2 ht2 ha2 => ⟨u, ho u hp, ⟨hB.1, ?_, va_K.moved ha2 hK, hB.2.2.2.weaken (fun _ _ _ h => hF _ h)⟩, hS.F ht2⟩) hS.2.2 hc hs
    rw [ht2, ← ht]; exact hB.2.1
  · rw [← ht]; exact hB.1
end GThrow
theorem g_xmet {l : Launch} {y : MethodName} {ws ws' : List Cond} {rm : Room} {D : va_G} {tys : List (ClassId × FieldType)} {G : List Gp} {X : (Nat → Prop) → State → Prop} {cc : ByteArray} {maxL : Nat} {ret : Option FieldType} {vs : List Value} {sz mc ms : Nat} {Qc : Array Value → State → Outcome → State → Prop} {XC : String → State → State → Prop} {free : Addr → Prop} (hy : plainName y.cls = true) (hw : ws = Cond.code y cc maxL ret :: ws') (hlen : (lg_sl vs).length ≤ maxL)
    (body : ∀ (p : Program) (e : Env) (s : State) (m : MethodId) (args : Array Value) (below : List Frame) (meth : Method) (c : Code), Cx p s m args meth c D (AA (adrs G) sz) tys y.cls cc maxL ret ws X → (∀ x ∈ c.exceptionTable.toList, False) → Wd D (AA (adrs G) sz) s.heap G s.heap [] → ∀ ls : Array Slot, lv_has ls maxL (lv_args 0 vs) → W p l e rm s m args below meth c s.heap [] 0 0 (vx_MQ below Qc XC args s mc ms free) (F0 m 0 ls [])) :
    vx_Met l y ws rm (va_Pc vs (Pre D tys G X sz)) Qc XC mc ms free := by
  refine vx_ofW (cc := cc) (maxL := maxL) (ret := ret) hy hw ?_
  intro p e s m args below meth c s₁ B hml hno hv
  obtain ⟨rfl, hsz, hP, hK, hD0, hX⟩ := hv
  have hts := atoms_spec (ws := ws) B.pre
  have hown : s.vm.findClass y.cls = some m.cls := findClass_of_methodNamed B.named
  have hl := lv_entry vs (n := maxL) hlen
  rw [lg_entry_eq]
  generalize (lg_sl vs ++ List.replicate (maxL - (lg_sl vs).length) Slot.unset).toArray = ls at hl ⊢
  exact body p e s m vs.toArray below meth c ⟨B.exec, B.bytes, hml, hown, hts, B.returns, B.notSynchronized, hK, fun q h => Or.inr (by rw [← hsz]; exact h), hX⟩ hno ⟨hP, ⟨hD0.1, fun k q hq => AA_in hq⟩, va_S.rf⟩ ls hl
