/-! ===== a callee that has one part of the world: the rest stays ===== -/
theorem GW_app : ∀ (G1 G2 : List Gp), GW (G1 ++ G2) = GW G1 ++ GW G2
  | [], G2 => rfl
  | g :: G1, G2 => by
    show gw g ++ GW (G1 ++ G2) = (gw g ++ GW G1) ++ GW G2
    rw [GW_app G1 G2, List.append_assoc]
section Frame
variable {D : va_G} {cl : List vw_C} {A : Nat → Prop} {a b : va_W} {H : Heap}
theorem lt_of_get {α : Type} {l : List α} {k : Nat} {x : α} (h : l[k]? = some x) : k < l.length := (List.getElem?_eq_some_iff.mp h).1
theorem P_l (h : va_P D cl (a ++ b) H) : va_P D cl a H := fun k q hk => h k q (by rw [List.getElem?_append_left (lt_of_get hk)]; exact hk)
theorem P_r (h : va_P D cl (a ++ b) H) : va_P D cl b H := fun k q hk => h (a.length + k) q (by rw [List.getElem?_append_right (Nat.le_add_right _ _), Nat.add_sub_cancel_left]; exact hk)
theorem D_l (h : va_D A (a ++ b)) : va_D A a := ⟨fun i j p q hi hj e => h.1 i j p q (by rw [List.getElem?_append_left (lt_of_get hi)]; exact hi) (by rw [List.getElem?_append_left (lt_of_get hj)]; exact hj) e, fun k q hk => h.2 k q (by rw [List.getElem?_append_left (lt_of_get hk)]; exact hk)⟩
theorem D_r (h : va_D A (a ++ b)) : va_D A b := ⟨fun i j p q hi hj e => by
  have := h.1 (a.length + i) (a.length + j) p q (by rw [List.getElem?_append_right (Nat.le_add_right _ _), Nat.add_sub_cancel_left]; exact hi) (by rw [List.getElem?_append_right (Nat.le_add_right _ _), Nat.add_sub_cancel_left]; exact hj) e
  omega, fun k q hk => h.2 (a.length + k) q (by rw [List.getElem?_append_right (Nat.le_add_right _ _), Nat.add_sub_cancel_left]; exact hk)⟩
theorem D_x (h : va_D A (a ++ b)) : ∀ (i j : Nat) (p q : Nat × va_E), a[i]? = some p → b[j]? = some q → p.1 ≠ q.1 := by
  intro i j p q hi hj e
  have := h.1 i (a.length + j) p q (by rw [List.getElem?_append_left (lt_of_get hi)]; exact hi) (by rw [List.getElem?_append_right (Nat.le_add_right _ _), Nat.add_sub_cancel_left]; exact hj) e
  have := lt_of_get hi
  omega
/-- the part w of a world w1, w, w2 has become w' in H1; what lies elsewhere is as it was -/
theorem frame3 {w1 w w2 w' : va_W} {H1 : Heap} {AC : Nat → Prop} (hP : va_P D cl (w1 ++ (w ++ w2)) H) (hD : va_D A (w1 ++ (w ++ w2))) (hP1 : va_P D cl w' H1) (hD1 : va_D AC w') (hAC : ∀ q, AC q → (∃ (k : Nat) (e : va_E), w[k]? = some (q, e)) ∨ H.size ≤ q) (hA : ∀ q, AC q → A q) (hk : ∀ q : Nat, q < H.size → ¬ AC q → H1[q]? = H[q]?) : va_P D cl (w1 ++ (w' ++ w2)) H1 ∧ va_D A (w1 ++ (w' ++ w2)) := by
  have hPr := P_r hP
  have hDr := D_r hD
  have x1 : ∀ (i : Nat) (p : Nat × va_E), w1[i]? = some p → p.1 < H.size ∧ ¬ AC p.1 := fun i p hi => by
    have hlt := (P_l hP i p hi).lt
    refine ⟨hlt, fun hc => ?_⟩
    rcases hAC _ hc with ⟨k, e, hk⟩ | h
    · exact D_x hD i k p (p.1, e) hi (by rw [List.getElem?_append_left (lt_of_get hk)]; exact hk) rfl
    · omega
  have x2 : ∀ (i : Nat) (p : Nat × va_E), w2[i]? = some p → p.1 < H.size ∧ ¬ AC p.1 := fun i p hi => by
    have hlt := (P_r hPr i p hi).lt
    refine ⟨hlt, fun hc => ?_⟩
    rcases hAC _ hc with ⟨k, e, hk⟩ | h
    · exact D_x hDr k i (p.1, e) p hk hi rfl
    · omega
  have y : ∀ (i : Nat) (p : Nat × va_E), w'[i]? = some p → AC p.1 := fun i p hi => hD1.2 i p hi
  refine ⟨?_, ?_⟩
  · refine va_P.app ((P_l hP).kept (fun k q hq => hk q.1 (x1 k q hq).1 (x1 k q hq).2)) (va_P.app hP1 ((P_r hPr).kept (fun k q hq => hk q.1 (x2 k q hq).1 (x2 k q hq).2)))
  · refine va_D.app (D_l hD) (va_D.app (hD1.weaken (fun k q hq h => hA _ h)) (D_r hDr) (fun i j p q hi hj e => (x2 j q hj).2 (e ▸ y i p hi))) ?_
    intro i j p q hi hj e
    rcases Nat.lt_or_ge j w'.length with h | h
    · rw [List.getElem?_append_left h] at hj
      exact (x1 i p hi).2 (e ▸ y j q hj)
    · rw [List.getElem?_append_right h] at hj
      exact D_x hD i (w.length + (j - w'.length)) p q hi (by rw [List.getElem?_append_right (Nat.le_add_right _ _), Nat.add_sub_cancel_left]; exact hj) e
end Frame
theorem AA_out {G : List Gp} {sz : Nat} : ∀ q, AA (adrs G) sz q → (∃ (k : Nat) (e : va_E), (GW G)[k]? = some (q, e)) ∨ sz ≤ q := by
  intro q h
  rcases h with h | h
  · rw [← GW_adrs] at h
    obtain ⟨x, hx, rfl⟩ := List.mem_map.mp h
    obtain ⟨k, hk⟩ := List.getElem?_of_mem hx
    exact Or.inl ⟨k, x.2, hk⟩
  · exact Or.inr h
section Frame2
variable {D : va_G} {A : Nat → Prop} {H0 H H1 : Heap} {locs locs1 : List Loc} {G1 G G2 G' : List Gp}
theorem Wd_mid (hw : Wd D A H0 (G1 ++ (G ++ G2)) H locs) : Wd D A H0 G H locs := by
  obtain ⟨hP, hD, hS⟩ := hw
  rw [GW_app, GW_app] at hP hD
  exact ⟨P_l (P_r hP), D_l (D_r hD), hS⟩
theorem Wd_frame (hw : Wd D A H0 (G1 ++ (G ++ G2)) H locs) (hA0 : ∀ q, H0.size ≤ q → A q) (hP1 : va_P D vwCl (GW G') H1) (hD1 : va_D (AA (adrs G) H.size) (GW G')) (hk : ∀ q : Nat, q < H.size → ¬ AA (adrs G) H.size q → H1[q]? = H[q]?) (hS1 : va_S A H0 H1 locs1) : Wd D A H0 (G1 ++ (G' ++ G2)) H1 locs1 := by
  have hm := Wd_mid hw
  obtain ⟨hP, hD, hS⟩ := hw
  rw [GW_app, GW_app] at hP hD
  obtain ⟨h1, h2⟩ := frame3 hP hD hP1 hD1 AA_out (AA_sub hm.2.1 hm.2.2 hA0) hk
  refine ⟨?_, ?_, hS1⟩
  · rw [GW_app, GW_app]; exact h1
  · rw [GW_app, GW_app]; exact h2
end Frame2
section FCall
variable {p : Program} {l : Launch} {e : Env} {R : Room} {s : State} {m : MethodId} {args : Array Value} {below : List Frame} {meth : Method} {c : Code} {H : Heap} {locs : List Loc} {cells slots : Nat} {Q : State → Prop}
variable {cc : ByteArray} {pc nL : Nat} {ls : Array Slot} {rest st0 : List Value} {D : va_G} {A : Nat → Prop} {tys : List (ClassId × FieldType)} {G1 G G2 : List Gp} {own : String} {ret : Option FieldType} {Ts : List Cond} {X : (Nat → Prop) → State → Prop}
theorem Cx_mid {X2 : (Nat → Prop) → State → Prop} (K : Cx p s m args meth c D A tys own cc nL ret Ts X) (h : X2 A s) : Cx p s m args meth c D A tys own cc nL ret Ts X2 := by
  obtain ⟨hx, hb, hml, hown, hts, hrt, hlo, hK, hA, hX1⟩ := K
  exact ⟨hx, hb, hml, hown, hts, hrt, hlo, hK, hA, h⟩
theorem f_calli {St : Type} {GG : St → List Gp} {post : Int32 → St → Prop} {a : Array Value} {mc ms : Nat} (K : Cx p s m args meth c D A tys own cc nL ret Ts X) (hw : Wd D A s.heap (G1 ++ (G ++ G2)) H locs) (hr : va_Run p l e R s m args below meth c H locs cells slots mc ms (F0 m pc ls st0) rest (va_Qi post (fun u => Pst D tys (AA (adrs G) H.size) (GG u)) (AA (adrs G) H.size) a) (AA (adrs G) H.size))
    (kk : ∀ (r : Int32) (u : St) (H1 : Heap) (locs1 : List Loc), post r u → Wd D A s.heap (G1 ++ (GG u ++ G2)) H1 locs1 → W p l e R s m args below meth c H1 locs1 (cells + mc) (slots + ms) Q (F0 m (pc + 3) ls (.int r :: rest))) : W p l e R s m args below meth c H locs cells slots Q (F0 m pc ls st0) := by
  obtain ⟨hx, hb, hml, hown, hts, hrt, hlo, hK, hA, hX1⟩ := K
  have hF := AA_sub (Wd_mid hw).2.1 hw.2.2 hA
  refine va_calli hr hw.2.2 (fun q _ h => hF q h) hF (fun r u t H1 locs1 ht hvm hp hB hz hk hS => kk r u H1 locs1 hp (Wd_frame hw hA (by rw [← ht]; exact hB.1) hB.2.2 hk hS))
theorem f_xcalli {β : Type} {GG : CSt → List Gp} {out1 : β ⊕ (Nat × CSt)} {post : Int32 → CSt → Prop} {a : Array Value} {mc ms : Nat} (K : Cx p s m args meth c D A tys own cc nL ret Ts X) (hw : Wd D A s.heap (G1 ++ (G ++ G2)) H locs) (hr : vx_Run p l e R s m args below meth c H locs cells slots mc ms (F0 m pc ls st0) rest (va_Qi post (fun u => Pst D tys (AA (adrs G) H.size) (GG u)) (AA (adrs G) H.size) a) (XCx D tys (AA (adrs G) H.size) GG out1) (AA (adrs G) H.size))
    (kx : ∀ (k : Nat) (u : CSt) (H1 : Heap) (locs1 : List Loc) (q9 : Addr) (ce : Cell), out1 = .inr (k, u) → Wd D A s.heap (G1 ++ (GG u ++ G2)) H1 locs1 → H1[q9]? = some ce → ce.vm = .none → s.vm.findClass (exN k) = some ce.cls → vx_W p l e R s m args below meth c H1 locs1 (cells + mc) (slots + ms) Q (F0 m pc ls rest) q9)
    (kk : ∀ (r : Int32) (u : CSt) (H1 : Heap) (locs1 : List Loc), post r u → Wd D A s.heap (G1 ++ (GG u ++ G2)) H1 locs1 → W p l e R s m args below meth c H1 locs1 (cells + mc) (slots + ms) Q (F0 m (pc + 3) ls (.int r :: rest))) : W p l e R s m args below meth c H locs cells slots Q (F0 m pc ls st0) := by
  obtain ⟨hx, hb, hml, hown, hts, hrt, hlo, hK, hA, hX1⟩ := K
  have hF := AA_sub (Wd_mid hw).2.1 hw.2.2 hA
  refine vx_calli hr hw.2.2 (fun q _ h => hF q h) hF (fun q _ h => hF q h) (fun E ce q9 u t H1 locs1 ht hvm hp hB hz hk hS hce hv hcl => ?_) (fun r u t H1 locs1 ht hvm hp hB hz hk hS => kk r u H1 locs1 hp (Wd_frame hw hA (by rw [← ht]; exact hB.1) hB.2.2 hk hS))
  obtain ⟨k, u⟩ := u
  exact kx k u H1 locs1 q9 ce hp (Wd_frame hw hA (by rw [← ht]; exact hB.2.1) hB.2.2.2 hk hS) hce hv (by rw [← hB.1]; exact hcl)
theorem f_callv {St : Type} {GG : St → List Gp} {post : St → Prop} {a : Array Value} {mc ms : Nat} (K : Cx p s m args meth c D A tys own cc nL ret Ts X) (hw : Wd D A s.heap (G1 ++ (G ++ G2)) H locs) (hr : va_Run p l e R s m args below meth c H locs cells slots mc ms (F0 m pc ls st0) rest (va_Qv post (fun u => Pst D tys (AA (adrs G) H.size) (GG u)) (AA (adrs G) H.size) a) (AA (adrs G) H.size))
    (kk : ∀ (u : St) (H1 : Heap) (locs1 : List Loc), post u → Wd D A s.heap (G1 ++ (GG u ++ G2)) H1 locs1 → W p l e R s m args below meth c H1 locs1 (cells + mc) (slots + ms) Q (F0 m (pc + 3) ls (rest))) : W p l e R s m args below meth c H locs cells slots Q (F0 m pc ls st0) := by
  obtain ⟨hx, hb, hml, hown, hts, hrt, hlo, hK, hA, hX1⟩ := K
  have hF := AA_sub (Wd_mid hw).2.1 hw.2.2 hA
  refine va_callv hr hw.2.2 (fun q _ h => hF q h) hF (fun u t H1 locs1 ht hvm hp hB hz hk hS => kk u H1 locs1 hp (Wd_frame hw hA (by rw [← ht]; exact hB.1) hB.2.2 hk hS))
theorem f_xcallv {β : Type} {GG : CSt → List Gp} {out1 : β ⊕ (Nat × CSt)} {post : CSt → Prop} {a : Array Value} {mc ms : Nat} (K : Cx p s m args meth c D A tys own cc nL ret Ts X) (hw : Wd D A s.heap (G1 ++ (G ++ G2)) H locs) (hr : vx_Run p l e R s m args below meth c H locs cells slots mc ms (F0 m pc ls st0) rest (va_Qv post (fun u => Pst D tys (AA (adrs G) H.size) (GG u)) (AA (adrs G) H.size) a) (XCx D tys (AA (adrs G) H.size) GG out1) (AA (adrs G) H.size))
    (kx : ∀ (k : Nat) (u : CSt) (H1 : Heap) (locs1 : List Loc) (q9 : Addr) (ce : Cell), out1 = .inr (k, u) → Wd D A s.heap (G1 ++ (GG u ++ G2)) H1 locs1 → H1[q9]? = some ce → ce.vm = .none → s.vm.findClass (exN k) = some ce.cls → vx_W p l e R s m args below meth c H1 locs1 (cells + mc) (slots + ms) Q (F0 m pc ls rest) q9)
    (kk : ∀ (u : CSt) (H1 : Heap) (locs1 : List Loc), post u → Wd D A s.heap (G1 ++ (GG u ++ G2)) H1 locs1 → W p l e R s m args below meth c H1 locs1 (cells + mc) (slots + ms) Q (F0 m (pc + 3) ls (rest))) : W p l e R s m args below meth c H locs cells slots Q (F0 m pc ls st0) := by
  obtain ⟨hx, hb, hml, hown, hts, hrt, hlo, hK, hA, hX1⟩ := K
  have hF := AA_sub (Wd_mid hw).2.1 hw.2.2 hA
  refine vx_callv hr hw.2.2 (fun q _ h => hF q h) hF (fun q _ h => hF q h) (fun E ce q9 u t H1 locs1 ht hvm hp hB hz hk hS hce hv hcl => ?_) (fun u t H1 locs1 ht hvm hp hB hz hk hS => kk u H1 locs1 hp (Wd_frame hw hA (by rw [← ht]; exact hB.1) hB.2.2 hk hS))
  obtain ⟨k, u⟩ := u
  exact kx k u H1 locs1 q9 ce hp (Wd_frame hw hA (by rw [← ht]; exact hB.2.1) hB.2.2.2 hk hS) hce hv (by rw [← hB.1]; exact hcl)
end FCall
