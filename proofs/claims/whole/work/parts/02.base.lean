/-! ===== groups of cells: a world as a list of groups, each a number of cells, their addresses, what they hold ===== -/
abbrev Gp : Type := Nat × (Nat → Nat) × (Nat → va_E)
def gw (g : Gp) : va_W := (List.range g.1).map (fun i => (g.2.1 i, g.2.2 i))
def GW : List Gp → va_W
  | [] => []
  | g :: G => gw g ++ GW G
def adrs : List Gp → List Nat
  | [] => []
  | g :: G => (List.range g.1).map g.2.1 ++ adrs G
theorem gw_len (g : Gp) : (gw g).length = g.1 := by simp [gw]
theorem gw_at (g : Gp) {i : Nat} (hi : i < g.1) : (gw g)[i]? = some (g.2.1 i, g.2.2 i) := by
  simp [gw, hi]
theorem gw_set (g : Gp) {i : Nat} (hi : i < g.1) (e : va_E) : (gw g).set i (g.2.1 i, e) = gw (g.1, g.2.1, va_up g.2.2 i e) := by
  apply List.ext_getElem?
  intro j
  rw [List.getElem?_set]
  by_cases hj : i = j
  · subst hj
    rw [if_pos rfl, if_pos (by rw [gw_len]; exact hi), gw_at (g.1, g.2.1, va_up g.2.2 i e) hi]
    simp [va_up]
  · rw [if_neg hj]
    by_cases hl : j < g.1
    · rw [gw_at g hl, gw_at (g.1, g.2.1, va_up g.2.2 i e) hl]
      simp [va_up, Ne.symm hj]
    · rw [List.getElem?_eq_none (by rw [gw_len]; omega), List.getElem?_eq_none (by rw [gw_len]; show g.1 ≤ j; omega)]
theorem GW_at : ∀ (G : List Gp) (k i : Nat) (g : Gp), G[k]? = some g → i < g.1 → ∃ q : Nat, (GW G)[q]? = some (g.2.1 i, g.2.2 i) ∧ ∀ e : va_E, (GW G).set q (g.2.1 i, e) = GW (G.set k (g.1, g.2.1, va_up g.2.2 i e))
  | [], k, i, g, h, hi => by simp at h
  | g0 :: G, 0, i, g, h, hi => by
    have h0 : g0 = g := by simpa using h
    subst h0
    refine ⟨i, ?_, fun e => ?_⟩
    · show (gw g0 ++ GW G)[i]? = _
      rw [List.getElem?_append_left (by rw [gw_len]; exact hi)]
      exact gw_at g0 hi
    · show (gw g0 ++ GW G).set i _ = gw _ ++ GW G
      rw [List.set_append_left _ _ (by rw [gw_len]; exact hi), gw_set g0 hi]
  | g0 :: G, k + 1, i, g, h, hi => by
    obtain ⟨q, h1, h2⟩ := GW_at G k i g (by simpa using h) hi
    refine ⟨g0.1 + q, ?_, fun e => ?_⟩
    · show (gw g0 ++ GW G)[g0.1 + q]? = _
      rw [List.getElem?_append_right (by rw [gw_len]; omega), gw_len, Nat.add_sub_cancel_left]
      exact h1
    · show (gw g0 ++ GW G).set (g0.1 + q) _ = gw g0 ++ GW (G.set k _)
      rw [List.set_append_right _ _ (by rw [gw_len]; omega), gw_len, Nat.add_sub_cancel_left, h2 e]
theorem GW_one : ∀ (G : List Gp) (k : Nat) (ad : Nat → Nat) (f g : Nat → va_E), f 0 = g 0 → GW (G.set k (1, ad, f)) = GW (G.set k (1, ad, g))
  | [], k, ad, f, g, h => rfl
  | g0 :: G, 0, ad, f, g, h => by
    show gw (1, ad, f) ++ GW G = gw (1, ad, g) ++ GW G
    have e : gw (1, ad, f) = gw (1, ad, g) := by simp [gw, h]
    rw [e]
  | g0 :: G, k + 1, ad, f, g, h => by
    show gw g0 ++ GW (G.set k (1, ad, f)) = gw g0 ++ GW (G.set k (1, ad, g))
    rw [GW_one G k ad f g h]
theorem GW_adrs : ∀ (G : List Gp), (GW G).map (fun q => q.1) = adrs G
  | [] => rfl
  | g :: G => by
    show (gw g ++ GW G).map _ = _ ++ adrs G
    rw [List.map_append, GW_adrs G]
    simp [gw, Function.comp_def]
/-- the places that a method with this world may write: the world's own, and what is new -/
def AA (L : List Nat) (sz : Nat) : Nat → Prop := fun q => q ∈ L ∨ sz ≤ q
theorem AA_in {G : List Gp} {sz k : Nat} {q : Nat × va_E} (h : (GW G)[k]? = some q) : AA (adrs G) sz q.1 := by
  refine Or.inl ?_
  rw [← GW_adrs]
  exact List.mem_map.mpr ⟨q, List.mem_of_getElem? h, rfl⟩
/-- the world inside a method: the cells, apart and in A; nothing outside A has changed since H0 -/
def Wd (D : va_G) (A : Nat → Prop) (H0 : Heap) (G : List Gp) (H : Heap) (locs : List Loc) : Prop := va_P D vwCl (GW G) H ∧ va_D A (GW G) ∧ va_S A H0 H locs
def Pre (D : va_G) (tys : List (ClassId × FieldType)) (G : List Gp) (X : (Nat → Prop) → State → Prop) (sz : Nat) (U : State) : Prop := U.heap.size = sz ∧ va_P D vwCl (GW G) U.heap ∧ va_K D vwCl tys U ∧ va_D (fun _ => True) (GW G) ∧ X (AA (adrs G) sz) U
def Pst (D : va_G) (tys : List (ClassId × FieldType)) (A : Nat → Prop) (G : List Gp) (t : State) : Prop := va_P D vwCl (GW G) t.heap ∧ va_K D vwCl tys t ∧ va_D A (GW G)
/-- what a method's body stands on -/
def Cx (p : Program) (s : State) (m : MethodId) (args : Array Value) (meth : Method) (c : Code) (D : va_G) (A : Nat → Prop) (tys : List (ClassId × FieldType)) (own : String) (cc : ByteArray) (nL : Nat) (ret : Option FieldType) (Ts : List Cond) (X : (Nat → Prop) → State → Prop) : Prop :=
  p.tables.exec = Jvm.exec ∧ c.code = cc ∧ c.maxLocals = nL ∧ s.vm.findClass own = some m.cls ∧ (∀ w ∈ Ts, w.before args s = true) ∧ meth.sig.returnType = ret ∧ meth.locks = false ∧ va_K D vwCl tys s ∧ (∀ q, s.heap.size ≤ q → A q) ∧ X A s
/-- an environment that goes along with every call -/
def Rides (X : (Nat → Prop) → State → Prop) : Prop := (∀ (A : Nat → Prop) (U : State) (g : JFrame) (mk : MethodId) (a : Array Value), X A U → X A (U.calling g mk a)) ∧
  ∀ (A B : Nat → Prop) (s U : State) (locs : List Loc), X A s → va_S A s.heap U.heap locs → (∀ q, B q → A q) → s.WarmedH U.vm → X B U
theorem rides_none : Rides (fun _ _ => True) := ⟨fun _ _ _ _ _ _ => trivial, fun _ _ _ _ _ _ _ _ _ => trivial⟩
/-- running the loop's body until it leaves -/
theorem lpO_ind {α β : Type} {body : α → Option (α ⊕ β)} {P : α → Prop} {z : β} (hb : ∀ x out, body x = some out → (∀ y, out = .inl y → P y) → (out = .inr z ∨ ∃ y, out = .inl y) → P x) : ∀ (n : Nat) (x : α), lpO body n x = some z → P x
  | 0, x, h => by simp [lpO] at h
  | n + 1, x, h => by
    unfold lpO at h
    split at h
    · cases h
    · next y hy => exact hb x _ hy (fun y' e => by cases e; exact lpO_ind hb n y h) (Or.inr ⟨y, rfl⟩)
    · next z' hz =>
      cases h
      exact hb x _ hz (fun y' e => by cases e) (Or.inl rfl)
theorem inB_in {i : Int32} {n : Nat} (h : inB i n = true) : vp_in i n := by
  rw [vp_in_iff]
  simp only [inB, Bool.and_eq_true, decide_eq_true_eq] at h
  exact h
theorem inB_lt {i : Int32} {n : Nat} (h : inB i n = true) : i.toNatClampNeg < n := Nat.not_le.mp fun q => inB_in h (Or.inr q)
theorem isZ_n {v : Int32} (h : isZ v = true) : narrow .boolean (.int v) = .int v ∧ fits .boolean (.int v) = true := by
  simp only [isZ, Bool.or_eq_true, decide_eq_true_eq] at h
  rcases h with rfl | rfl <;> exact ⟨rfl, rfl⟩
theorem isZ_v {v : Int32} (h : isZ v = true) : vp_nar .boolean v = v := by
  simp only [isZ, Bool.or_eq_true, decide_eq_true_eq] at h
  rcases h with rfl | rfl <;> rfl
section GRow
variable {p : Program} {l : Launch} {e : Env} {R : Room} {s : State} {m : MethodId} {args : Array Value} {below : List Frame} {meth : Method} {c : Code} {H : Heap} {locs : List Loc} {cells slots : Nat} {Q : State → Prop}
variable {cc : ByteArray} {pc nL : Nat} {ls : Array Slot} {rest : List Value} {D : va_G} {A : Nat → Prop} {tys : List (ClassId × FieldType)} {G : List Gp} {own : String} {ret : Option FieldType} {Ts : List Cond} {X : (Nat → Prop) → State → Prop}
theorem g_get (K : Cx p s m args meth c D A tys own cc nL ret Ts X) {ref C : String} {T : u_T} {N ci index : Nat} (hin : ∀ w ∈ u_ws C T N, w ∈ Ts) (hw : Wd D A s.heap G H locs) (k : Nat) {i n : Nat} {ad : Nat → Nat} {ce : Nat → va_E} (hk : G[k]? = some (n, ad, ce)) (hi : i < n) {fs : List Value} (hce : ce i = .inr (ci, fs)) (hc : vwCl[ci]? = some (C, T, N)) (kf : Nat) (hkf : kf < N)
    (hlink : Cond.fieldLink own index ref (T kf).2.1 (T kf).2.2.1 ∈ Ts) (href : (T kf).1 = ref) {v : Value} (hv : fs[kf]? = some v) (hdg : decode cc pc = .ok (.getfield index, 3))
    (kk : W p l e R s m args below meth c H locs cells slots Q (F0 m (pc + 3) ls (v :: rest))) : W p l e R s m args below meth c H locs cells slots Q (F0 m pc ls (.ref (ad i) :: rest)) := by
  obtain ⟨hx, hb, hml, hown, hts, hr, hlo, hK, hA, hX⟩ := K
  obtain ⟨q, h1, -⟩ := GW_at G k i _ hk hi
  exact va_get hx hb hts hin hown hK hw.1 q (h1.trans (by rw [show ((n, ad, ce) : Gp).2.2 i = ce i from rfl, hce])) hc kf hkf (hts _ hlink) (by rw [href]; exact fun x h => h) hv hdg kk
theorem g_put (K : Cx p s m args meth c D A tys own cc nL ret Ts X) {ref C : String} {T : u_T} {N ci index : Nat} (hin : ∀ w ∈ u_ws C T N, w ∈ Ts) (ty0 : Nat → FieldType) (hty : ∀ k, k < N → parseFieldDescriptor (T k).2.2.1 = some (ty0 k)) (hnm : ∀ a, a < N → ∀ b, b < N → a ≠ b → (T a).2.1 ≠ (T b).2.1) (hw : Wd D A s.heap G H locs) (k : Nat) {i n : Nat} {ad : Nat → Nat} {ce : Nat → va_E} (hk : G[k]? = some (n, ad, ce)) (hi : i < n) {fs : List Value} (hce : ce i = .inr (ci, fs)) (hc : vwCl[ci]? = some (C, T, N)) (kf : Nat) (hkf : kf < N)
    (hlink : Cond.fieldLink own index ref (T kf).2.1 (T kf).2.2.1 ∈ Ts) (href : (T kf).1 = ref) (hfin : (T kf).2.2.2 = false) {ty : FieldType} {v : Value} (hd : parseFieldDescriptor (T kf).2.2.1 = some ty) (hn : narrow ty v = v) (hfit : fits ty v = true) (hl : kf < fs.length) (hdg : decode cc pc = .ok (.putfield index, 3))
    {G2 : List Gp} (hG2 : GW (G.set k (n, ad, va_up ce i (.inr (ci, fs.set kf v)))) = GW G2)
    (kk : ∀ (H1 : Heap) (locs1 : List Loc), Wd D A s.heap G2 H1 locs1 → W p l e R s m args below meth c H1 locs1 cells slots Q (F0 m (pc + 3) ls rest)) : W p l e R s m args below meth c H locs cells slots Q (F0 m pc ls (v :: .ref (ad i) :: rest)) := by
  obtain ⟨hx, hb, hml, hown, hts, hr, hlo, hK, hA, hX⟩ := K
  obtain ⟨q, h1, h2⟩ := GW_at G k i _ hk hi
  refine va_put hx hb hts hin ty0 hty hnm hown hK hw.1 hw.2.1 hw.2.2 q (h1.trans (by rw [show ((n, ad, ce) : Gp).2.2 i = ce i from rfl, hce])) hc kf hkf (hts _ hlink) (by rw [href]; exact fun x h => h) hfin hd hn hfit hl hdg (fun H1 locs1 hP1 hD1 hS1 => kk H1 locs1 ?_)
  have h3 := h2 (.inr (ci, fs.set kf v))
  rw [hG2] at h3
  rw [show ((n, ad, ce) : Gp).2.1 i = ad i from rfl] at h3
  rw [h3] at hP1 hD1
  exact ⟨hP1, hD1, hS1⟩
theorem g_iald (K : Cx p s m args meth c D A tys own cc nL ret Ts X) (hw : Wd D A s.heap G H locs) (k t0 : Nat) {i0 n0 n : Nat} {ad : Nat → Nat} {ce : Nat → va_E} (hk : G[k]? = some (n0, ad, ce)) (hi0 : i0 < n0) {cA : ClassId} {f : Nat → Int32} (hce : ce i0 = .inl (cA, n, .inl f)) (ht : tys[t0]? = some (cA, .int)) {i : Int32} (hi : inB i n = true) (hdg : decode cc pc = .ok (.iaload, 1))
    (kk : W p l e R s m args below meth c H locs cells slots Q (F0 m (pc + 1) ls (.int (f i.toNatClampNeg) :: rest))) : W p l e R s m args below meth c H locs cells slots Q (F0 m pc ls (.int i :: .ref (ad i0) :: rest)) := by
  obtain ⟨hx, hb, hml, hown, hts, hr, hlo, hK, hA, hX⟩ := K
  obtain ⟨q, h1, -⟩ := GW_at G k i0 _ hk hi0
  exact va_iald hx hb hK hw.1 q t0 (h1.trans (by rw [show ((n0, ad, ce) : Gp).2.2 i0 = ce i0 from rfl, hce])) ht (inB_in hi) hdg kk
theorem g_zald (K : Cx p s m args meth c D A tys own cc nL ret Ts X) (hw : Wd D A s.heap G H locs) (k t0 : Nat) {i0 n0 n : Nat} {ad : Nat → Nat} {ce : Nat → va_E} (hk : G[k]? = some (n0, ad, ce)) (hi0 : i0 < n0) {cA : ClassId} {f : Nat → Int32} (hce : ce i0 = .inl (cA, n, .inl f)) (ht : tys[t0]? = some (cA, .boolean)) {i : Int32} (hi : inB i n = true) (hdg : decode cc pc = .ok (.baload, 1))
    (kk : W p l e R s m args below meth c H locs cells slots Q (F0 m (pc + 1) ls (.int (f i.toNatClampNeg) :: rest))) : W p l e R s m args below meth c H locs cells slots Q (F0 m pc ls (.int i :: .ref (ad i0) :: rest)) := by
  obtain ⟨hx, hb, hml, hown, hts, hr, hlo, hK, hA, hX⟩ := K
  obtain ⟨q, h1, -⟩ := GW_at G k i0 _ hk hi0
  exact va_zald hx hb hK hw.1 q t0 (h1.trans (by rw [show ((n0, ad, ce) : Gp).2.2 i0 = ce i0 from rfl, hce])) ht (inB_in hi) hdg kk
theorem g_lald (K : Cx p s m args meth c D A tys own cc nL ret Ts X) (hw : Wd D A s.heap G H locs) (k t0 : Nat) {i0 n0 n : Nat} {ad : Nat → Nat} {ce : Nat → va_E} (hk : G[k]? = some (n0, ad, ce)) (hi0 : i0 < n0) {cA : ClassId} {f : Nat → Int64} (hce : ce i0 = .inl (cA, n, .inr (.inl f))) (ht : tys[t0]? = some (cA, .long)) {i : Int32} (hi : inB i n = true) (hdg : decode cc pc = .ok (.laload, 1))
    (kk : W p l e R s m args below meth c H locs cells slots Q (F0 m (pc + 1) ls (.long (f i.toNatClampNeg) :: rest))) : W p l e R s m args below meth c H locs cells slots Q (F0 m pc ls (.int i :: .ref (ad i0) :: rest)) := by
  obtain ⟨hx, hb, hml, hown, hts, hr, hlo, hK, hA, hX⟩ := K
  obtain ⟨q, h1, -⟩ := GW_at G k i0 _ hk hi0
  exact va_lald hx hb hK hw.1 q t0 (h1.trans (by rw [show ((n0, ad, ce) : Gp).2.2 i0 = ce i0 from rfl, hce])) ht (inB_in hi) hdg kk
theorem g_aald (K : Cx p s m args meth c D A tys own cc nL ret Ts X) (hw : Wd D A s.heap G H locs) (k t0 : Nat) {i0 n0 n : Nat} {ad : Nat → Nat} {ce : Nat → va_E} (hk : G[k]? = some (n0, ad, ce)) (hi0 : i0 < n0) {cA : ClassId} {C : String} {f : Nat → Option Nat} (hce : ce i0 = .inl (cA, n, .inr (.inr (.inr (.inr f))))) (ht : tys[t0]? = some (cA, .object C)) {i : Int32} (hi : inB i n = true) (hdg : decode cc pc = .ok (.aaload, 1))
    (kk : W p l e R s m args below meth c H locs cells slots Q (F0 m (pc + 1) ls (va_rf (f i.toNatClampNeg) :: rest))) : W p l e R s m args below meth c H locs cells slots Q (F0 m pc ls (.int i :: .ref (ad i0) :: rest)) := by
  obtain ⟨hx, hb, hml, hown, hts, hr, hlo, hK, hA, hX⟩ := K
  obtain ⟨q, h1, -⟩ := GW_at G k i0 _ hk hi0
  exact va_aldq hx hb hK hw.1 q t0 (h1.trans (by rw [show ((n0, ad, ce) : Gp).2.2 i0 = ce i0 from rfl, hce])) ht (inB_in hi) hdg kk
theorem g_iast (K : Cx p s m args meth c D A tys own cc nL ret Ts X) (hw : Wd D A s.heap G H locs) (k t0 : Nat) {i0 n0 n : Nat} {ad : Nat → Nat} {ce : Nat → va_E} (hk : G[k]? = some (n0, ad, ce)) (hi0 : i0 < n0) {cA : ClassId} {f : Nat → Int32} (hce : ce i0 = .inl (cA, n, .inl f)) (ht : tys[t0]? = some (cA, .int)) {i x : Int32} (hi : inB i n = true) (hdg : decode cc pc = .ok (.iastore, 1))
    {G2 : List Gp} (hG2 : GW (G.set k (n0, ad, va_up ce i0 (.inl (cA, n, .inl (upd f i.toNatClampNeg x))))) = GW G2)
    (kk : ∀ (H1 : Heap) (locs1 : List Loc), Wd D A s.heap G2 H1 locs1 → W p l e R s m args below meth c H1 locs1 cells slots Q (F0 m (pc + 1) ls rest)) : W p l e R s m args below meth c H locs cells slots Q (F0 m pc ls (.int x :: .int i :: .ref (ad i0) :: rest)) := by
  obtain ⟨hx, hb, hml, hown, hts, hr, hlo, hK, hA, hX⟩ := K
  obtain ⟨q, h1, h2⟩ := GW_at G k i0 _ hk hi0
  refine va_iast hx hb hK hw.1 hw.2.1 hw.2.2 q t0 (h1.trans (by rw [show ((n0, ad, ce) : Gp).2.2 i0 = ce i0 from rfl, hce])) ht (inB_in hi) hdg (fun H1 locs1 hP1 hD1 hS1 => kk H1 locs1 ?_)
  have h3 := h2 (.inl (cA, n, .inl (upd f i.toNatClampNeg x)))
  rw [hG2] at h3
  rw [show ((n0, ad, ce) : Gp).2.1 i0 = ad i0 from rfl] at h3
  rw [h3] at hP1 hD1
  exact ⟨hP1, hD1, hS1⟩
theorem g_zast (K : Cx p s m args meth c D A tys own cc nL ret Ts X) (hw : Wd D A s.heap G H locs) (k t0 : Nat) {i0 n0 n : Nat} {ad : Nat → Nat} {ce : Nat → va_E} (hk : G[k]? = some (n0, ad, ce)) (hi0 : i0 < n0) {cA : ClassId} {f : Nat → Int32} (hce : ce i0 = .inl (cA, n, .inl f)) (ht : tys[t0]? = some (cA, .boolean)) {i x : Int32} (hi : inB i n = true) (hz : isZ x = true) (hdg : decode cc pc = .ok (.bastore, 1))
    {G2 : List Gp} (hG2 : GW (G.set k (n0, ad, va_up ce i0 (.inl (cA, n, .inl (upd f i.toNatClampNeg x))))) = GW G2)
    (kk : ∀ (H1 : Heap) (locs1 : List Loc), Wd D A s.heap G2 H1 locs1 → W p l e R s m args below meth c H1 locs1 cells slots Q (F0 m (pc + 1) ls rest)) : W p l e R s m args below meth c H locs cells slots Q (F0 m pc ls (.int x :: .int i :: .ref (ad i0) :: rest)) := by
  obtain ⟨hx, hb, hml, hown, hts, hr, hlo, hK, hA, hX⟩ := K
  obtain ⟨q, h1, h2⟩ := GW_at G k i0 _ hk hi0
  refine va_zast hx hb hK hw.1 hw.2.1 hw.2.2 q t0 (h1.trans (by rw [show ((n0, ad, ce) : Gp).2.2 i0 = ce i0 from rfl, hce])) ht (inB_in hi) hdg (fun H1 locs1 hP1 hD1 hS1 => kk H1 locs1 ?_)
  rw [isZ_v hz] at hP1 hD1
  have h3 := h2 (.inl (cA, n, .inl (upd f i.toNatClampNeg x)))
  rw [hG2] at h3
  rw [show ((n0, ad, ce) : Gp).2.1 i0 = ad i0 from rfl] at h3
  rw [h3] at hP1 hD1
  exact ⟨hP1, hD1, hS1⟩
theorem g_last (K : Cx p s m args meth c D A tys own cc nL ret Ts X) (hw : Wd D A s.heap G H locs) (k t0 : Nat) {i0 n0 n : Nat} {ad : Nat → Nat} {ce : Nat → va_E} (hk : G[k]? = some (n0, ad, ce)) (hi0 : i0 < n0) {cA : ClassId} {f : Nat → Int64} (hce : ce i0 = .inl (cA, n, .inr (.inl f))) (ht : tys[t0]? = some (cA, .long)) {i : Int32} {x : Int64} (hi : inB i n = true) (hdg : decode cc pc = .ok (.lastore, 1))
    {G2 : List Gp} (hG2 : GW (G.set k (n0, ad, va_up ce i0 (.inl (cA, n, .inr (.inl (vp_updL f i.toNatClampNeg x)))))) = GW G2)
    (kk : ∀ (H1 : Heap) (locs1 : List Loc), Wd D A s.heap G2 H1 locs1 → W p l e R s m args below meth c H1 locs1 cells slots Q (F0 m (pc + 1) ls rest)) : W p l e R s m args below meth c H locs cells slots Q (F0 m pc ls (.long x :: .int i :: .ref (ad i0) :: rest)) := by
  obtain ⟨hx, hb, hml, hown, hts, hr, hlo, hK, hA, hX⟩ := K
  obtain ⟨q, h1, h2⟩ := GW_at G k i0 _ hk hi0
  refine va_last hx hb hK hw.1 hw.2.1 hw.2.2 q t0 (h1.trans (by rw [show ((n0, ad, ce) : Gp).2.2 i0 = ce i0 from rfl, hce])) ht (inB_in hi) hdg (fun H1 locs1 hP1 hD1 hS1 => kk H1 locs1 ?_)
  have h3 := h2 (.inl (cA, n, .inr (.inl (vp_updL f i.toNatClampNeg x))))
  rw [hG2] at h3
  rw [show ((n0, ad, ce) : Gp).2.1 i0 = ad i0 from rfl] at h3
  rw [h3] at hP1 hD1
  exact ⟨hP1, hD1, hS1⟩
end GRow
