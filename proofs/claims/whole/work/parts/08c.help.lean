/-! ===== the law's helpers: each calls one method of the class, puts its answer into out[0], and tells which exception came ===== -/
def og (cy : Nat → ClassId) (oa : Nat → Nat) (o : Nat → Int64) : List Gp := [(1, oa, fun _ => Sum.inl (cy 1, 1, Sum.inr (Sum.inl o)))]
def GH (cy : Nat → ClassId) (ad : Nat → Nat → Nat) (oa : Nat → Nat) (u : CSt × (Nat → Int64)) : List Gp := [] ++ (GC cy ad u.1 ++ og cy oa u.2)
theorem eO (cy : Nat → ClassId) (ad : Nat → Nat → Nat) (oa : Nat → Nat) (C : CSt) (o : Nat → Int64) (k : Nat) (v : Int64) : GW ((GH cy ad oa (C, o)).set 23 (1, oa, va_up (fun _ => Sum.inl (cy 1, 1, Sum.inr (Sum.inl o))) 0 (Sum.inl (cy 1, 1, Sum.inr (Sum.inl (vp_updL o k v)))))) = GW (GH cy ad oa (C, vp_updL o k v)) :=
  GW_one (GH cy ad oa (C, o)) 23 oa _ (fun _ => Sum.inl (cy 1, 1, Sum.inr (Sum.inl (vp_updL o k v)))) (by rw [va_up_self])
def EL (A : Nat → Prop) (U : State) : Prop := EV A U ∧ ∀ E ∈ evC, ∀ F ∈ evC, E ≠ F → va_Nc E F U
theorem rides_EL : Rides EL := by
  refine ⟨fun A U g mk a h => ⟨rides_EV.1 A U g mk a h.1, fun E hE F hF hn => va_Nc.moved (u := U) (U := U.calling g mk a) (Vm.Alike.refl U.vm) (h.2 E hE F hF hn)⟩, fun A B s U locs h hS hAB hW => ⟨rides_EV.2 A B s U locs h.1 hS hAB hW, fun E hE F hF hn => va_Nc.moved hW.alike (h.2 E hE F hF hn)⟩⟩
theorem exN_mem (k : Nat) (h : k = 1 ∨ k = 2 ∨ k = 3 ∨ k = 4) : exN k ∈ evC := by rcases h with rfl | rfl | rfl | rfl <;> decide
theorem g_metW {l : Launch} {y : MethodName} {ws ws' : List Cond} {rm : Room} {D : va_G} {tys : List (ClassId × FieldType)} {G : List Gp} {X : (Nat → Prop) → State → Prop} {cc : ByteArray} {maxL : Nat} {ret : Option FieldType} {hh : List (Nat × Nat × Nat × Nat)} {vs : List Value} {sz mc ms : Nat} {Qc : Array Value → State → Outcome → State → Prop} {free : Addr → Prop} (hy : plainName y.cls = true) (hw : ws = Cond.codeWith y cc maxL ret hh :: ws') (hlen : (lg_sl vs).length ≤ maxL)
    (body : ∀ (p : Program) (e : Env) (s : State) (m : MethodId) (args : Array Value) (below : List Frame) (meth : Method) (c : Code), Cx p s m args meth c D (AA (adrs G) sz) tys y.cls cc maxL ret ws X → c.exceptionTable.toList = tableOf hh → Wd D (AA (adrs G) sz) s.heap G s.heap [] → ∀ ls : Array Slot, lv_has ls maxL (lv_args 0 vs) → W p l e rm s m args below meth c s.heap [] 0 0 (MQ below Qc args s mc ms free) (F0 m 0 ls [])) :
    Met l y ws rm (va_Pc vs (Pre D tys G X sz)) Qc mc ms free := by
  refine va_MetW (cc := cc) (maxL := maxL) (ret := ret) (hh := hh) hy hw ?_
  intro p e s m args below meth c s₁ B hml hv
  obtain ⟨rfl, hsz, hP, hK, hD0, hX⟩ := hv
  have hts := atoms_spec (ws := ws) B.pre
  have htab : c.exceptionTable.toList = tableOf hh := vx_table (x := y) B (hts _ (by rw [hw]; exact List.mem_cons_self))
  have hown : s.vm.findClass y.cls = some m.cls := findClass_of_methodNamed B.named
  have hl := lv_entry vs (n := maxL) hlen
  rw [lg_entry_eq]
  generalize (lg_sl vs ++ List.replicate (maxL - (lg_sl vs).length) Slot.unset).toArray = ls at hl ⊢
  exact body p e s m vs.toArray below meth c ⟨B.exec, B.bytes, hml, hown, hts, B.returns, B.notSynchronized, hK, fun q h => Or.inr (by rw [← hsz]; exact h), hX⟩ htab ⟨hP, ⟨hD0.1, fun k q hq => AA_in hq⟩, va_S.rf⟩ ls hl
section Help
abbrev rm_L_newClass : Room := { frames := 7, cells := 1, slots := 6, locals := 120 }
set_option maxRecDepth 100000 in
set_option maxHeartbeats 4000000 in
theorem h_newClass (l : Launch) (hl9 : l.stackTraces = false) (D : va_G) (cy : Nat → ClassId) (ad : Nat → Nat → Nat) (oa : Nat → Nat) (sz n : Nat) (C : CSt) (o : Nat → Int64)  {out : (Int32 × CSt) ⊕ (Nat × CSt)} (hm : m_X7_newClass n C  = some out) (hk : ∀ k C2, out = .inr (k, C2) → k = 3) : Met l yL_newClass wsL_newClass rm_L_newClass (va_Pc [.ref (ad 0 0), .ref (oa 0)] (Pre D (tysC cy) (GH cy ad oa (C, o)) EL sz)) (va_Qi (fun (r : Int32) (u : CSt × (Nat → Int64)) => (∃ (v : Int32) (C2 : CSt), out = .inl (v, C2) ∧ r = 0 ∧ u = (C2, vp_updL o 0 (v.toInt64))) ∨ ∃ (k : Nat) (C2 : CSt), out = .inr (k, C2) ∧ r = cm_newClass k ∧ u = (C2, o)) (fun u => Pst D (tysC cy) (AA (adrs (GH cy ad oa (C, o))) sz) (GH cy ad oa u)) (AA (adrs (GH cy ad oa (C, o))) sz)) 1 6 (AA (adrs (GH cy ad oa (C, o))) sz) := by
  refine g_metW (by decide) rfl (Nat.le_of_ble_eq_true rfl) ?_
  intro p e s m args below meth c K htab hw ls hl
  replace hl : lv_has ls 3 [(0, .ref (ad 0 0)), (1, .ref (oa 0))] := hl
  have K : Cx p s m args meth c D (AA (adrs (GH cy ad oa (C, o))) sz) (tysC cy) RL cL_newClass 3 (some .int) wsL_newClass EL := K
  generalize AA (adrs (GH cy ad oa (C, o))) sz = A at K hw ⊢
  obtain ⟨hx, hb, hml, hown, hts, hr, hlo, hK, hA, hX⟩ := id K
  have hw : Wd D A s.heap ([] ++ (GC cy ad C ++ og cy oa o)) s.heap [] := hw
  refine lv_aload_n hx hb dL_newClass_0 rfl (lv_at hl 1 rfl) ?_
  refine lv_iconst (v := 0) hx hb dL_newClass_1 (by decide) ?_
  refine lv_aload_n hx hb dL_newClass_2 rfl (lv_at hl 0 rfl) ?_
  refine f_xcalli (GG := GC cy ad) K hw (vx_runV (As := []) (rest := [.int 0, .ref (oa 0)]) (g_fix K) (c_X7_newClass l hl9 D cy ad s.heap.size n C  hm) (cwV 0 (g_hts K) gL_newClass_X7_newClass rfl rfl rfl (by decide +kernel) ⟨Nat.le_of_ble_eq_true rfl, Nat.le_of_ble_eq_true rfl⟩) ⟨g_blind rides_EV, g_recv K (Wd_mid hw) 0 rfl (by decide : 0 < 1) rfl rfl, g_pre K (Wd_mid hw) (g_ride rides_EV (Cx_mid K hX.1) (Wd_mid hw))⟩ rfl rfl hl.1 rfl (lv_room (Nat.le_of_ble_eq_true rfl)) dL_newClass_3 ⟨Nat.le_of_ble_eq_true rfl, Nat.le_of_ble_eq_true rfl⟩) (fun k u H locs q9 ce ho hw hce hcv hcl => ?_) (fun r u H locs hp hw => ?_)
  · have hkk := hk k u ho
    rcases hkk with rfl
    · refine cf_catch (own := RL) (name := "java/lang/IllegalStateException") (E := "java/lang/IllegalStateException") hown [] ⟨0, 8, 11, 13⟩ [] htab (fun z hz => by cases hz) (by decide) (by decide) (hts _ (List.mem_of_getElem? (i := 1) rfl)) (va_Nw.use rfl (hX.1.2.2.1 "java/lang/IllegalStateException" (by decide))) hce hcv hcl ?_
      refine lv_astore_n (lv' := [(2, .ref q9), (0, .ref (ad 0 0)), (1, .ref (oa 0))]) hx hb dL_newClass_11 rfl hl (by decide) rfl (fun ls hl => ?_)
      refine lv_iconst (v := 1) hx hb dL_newClass_12 (by decide) ?_
      exact g_iret (GG := GH cy ad oa) (u := (u, o)) K hw (Or.inr ⟨3, u, ho, rfl, rfl⟩) dL_newClass_13
  · have hp := hp
    refine lv_i2l hx hb dL_newClass_6 rfl ?_
    refine g_last (G := GH cy ad oa (u, o)) K hw 23 1 rfl (by decide) rfl rfl (i := 0) (by decide) dL_newClass_7 (eO cy ad oa u o _ _) (fun H locs hw => ?_)
    refine lv_goto (tgt := 14) hx hb dL_newClass_8 (by decide) ?_
    refine lv_iconst (v := 0) hx hb dL_newClass_14 (by decide) ?_
    exact g_iret (GG := GH cy ad oa) (u := (u, vp_updL o 0 r.toInt64)) K hw (Or.inl ⟨r, u, hp, rfl, rfl⟩) dL_newClass_15
abbrev rm_L_make : Room := { frames := 9, cells := 3, slots := 18, locals := 214 }
set_option maxRecDepth 100000 in
set_option maxHeartbeats 4000000 in
theorem h_make (l : Launch) (hl9 : l.stackTraces = false) (D : va_G) (cy : Nat → ClassId) (ad : Nat → Nat → Nat) (oa : Nat → Nat) (sz n : Nat) (C : CSt) (o : Nat → Int64) (x1 : Int32) (x2 : Int32) {out : (CSt) ⊕ (Nat × CSt)} (hm : m_X7_make n C x1 x2 = some out) (hk : ∀ k C2, out = .inr (k, C2) → k = 1 ∨ k = 3) : Met l yL_make wsL_make rm_L_make (va_Pc [.ref (ad 0 0), .int x1, .int x2] (Pre D (tysC cy) (GH cy ad oa (C, o)) EL sz)) (va_Qi (fun (r : Int32) (u : CSt × (Nat → Int64)) => (∃ C2 : CSt, out = .inl C2 ∧ r = 0 ∧ u = (C2, o)) ∨ ∃ (k : Nat) (C2 : CSt), out = .inr (k, C2) ∧ r = cm_make k ∧ u = (C2, o)) (fun u => Pst D (tysC cy) (AA (adrs (GH cy ad oa (C, o))) sz) (GH cy ad oa u)) (AA (adrs (GH cy ad oa (C, o))) sz)) 3 18 (AA (adrs (GH cy ad oa (C, o))) sz) := by
  refine g_metW (by decide) rfl (Nat.le_of_ble_eq_true rfl) ?_
  intro p e s m args below meth c K htab hw ls hl
  replace hl : lv_has ls 4 [(0, .ref (ad 0 0)), (1, .int x1), (2, .int x2)] := hl
  have K : Cx p s m args meth c D (AA (adrs (GH cy ad oa (C, o))) sz) (tysC cy) RL cL_make 4 (some .int) wsL_make EL := K
  generalize AA (adrs (GH cy ad oa (C, o))) sz = A at K hw ⊢
  obtain ⟨hx, hb, hml, hown, hts, hr, hlo, hK, hA, hX⟩ := id K
  have hw : Wd D A s.heap ([] ++ (GC cy ad C ++ og cy oa o)) s.heap [] := hw
  refine lv_aload_n hx hb dL_make_0 rfl (lv_at hl 0 rfl) ?_
  refine lv_iload_n hx hb dL_make_1 rfl (lv_at hl 1 rfl) ?_
  refine lv_iload_n hx hb dL_make_2 rfl (lv_at hl 2 rfl) ?_
  refine f_xcallv (GG := GC cy ad) K hw (vx_runV (As := [.int x1, .int x2]) (rest := []) (g_fix K) (c_X7_make l hl9 D cy ad s.heap.size n C x1 x2 hm) (cwV 2 (g_hts K) gL_make_X7_make rfl rfl rfl (by decide +kernel) ⟨Nat.le_of_ble_eq_true rfl, Nat.le_of_ble_eq_true rfl⟩) ⟨g_blind rides_EV, g_recv K (Wd_mid hw) 0 rfl (by decide : 0 < 1) rfl rfl, g_pre K (Wd_mid hw) (g_ride rides_EV (Cx_mid K hX.1) (Wd_mid hw))⟩ rfl rfl hl.1 rfl (lv_room (Nat.le_of_ble_eq_true rfl)) dL_make_3 ⟨Nat.le_of_ble_eq_true rfl, Nat.le_of_ble_eq_true rfl⟩) (fun k u H locs q9 ce ho hw hce hcv hcl => ?_) (fun u H locs hp hw => ?_)
  · have hkk := hk k u ho
    rcases hkk with rfl | rfl
    · refine cf_catch (own := RL) (name := "java/lang/IllegalArgumentException") (E := "java/lang/IllegalArgumentException") hown [] ⟨0, 6, 9, 19⟩ [⟨0, 6, 12, 13⟩] htab (fun z hz => by cases hz) (by decide) (by decide) (hts _ (List.mem_of_getElem? (i := 1) rfl)) (va_Nw.use rfl (hX.1.2.2.1 "java/lang/IllegalArgumentException" (by decide))) hce hcv hcl ?_
      refine lv_astore_n (lv' := [(3, .ref q9), (0, .ref (ad 0 0)), (1, .int x1), (2, .int x2)]) hx hb dL_make_9 rfl hl (by decide) rfl (fun ls hl => ?_)
      refine lv_iconst (v := 1) hx hb dL_make_10 (by decide) ?_
      exact g_iret (GG := GH cy ad oa) (u := (u, o)) K hw (Or.inr ⟨1, u, ho, rfl, rfl⟩) dL_make_11
    · refine cf_catch (own := RL) (name := "java/lang/IllegalStateException") (E := "java/lang/IllegalStateException") hown [⟨0, 6, 9, 19⟩] ⟨0, 6, 12, 13⟩ [] htab (fun z hz => by
        simp only [List.mem_cons, List.not_mem_nil, or_false] at hz
        rcases hz with rfl
        · exact Or.inr ⟨by decide, "java/lang/IllegalArgumentException", hts _ (List.mem_of_getElem? (i := 1) rfl), hX.2 _ (by decide) _ (by decide) (by decide)⟩) (by decide) (by decide) (hts _ (List.mem_of_getElem? (i := 2) rfl)) (va_Nw.use rfl (hX.1.2.2.1 "java/lang/IllegalStateException" (by decide))) hce hcv hcl ?_
      refine lv_astore_n (lv' := [(3, .ref q9), (0, .ref (ad 0 0)), (1, .int x1), (2, .int x2)]) hx hb dL_make_12 rfl hl (by decide) rfl (fun ls hl => ?_)
      refine lv_iconst (v := 2) hx hb dL_make_13 (by decide) ?_
      exact g_iret (GG := GH cy ad oa) (u := (u, o)) K hw (Or.inr ⟨3, u, ho, rfl, rfl⟩) dL_make_14
  · refine lv_goto (tgt := 15) hx hb dL_make_6 (by decide) ?_
    refine lv_iconst (v := 0) hx hb dL_make_15 (by decide) ?_
    exact g_iret (GG := GH cy ad oa) (u := (u, o)) K hw (Or.inl ⟨u, hp, rfl, rfl⟩) dL_make_16
abbrev rm_L_get : Room := { frames := 8, cells := 4, slots := 24, locals := 148 }
set_option maxRecDepth 100000 in
set_option maxHeartbeats 4000000 in
theorem h_get (l : Launch) (hl9 : l.stackTraces = false) (D : va_G) (cy : Nat → ClassId) (ad : Nat → Nat → Nat) (oa : Nat → Nat) (sz n : Nat) (C : CSt) (o : Nat → Int64) (x1 : Int32) (x2 : Int32) {out : (Int32 × CSt) ⊕ (Nat × CSt)} (hm : m_X7_get n C x1 x2 = some out) (hk : ∀ k C2, out = .inr (k, C2) → k = 1 ∨ k = 2) : Met l yL_get wsL_get rm_L_get (va_Pc [.ref (ad 0 0), .int x1, .int x2, .ref (oa 0)] (Pre D (tysC cy) (GH cy ad oa (C, o)) EL sz)) (va_Qi (fun (r : Int32) (u : CSt × (Nat → Int64)) => (∃ (v : Int32) (C2 : CSt), out = .inl (v, C2) ∧ r = 0 ∧ u = (C2, vp_updL o 0 (v.toInt64))) ∨ ∃ (k : Nat) (C2 : CSt), out = .inr (k, C2) ∧ r = cm_get k ∧ u = (C2, o)) (fun u => Pst D (tysC cy) (AA (adrs (GH cy ad oa (C, o))) sz) (GH cy ad oa u)) (AA (adrs (GH cy ad oa (C, o))) sz)) 4 24 (AA (adrs (GH cy ad oa (C, o))) sz) := by
  refine g_metW (by decide) rfl (Nat.le_of_ble_eq_true rfl) ?_
  intro p e s m args below meth c K htab hw ls hl
  replace hl : lv_has ls 5 [(0, .ref (ad 0 0)), (1, .int x1), (2, .int x2), (3, .ref (oa 0))] := hl
  have K : Cx p s m args meth c D (AA (adrs (GH cy ad oa (C, o))) sz) (tysC cy) RL cL_get 5 (some .int) wsL_get EL := K
  generalize AA (adrs (GH cy ad oa (C, o))) sz = A at K hw ⊢
  obtain ⟨hx, hb, hml, hown, hts, hr, hlo, hK, hA, hX⟩ := id K
  have hw : Wd D A s.heap ([] ++ (GC cy ad C ++ og cy oa o)) s.heap [] := hw
  refine lv_aload_n hx hb dL_get_0 rfl (lv_at hl 3 rfl) ?_
  refine lv_iconst (v := 0) hx hb dL_get_1 (by decide) ?_
  refine lv_aload_n hx hb dL_get_2 rfl (lv_at hl 0 rfl) ?_
  refine lv_iload_n hx hb dL_get_3 rfl (lv_at hl 1 rfl) ?_
  refine lv_iload_n hx hb dL_get_4 rfl (lv_at hl 2 rfl) ?_
  refine f_xcalli (GG := GC cy ad) K hw (vx_runV (As := [.int x1, .int x2]) (rest := [.int 0, .ref (oa 0)]) (g_fix K) (c_X7_get l hl9 D cy ad s.heap.size n C x1 x2 hm) (cwV 2 (g_hts K) gL_get_X7_get rfl rfl rfl (by decide +kernel) ⟨Nat.le_of_ble_eq_true rfl, Nat.le_of_ble_eq_true rfl⟩) ⟨g_blind rides_EV, g_recv K (Wd_mid hw) 0 rfl (by decide : 0 < 1) rfl rfl, g_pre K (Wd_mid hw) (g_ride rides_EV (Cx_mid K hX.1) (Wd_mid hw))⟩ rfl rfl hl.1 rfl (lv_room (Nat.le_of_ble_eq_true rfl)) dL_get_5 ⟨Nat.le_of_ble_eq_true rfl, Nat.le_of_ble_eq_true rfl⟩) (fun k u H locs q9 ce ho hw hce hcv hcl => ?_) (fun r u H locs hp hw => ?_)
  · have hkk := hk k u ho
    rcases hkk with rfl | rfl
    · refine cf_catch (own := RL) (name := "java/lang/IllegalArgumentException") (E := "java/lang/IllegalArgumentException") hown [] ⟨0, 10, 13, 19⟩ [⟨0, 10, 17, 25⟩] htab (fun z hz => by cases hz) (by decide) (by decide) (hts _ (List.mem_of_getElem? (i := 1) rfl)) (va_Nw.use rfl (hX.1.2.2.1 "java/lang/IllegalArgumentException" (by decide))) hce hcv hcl ?_
      refine lv_astore (lv' := [(4, .ref q9), (0, .ref (ad 0 0)), (1, .int x1), (2, .int x2), (3, .ref (oa 0))]) hx hb dL_get_13 hl (by decide) rfl (fun ls hl => ?_)
      refine lv_iconst (v := 1) hx hb dL_get_15 (by decide) ?_
      exact g_iret (GG := GH cy ad oa) (u := (u, o)) K hw (Or.inr ⟨1, u, ho, rfl, rfl⟩) dL_get_16
    · refine cf_catch (own := RL) (name := "java/util/NoSuchElementException") (E := "java/util/NoSuchElementException") hown [⟨0, 10, 13, 19⟩] ⟨0, 10, 17, 25⟩ [] htab (fun z hz => by
        simp only [List.mem_cons, List.not_mem_nil, or_false] at hz
        rcases hz with rfl
        · exact Or.inr ⟨by decide, "java/lang/IllegalArgumentException", hts _ (List.mem_of_getElem? (i := 1) rfl), hX.2 _ (by decide) _ (by decide) (by decide)⟩) (by decide) (by decide) (hts _ (List.mem_of_getElem? (i := 2) rfl)) (va_Nw.use rfl (hX.1.2.2.1 "java/util/NoSuchElementException" (by decide))) hce hcv hcl ?_
      refine lv_astore (lv' := [(4, .ref q9), (0, .ref (ad 0 0)), (1, .int x1), (2, .int x2), (3, .ref (oa 0))]) hx hb dL_get_17 hl (by decide) rfl (fun ls hl => ?_)
      refine lv_iconst (v := 2) hx hb dL_get_19 (by decide) ?_
      exact g_iret (GG := GH cy ad oa) (u := (u, o)) K hw (Or.inr ⟨2, u, ho, rfl, rfl⟩) dL_get_20
  · have hp := hp
    refine lv_i2l hx hb dL_get_8 rfl ?_
    refine g_last (G := GH cy ad oa (u, o)) K hw 23 1 rfl (by decide) rfl rfl (i := 0) (by decide) dL_get_9 (eO cy ad oa u o _ _) (fun H locs hw => ?_)
    refine lv_goto (tgt := 21) hx hb dL_get_10 (by decide) ?_
    refine lv_iconst (v := 0) hx hb dL_get_21 (by decide) ?_
    exact g_iret (GG := GH cy ad oa) (u := (u, vp_updL o 0 r.toInt64)) K hw (Or.inl ⟨r, u, hp, rfl, rfl⟩) dL_get_22
abbrev rm_L_set : Room := { frames := 8, cells := 5, slots := 30, locals := 150 }
set_option maxRecDepth 100000 in
set_option maxHeartbeats 4000000 in
theorem h_set (l : Launch) (hl9 : l.stackTraces = false) (D : va_G) (cy : Nat → ClassId) (ad : Nat → Nat → Nat) (oa : Nat → Nat) (sz n : Nat) (C : CSt) (o : Nat → Int64) (x1 : Int32) (x2 : Int32) (x3 : Int32) {out : (CSt) ⊕ (Nat × CSt)} (hm : m_X7_set n C x1 x2 x3 = some out) (hk : ∀ k C2, out = .inr (k, C2) → k = 1 ∨ k = 2 ∨ k = 3) : Met l yL_set wsL_set rm_L_set (va_Pc [.ref (ad 0 0), .int x1, .int x2, .int x3] (Pre D (tysC cy) (GH cy ad oa (C, o)) EL sz)) (va_Qi (fun (r : Int32) (u : CSt × (Nat → Int64)) => (∃ C2 : CSt, out = .inl C2 ∧ r = 0 ∧ u = (C2, o)) ∨ ∃ (k : Nat) (C2 : CSt), out = .inr (k, C2) ∧ r = cm_set k ∧ u = (C2, o)) (fun u => Pst D (tysC cy) (AA (adrs (GH cy ad oa (C, o))) sz) (GH cy ad oa u)) (AA (adrs (GH cy ad oa (C, o))) sz)) 5 30 (AA (adrs (GH cy ad oa (C, o))) sz) := by
  refine g_metW (by decide) rfl (Nat.le_of_ble_eq_true rfl) ?_
  intro p e s m args below meth c K htab hw ls hl
  replace hl : lv_has ls 5 [(0, .ref (ad 0 0)), (1, .int x1), (2, .int x2), (3, .int x3)] := hl
  have K : Cx p s m args meth c D (AA (adrs (GH cy ad oa (C, o))) sz) (tysC cy) RL cL_set 5 (some .int) wsL_set EL := K
  generalize AA (adrs (GH cy ad oa (C, o))) sz = A at K hw ⊢
  obtain ⟨hx, hb, hml, hown, hts, hr, hlo, hK, hA, hX⟩ := id K
  have hw : Wd D A s.heap ([] ++ (GC cy ad C ++ og cy oa o)) s.heap [] := hw
  refine lv_aload_n hx hb dL_set_0 rfl (lv_at hl 0 rfl) ?_
  refine lv_iload_n hx hb dL_set_1 rfl (lv_at hl 1 rfl) ?_
  refine lv_iload_n hx hb dL_set_2 rfl (lv_at hl 2 rfl) ?_
  refine lv_iload_n hx hb dL_set_3 rfl (lv_at hl 3 rfl) ?_
  refine f_xcallv (GG := GC cy ad) K hw (vx_runV (As := [.int x1, .int x2, .int x3]) (rest := []) (g_fix K) (c_X7_set l hl9 D cy ad s.heap.size n C x1 x2 x3 hm) (cwV 3 (g_hts K) gL_set_X7_set rfl rfl rfl (by decide +kernel) ⟨Nat.le_of_ble_eq_true rfl, Nat.le_of_ble_eq_true rfl⟩) ⟨g_blind rides_EV, g_recv K (Wd_mid hw) 0 rfl (by decide : 0 < 1) rfl rfl, g_pre K (Wd_mid hw) (g_ride rides_EV (Cx_mid K hX.1) (Wd_mid hw))⟩ rfl rfl hl.1 rfl (lv_room (Nat.le_of_ble_eq_true rfl)) dL_set_4 ⟨Nat.le_of_ble_eq_true rfl, Nat.le_of_ble_eq_true rfl⟩) (fun k u H locs q9 ce ho hw hce hcv hcl => ?_) (fun u H locs hp hw => ?_)
  · have hkk := hk k u ho
    rcases hkk with rfl | rfl | rfl
    · refine cf_catch (own := RL) (name := "java/lang/IllegalArgumentException") (E := "java/lang/IllegalArgumentException") hown [] ⟨0, 7, 10, 19⟩ [⟨0, 7, 14, 25⟩, ⟨0, 7, 18, 13⟩] htab (fun z hz => by cases hz) (by decide) (by decide) (hts _ (List.mem_of_getElem? (i := 1) rfl)) (va_Nw.use rfl (hX.1.2.2.1 "java/lang/IllegalArgumentException" (by decide))) hce hcv hcl ?_
      refine lv_astore (lv' := [(4, .ref q9), (0, .ref (ad 0 0)), (1, .int x1), (2, .int x2), (3, .int x3)]) hx hb dL_set_10 hl (by decide) rfl (fun ls hl => ?_)
      refine lv_iconst (v := 1) hx hb dL_set_12 (by decide) ?_
      exact g_iret (GG := GH cy ad oa) (u := (u, o)) K hw (Or.inr ⟨1, u, ho, rfl, rfl⟩) dL_set_13
    · refine cf_catch (own := RL) (name := "java/util/NoSuchElementException") (E := "java/util/NoSuchElementException") hown [⟨0, 7, 10, 19⟩] ⟨0, 7, 14, 25⟩ [⟨0, 7, 18, 13⟩] htab (fun z hz => by
        simp only [List.mem_cons, List.not_mem_nil, or_false] at hz
        rcases hz with rfl
        · exact Or.inr ⟨by decide, "java/lang/IllegalArgumentException", hts _ (List.mem_of_getElem? (i := 1) rfl), hX.2 _ (by decide) _ (by decide) (by decide)⟩) (by decide) (by decide) (hts _ (List.mem_of_getElem? (i := 2) rfl)) (va_Nw.use rfl (hX.1.2.2.1 "java/util/NoSuchElementException" (by decide))) hce hcv hcl ?_
      refine lv_astore (lv' := [(4, .ref q9), (0, .ref (ad 0 0)), (1, .int x1), (2, .int x2), (3, .int x3)]) hx hb dL_set_14 hl (by decide) rfl (fun ls hl => ?_)
      refine lv_iconst (v := 2) hx hb dL_set_16 (by decide) ?_
      exact g_iret (GG := GH cy ad oa) (u := (u, o)) K hw (Or.inr ⟨2, u, ho, rfl, rfl⟩) dL_set_17
    · refine cf_catch (own := RL) (name := "java/lang/IllegalStateException") (E := "java/lang/IllegalStateException") hown [⟨0, 7, 10, 19⟩, ⟨0, 7, 14, 25⟩] ⟨0, 7, 18, 13⟩ [] htab (fun z hz => by
        simp only [List.mem_cons, List.not_mem_nil, or_false] at hz
        rcases hz with rfl | rfl
        · exact Or.inr ⟨by decide, "java/lang/IllegalArgumentException", hts _ (List.mem_of_getElem? (i := 1) rfl), hX.2 _ (by decide) _ (by decide) (by decide)⟩
        · exact Or.inr ⟨by decide, "java/util/NoSuchElementException", hts _ (List.mem_of_getElem? (i := 2) rfl), hX.2 _ (by decide) _ (by decide) (by decide)⟩) (by decide) (by decide) (hts _ (List.mem_of_getElem? (i := 3) rfl)) (va_Nw.use rfl (hX.1.2.2.1 "java/lang/IllegalStateException" (by decide))) hce hcv hcl ?_
      refine lv_astore (lv' := [(4, .ref q9), (0, .ref (ad 0 0)), (1, .int x1), (2, .int x2), (3, .int x3)]) hx hb dL_set_18 hl (by decide) rfl (fun ls hl => ?_)
      refine lv_iconst (v := 3) hx hb dL_set_20 (by decide) ?_
      exact g_iret (GG := GH cy ad oa) (u := (u, o)) K hw (Or.inr ⟨3, u, ho, rfl, rfl⟩) dL_set_21
  · refine lv_goto (tgt := 22) hx hb dL_set_7 (by decide) ?_
    refine lv_iconst (v := 0) hx hb dL_set_22 (by decide) ?_
    exact g_iret (GG := GH cy ad oa) (u := (u, o)) K hw (Or.inl ⟨u, hp, rfl, rfl⟩) dL_set_23
abbrev rm_L_link : Room := { frames := 8, cells := 6, slots := 36, locals := 150 }
set_option maxRecDepth 100000 in
set_option maxHeartbeats 4000000 in
theorem h_link (l : Launch) (hl9 : l.stackTraces = false) (D : va_G) (cy : Nat → ClassId) (ad : Nat → Nat → Nat) (oa : Nat → Nat) (sz n : Nat) (C : CSt) (o : Nat → Int64) (x1 : Int32) (x2 : Int32) (x3 : Int32) {out : (CSt) ⊕ (Nat × CSt)} (hm : m_X7_link n C x1 x2 x3 = some out) (hk : ∀ k C2, out = .inr (k, C2) → k = 1 ∨ k = 2 ∨ k = 3) : Met l yL_link wsL_link rm_L_link (va_Pc [.ref (ad 0 0), .int x1, .int x2, .int x3] (Pre D (tysC cy) (GH cy ad oa (C, o)) EL sz)) (va_Qi (fun (r : Int32) (u : CSt × (Nat → Int64)) => (∃ C2 : CSt, out = .inl C2 ∧ r = 0 ∧ u = (C2, o)) ∨ ∃ (k : Nat) (C2 : CSt), out = .inr (k, C2) ∧ r = cm_link k ∧ u = (C2, o)) (fun u => Pst D (tysC cy) (AA (adrs (GH cy ad oa (C, o))) sz) (GH cy ad oa u)) (AA (adrs (GH cy ad oa (C, o))) sz)) 6 36 (AA (adrs (GH cy ad oa (C, o))) sz) := by
  refine g_metW (by decide) rfl (Nat.le_of_ble_eq_true rfl) ?_
  intro p e s m args below meth c K htab hw ls hl
  replace hl : lv_has ls 5 [(0, .ref (ad 0 0)), (1, .int x1), (2, .int x2), (3, .int x3)] := hl
  have K : Cx p s m args meth c D (AA (adrs (GH cy ad oa (C, o))) sz) (tysC cy) RL cL_link 5 (some .int) wsL_link EL := K
  generalize AA (adrs (GH cy ad oa (C, o))) sz = A at K hw ⊢
  obtain ⟨hx, hb, hml, hown, hts, hr, hlo, hK, hA, hX⟩ := id K
  have hw : Wd D A s.heap ([] ++ (GC cy ad C ++ og cy oa o)) s.heap [] := hw
  refine lv_aload_n hx hb dL_link_0 rfl (lv_at hl 0 rfl) ?_
  refine lv_iload_n hx hb dL_link_1 rfl (lv_at hl 1 rfl) ?_
  refine lv_iload_n hx hb dL_link_2 rfl (lv_at hl 2 rfl) ?_
  refine lv_iload_n hx hb dL_link_3 rfl (lv_at hl 3 rfl) ?_
  refine f_xcallv (GG := GC cy ad) K hw (vx_runV (As := [.int x1, .int x2, .int x3]) (rest := []) (g_fix K) (c_X7_link l hl9 D cy ad s.heap.size n C x1 x2 x3 hm) (cwV 3 (g_hts K) gL_link_X7_link rfl rfl rfl (by decide +kernel) ⟨Nat.le_of_ble_eq_true rfl, Nat.le_of_ble_eq_true rfl⟩) ⟨g_blind rides_EV, g_recv K (Wd_mid hw) 0 rfl (by decide : 0 < 1) rfl rfl, g_pre K (Wd_mid hw) (g_ride rides_EV (Cx_mid K hX.1) (Wd_mid hw))⟩ rfl rfl hl.1 rfl (lv_room (Nat.le_of_ble_eq_true rfl)) dL_link_4 ⟨Nat.le_of_ble_eq_true rfl, Nat.le_of_ble_eq_true rfl⟩) (fun k u H locs q9 ce ho hw hce hcv hcl => ?_) (fun u H locs hp hw => ?_)
  · have hkk := hk k u ho
    rcases hkk with rfl | rfl | rfl
    · refine cf_catch (own := RL) (name := "java/lang/IllegalArgumentException") (E := "java/lang/IllegalArgumentException") hown [] ⟨0, 7, 10, 19⟩ [⟨0, 7, 14, 25⟩, ⟨0, 7, 18, 13⟩] htab (fun z hz => by cases hz) (by decide) (by decide) (hts _ (List.mem_of_getElem? (i := 1) rfl)) (va_Nw.use rfl (hX.1.2.2.1 "java/lang/IllegalArgumentException" (by decide))) hce hcv hcl ?_
      refine lv_astore (lv' := [(4, .ref q9), (0, .ref (ad 0 0)), (1, .int x1), (2, .int x2), (3, .int x3)]) hx hb dL_link_10 hl (by decide) rfl (fun ls hl => ?_)
      refine lv_iconst (v := 1) hx hb dL_link_12 (by decide) ?_
      exact g_iret (GG := GH cy ad oa) (u := (u, o)) K hw (Or.inr ⟨1, u, ho, rfl, rfl⟩) dL_link_13
    · refine cf_catch (own := RL) (name := "java/util/NoSuchElementException") (E := "java/util/NoSuchElementException") hown [⟨0, 7, 10, 19⟩] ⟨0, 7, 14, 25⟩ [⟨0, 7, 18, 13⟩] htab (fun z hz => by
        simp only [List.mem_cons, List.not_mem_nil, or_false] at hz
        rcases hz with rfl
        · exact Or.inr ⟨by decide, "java/lang/IllegalArgumentException", hts _ (List.mem_of_getElem? (i := 1) rfl), hX.2 _ (by decide) _ (by decide) (by decide)⟩) (by decide) (by decide) (hts _ (List.mem_of_getElem? (i := 2) rfl)) (va_Nw.use rfl (hX.1.2.2.1 "java/util/NoSuchElementException" (by decide))) hce hcv hcl ?_
      refine lv_astore (lv' := [(4, .ref q9), (0, .ref (ad 0 0)), (1, .int x1), (2, .int x2), (3, .int x3)]) hx hb dL_link_14 hl (by decide) rfl (fun ls hl => ?_)
      refine lv_iconst (v := 2) hx hb dL_link_16 (by decide) ?_
      exact g_iret (GG := GH cy ad oa) (u := (u, o)) K hw (Or.inr ⟨2, u, ho, rfl, rfl⟩) dL_link_17
    · refine cf_catch (own := RL) (name := "java/lang/IllegalStateException") (E := "java/lang/IllegalStateException") hown [⟨0, 7, 10, 19⟩, ⟨0, 7, 14, 25⟩] ⟨0, 7, 18, 13⟩ [] htab (fun z hz => by
        simp only [List.mem_cons, List.not_mem_nil, or_false] at hz
        rcases hz with rfl | rfl
        · exact Or.inr ⟨by decide, "java/lang/IllegalArgumentException", hts _ (List.mem_of_getElem? (i := 1) rfl), hX.2 _ (by decide) _ (by decide) (by decide)⟩
        · exact Or.inr ⟨by decide, "java/util/NoSuchElementException", hts _ (List.mem_of_getElem? (i := 2) rfl), hX.2 _ (by decide) _ (by decide) (by decide)⟩) (by decide) (by decide) (hts _ (List.mem_of_getElem? (i := 3) rfl)) (va_Nw.use rfl (hX.1.2.2.1 "java/lang/IllegalStateException" (by decide))) hce hcv hcl ?_
      refine lv_astore (lv' := [(4, .ref q9), (0, .ref (ad 0 0)), (1, .int x1), (2, .int x2), (3, .int x3)]) hx hb dL_link_18 hl (by decide) rfl (fun ls hl => ?_)
      refine lv_iconst (v := 3) hx hb dL_link_20 (by decide) ?_
      exact g_iret (GG := GH cy ad oa) (u := (u, o)) K hw (Or.inr ⟨3, u, ho, rfl, rfl⟩) dL_link_21
  · refine lv_goto (tgt := 22) hx hb dL_link_7 (by decide) ?_
    refine lv_iconst (v := 0) hx hb dL_link_22 (by decide) ?_
    exact g_iret (GG := GH cy ad oa) (u := (u, o)) K hw (Or.inl ⟨u, hp, rfl, rfl⟩) dL_link_23
abbrev rm_L_follow : Room := { frames := 8, cells := 5, slots := 30, locals := 149 }
set_option maxRecDepth 100000 in
set_option maxHeartbeats 4000000 in
theorem h_follow (l : Launch) (hl9 : l.stackTraces = false) (D : va_G) (cy : Nat → ClassId) (ad : Nat → Nat → Nat) (oa : Nat → Nat) (sz n : Nat) (C : CSt) (o : Nat → Int64) (x1 : Int32) (x2 : Int32) (x3 : Int32) {out : (CSt) ⊕ (Nat × CSt)} (hm : m_X7_follow n C x1 x2 x3 = some out) (hk : ∀ k C2, out = .inr (k, C2) → k = 1 ∨ k = 2) : Met l yL_follow wsL_follow rm_L_follow (va_Pc [.ref (ad 0 0), .int x1, .int x2, .int x3] (Pre D (tysC cy) (GH cy ad oa (C, o)) EL sz)) (va_Qi (fun (r : Int32) (u : CSt × (Nat → Int64)) => (∃ C2 : CSt, out = .inl C2 ∧ r = 0 ∧ u = (C2, o)) ∨ ∃ (k : Nat) (C2 : CSt), out = .inr (k, C2) ∧ r = cm_follow k ∧ u = (C2, o)) (fun u => Pst D (tysC cy) (AA (adrs (GH cy ad oa (C, o))) sz) (GH cy ad oa u)) (AA (adrs (GH cy ad oa (C, o))) sz)) 5 30 (AA (adrs (GH cy ad oa (C, o))) sz) := by
  refine g_metW (by decide) rfl (Nat.le_of_ble_eq_true rfl) ?_
  intro p e s m args below meth c K htab hw ls hl
  replace hl : lv_has ls 5 [(0, .ref (ad 0 0)), (1, .int x1), (2, .int x2), (3, .int x3)] := hl
  have K : Cx p s m args meth c D (AA (adrs (GH cy ad oa (C, o))) sz) (tysC cy) RL cL_follow 5 (some .int) wsL_follow EL := K
  generalize AA (adrs (GH cy ad oa (C, o))) sz = A at K hw ⊢
  obtain ⟨hx, hb, hml, hown, hts, hr, hlo, hK, hA, hX⟩ := id K
  have hw : Wd D A s.heap ([] ++ (GC cy ad C ++ og cy oa o)) s.heap [] := hw
  refine lv_aload_n hx hb dL_follow_0 rfl (lv_at hl 0 rfl) ?_
  refine lv_iload_n hx hb dL_follow_1 rfl (lv_at hl 1 rfl) ?_
  refine lv_iload_n hx hb dL_follow_2 rfl (lv_at hl 2 rfl) ?_
  refine lv_iload_n hx hb dL_follow_3 rfl (lv_at hl 3 rfl) ?_
  refine f_xcallv (GG := GC cy ad) K hw (vx_runV (As := [.int x1, .int x2, .int x3]) (rest := []) (g_fix K) (c_X7_follow l hl9 D cy ad s.heap.size n C x1 x2 x3 hm) (cwV 3 (g_hts K) gL_follow_X7_follow rfl rfl rfl (by decide +kernel) ⟨Nat.le_of_ble_eq_true rfl, Nat.le_of_ble_eq_true rfl⟩) ⟨g_blind rides_EV, g_recv K (Wd_mid hw) 0 rfl (by decide : 0 < 1) rfl rfl, g_pre K (Wd_mid hw) (g_ride rides_EV (Cx_mid K hX.1) (Wd_mid hw))⟩ rfl rfl hl.1 rfl (lv_room (Nat.le_of_ble_eq_true rfl)) dL_follow_4 ⟨Nat.le_of_ble_eq_true rfl, Nat.le_of_ble_eq_true rfl⟩) (fun k u H locs q9 ce ho hw hce hcv hcl => ?_) (fun u H locs hp hw => ?_)
  · have hkk := hk k u ho
    rcases hkk with rfl | rfl
    · refine cf_catch (own := RL) (name := "java/lang/IllegalArgumentException") (E := "java/lang/IllegalArgumentException") hown [] ⟨0, 7, 10, 19⟩ [⟨0, 7, 14, 25⟩] htab (fun z hz => by cases hz) (by decide) (by decide) (hts _ (List.mem_of_getElem? (i := 1) rfl)) (va_Nw.use rfl (hX.1.2.2.1 "java/lang/IllegalArgumentException" (by decide))) hce hcv hcl ?_
      refine lv_astore (lv' := [(4, .ref q9), (0, .ref (ad 0 0)), (1, .int x1), (2, .int x2), (3, .int x3)]) hx hb dL_follow_10 hl (by decide) rfl (fun ls hl => ?_)
      refine lv_iconst (v := 1) hx hb dL_follow_12 (by decide) ?_
      exact g_iret (GG := GH cy ad oa) (u := (u, o)) K hw (Or.inr ⟨1, u, ho, rfl, rfl⟩) dL_follow_13
    · refine cf_catch (own := RL) (name := "java/util/NoSuchElementException") (E := "java/util/NoSuchElementException") hown [⟨0, 7, 10, 19⟩] ⟨0, 7, 14, 25⟩ [] htab (fun z hz => by
        simp only [List.mem_cons, List.not_mem_nil, or_false] at hz
        rcases hz with rfl
        · exact Or.inr ⟨by decide, "java/lang/IllegalArgumentException", hts _ (List.mem_of_getElem? (i := 1) rfl), hX.2 _ (by decide) _ (by decide) (by decide)⟩) (by decide) (by decide) (hts _ (List.mem_of_getElem? (i := 2) rfl)) (va_Nw.use rfl (hX.1.2.2.1 "java/util/NoSuchElementException" (by decide))) hce hcv hcl ?_
      refine lv_astore (lv' := [(4, .ref q9), (0, .ref (ad 0 0)), (1, .int x1), (2, .int x2), (3, .int x3)]) hx hb dL_follow_14 hl (by decide) rfl (fun ls hl => ?_)
      refine lv_iconst (v := 2) hx hb dL_follow_16 (by decide) ?_
      exact g_iret (GG := GH cy ad oa) (u := (u, o)) K hw (Or.inr ⟨2, u, ho, rfl, rfl⟩) dL_follow_17
  · refine lv_goto (tgt := 18) hx hb dL_follow_7 (by decide) ?_
    refine lv_iconst (v := 0) hx hb dL_follow_18 (by decide) ?_
    exact g_iret (GG := GH cy ad oa) (u := (u, o)) K hw (Or.inl ⟨u, hp, rfl, rfl⟩) dL_follow_19
abbrev rm_L_drop : Room := { frames := 8, cells := 1, slots := 6, locals := 142 }
set_option maxRecDepth 100000 in
set_option maxHeartbeats 4000000 in
theorem h_drop (l : Launch) (hl9 : l.stackTraces = false) (D : va_G) (cy : Nat → ClassId) (ad : Nat → Nat → Nat) (oa : Nat → Nat) (sz n : Nat) (C : CSt) (o : Nat → Int64) (x1 : Int32) {out : (Int32 × CSt) ⊕ (Nat × CSt)} (hm : m_X7_drop n C x1 = some out) (hk : ∀ k C2, out = .inr (k, C2) → k = 1) : Met l yL_drop wsL_drop rm_L_drop (va_Pc [.ref (ad 0 0), .int x1, .ref (oa 0)] (Pre D (tysC cy) (GH cy ad oa (C, o)) EL sz)) (va_Qi (fun (r : Int32) (u : CSt × (Nat → Int64)) => (∃ (v : Int32) (C2 : CSt), out = .inl (v, C2) ∧ r = 0 ∧ u = (C2, vp_updL o 0 ((if v = 0 then 0 else 1 : Int64)))) ∨ ∃ (k : Nat) (C2 : CSt), out = .inr (k, C2) ∧ r = cm_drop k ∧ u = (C2, o)) (fun u => Pst D (tysC cy) (AA (adrs (GH cy ad oa (C, o))) sz) (GH cy ad oa u)) (AA (adrs (GH cy ad oa (C, o))) sz)) 1 6 (AA (adrs (GH cy ad oa (C, o))) sz) := by
  refine g_metW (by decide) rfl (Nat.le_of_ble_eq_true rfl) ?_
  intro p e s m args below meth c K htab hw ls hl
  replace hl : lv_has ls 4 [(0, .ref (ad 0 0)), (1, .int x1), (2, .ref (oa 0))] := hl
  have K : Cx p s m args meth c D (AA (adrs (GH cy ad oa (C, o))) sz) (tysC cy) RL cL_drop 4 (some .int) wsL_drop EL := K
  generalize AA (adrs (GH cy ad oa (C, o))) sz = A at K hw ⊢
  obtain ⟨hx, hb, hml, hown, hts, hr, hlo, hK, hA, hX⟩ := id K
  have hw : Wd D A s.heap ([] ++ (GC cy ad C ++ og cy oa o)) s.heap [] := hw
  refine lv_aload_n hx hb dL_drop_0 rfl (lv_at hl 2 rfl) ?_
  refine lv_iconst (v := 0) hx hb dL_drop_1 (by decide) ?_
  refine lv_aload_n hx hb dL_drop_2 rfl (lv_at hl 0 rfl) ?_
  refine lv_iload_n hx hb dL_drop_3 rfl (lv_at hl 1 rfl) ?_
  refine f_xcalli (GG := GC cy ad) K hw (vx_runV (As := [.int x1]) (rest := [.int 0, .ref (oa 0)]) (g_fix K) (c_X7_drop l hl9 D cy ad s.heap.size n C x1 hm) (cwV 1 (g_hts K) gL_drop_X7_drop rfl rfl rfl (by decide +kernel) ⟨Nat.le_of_ble_eq_true rfl, Nat.le_of_ble_eq_true rfl⟩) ⟨g_blind rides_EV, g_recv K (Wd_mid hw) 0 rfl (by decide : 0 < 1) rfl rfl, g_pre K (Wd_mid hw) (g_ride rides_EV (Cx_mid K hX.1) (Wd_mid hw))⟩ rfl rfl hl.1 rfl (lv_room (Nat.le_of_ble_eq_true rfl)) dL_drop_4 ⟨Nat.le_of_ble_eq_true rfl, Nat.le_of_ble_eq_true rfl⟩) (fun k u H locs q9 ce ho hw hce hcv hcl => ?_) (fun r u H locs hp hw => ?_)
  · have hkk := hk k u ho
    rcases hkk with rfl
    · refine cf_catch (own := RL) (name := "java/lang/IllegalArgumentException") (E := "java/lang/IllegalArgumentException") hown [] ⟨0, 16, 19, 19⟩ [] htab (fun z hz => by cases hz) (by decide) (by decide) (hts _ (List.mem_of_getElem? (i := 1) rfl)) (va_Nw.use rfl (hX.1.2.2.1 "java/lang/IllegalArgumentException" (by decide))) hce hcv hcl ?_
      refine lv_astore_n (lv' := [(3, .ref q9), (0, .ref (ad 0 0)), (1, .int x1), (2, .ref (oa 0))]) hx hb dL_drop_19 rfl hl (by decide) rfl (fun ls hl => ?_)
      refine lv_iconst (v := 1) hx hb dL_drop_20 (by decide) ?_
      exact g_iret (GG := GH cy ad oa) (u := (u, o)) K hw (Or.inr ⟨1, u, ho, rfl, rfl⟩) dL_drop_21
  · have hp := hp
    refine lv_if_eq (tgt := 14) hx hb dL_drop_7 (by decide) (fun c1 => ?_) (fun c1 => ?_)
    · refine lv_lconst (v := 0) hx hb dL_drop_14 (by decide) ?_
      refine g_last (G := GH cy ad oa (u, o)) K hw 23 1 rfl (by decide) rfl rfl (i := 0) (by decide) dL_drop_15 (eO cy ad oa u o _ _) (fun H locs hw => ?_)
      refine lv_goto (tgt := 22) hx hb dL_drop_16 (by decide) ?_
      refine lv_iconst (v := 0) hx hb dL_drop_22 (by decide) ?_
      exact g_iret (GG := GH cy ad oa) (u := (u, vp_updL o 0 0)) K hw (Or.inl ⟨r, u, hp, rfl, by rw [if_pos c1]⟩) dL_drop_23
    · refine lv_lconst (v := 1) hx hb dL_drop_10 (by decide) ?_
      refine lv_goto (tgt := 15) hx hb dL_drop_11 (by decide) ?_
      refine g_last (G := GH cy ad oa (u, o)) K hw 23 1 rfl (by decide) rfl rfl (i := 0) (by decide) dL_drop_15 (eO cy ad oa u o _ _) (fun H locs hw => ?_)
      refine lv_goto (tgt := 22) hx hb dL_drop_16 (by decide) ?_
      refine lv_iconst (v := 0) hx hb dL_drop_22 (by decide) ?_
      exact g_iret (GG := GH cy ad oa) (u := (u, vp_updL o 0 1)) K hw (Or.inl ⟨r, u, hp, rfl, by rw [if_neg c1]⟩) dL_drop_23
abbrev rm_L_same : Room := { frames := 8, cells := 2, slots := 12, locals := 142 }
set_option maxRecDepth 100000 in
set_option maxHeartbeats 4000000 in
theorem h_same (l : Launch) (hl9 : l.stackTraces = false) (D : va_G) (cy : Nat → ClassId) (ad : Nat → Nat → Nat) (oa : Nat → Nat) (sz n : Nat) (C : CSt) (o : Nat → Int64) (x1 : Int32) (x2 : Int32) {out : (Int32) ⊕ (Nat × CSt)} (hm : m_X7_same n C x1 x2 = some out) (hk : ∀ k C2, out = .inr (k, C2) → k = 1) : Met l yL_same wsL_same rm_L_same (va_Pc [.ref (ad 0 0), .int x1, .int x2, .ref (oa 0)] (Pre D (tysC cy) (GH cy ad oa (C, o)) EL sz)) (va_Qi (fun (r : Int32) (u : CSt × (Nat → Int64)) => (∃ v : Int32, out = .inl v ∧ r = 0 ∧ u = (C, vp_updL o 0 ((if v = 0 then 0 else 1 : Int64)))) ∨ ∃ (k : Nat) (C2 : CSt), out = .inr (k, C2) ∧ r = cm_same k ∧ u = (C2, o)) (fun u => Pst D (tysC cy) (AA (adrs (GH cy ad oa (C, o))) sz) (GH cy ad oa u)) (AA (adrs (GH cy ad oa (C, o))) sz)) 2 12 (AA (adrs (GH cy ad oa (C, o))) sz) := by
  refine g_metW (by decide) rfl (Nat.le_of_ble_eq_true rfl) ?_
  intro p e s m args below meth c K htab hw ls hl
  replace hl : lv_has ls 5 [(0, .ref (ad 0 0)), (1, .int x1), (2, .int x2), (3, .ref (oa 0))] := hl
  have K : Cx p s m args meth c D (AA (adrs (GH cy ad oa (C, o))) sz) (tysC cy) RL cL_same 5 (some .int) wsL_same EL := K
  generalize AA (adrs (GH cy ad oa (C, o))) sz = A at K hw ⊢
  obtain ⟨hx, hb, hml, hown, hts, hr, hlo, hK, hA, hX⟩ := id K
  have hw : Wd D A s.heap ([] ++ (GC cy ad C ++ og cy oa o)) s.heap [] := hw
  refine lv_aload_n hx hb dL_same_0 rfl (lv_at hl 3 rfl) ?_
  refine lv_iconst (v := 0) hx hb dL_same_1 (by decide) ?_
  refine lv_aload_n hx hb dL_same_2 rfl (lv_at hl 0 rfl) ?_
  refine lv_iload_n hx hb dL_same_3 rfl (lv_at hl 1 rfl) ?_
  refine lv_iload_n hx hb dL_same_4 rfl (lv_at hl 2 rfl) ?_
  refine f_xcalli (GG := GC cy ad) K hw (vx_runV (As := [.int x1, .int x2]) (rest := [.int 0, .ref (oa 0)]) (g_fix K) (c_X7_same l hl9 D cy ad s.heap.size n C x1 x2 hm) (cwV 2 (g_hts K) gL_same_X7_same rfl rfl rfl (by decide +kernel) ⟨Nat.le_of_ble_eq_true rfl, Nat.le_of_ble_eq_true rfl⟩) ⟨g_blind rides_EV, g_recv K (Wd_mid hw) 0 rfl (by decide : 0 < 1) rfl rfl, g_pre K (Wd_mid hw) (g_ride rides_EV (Cx_mid K hX.1) (Wd_mid hw))⟩ rfl rfl hl.1 rfl (lv_room (Nat.le_of_ble_eq_true rfl)) dL_same_5 ⟨Nat.le_of_ble_eq_true rfl, Nat.le_of_ble_eq_true rfl⟩) (fun k u H locs q9 ce ho hw hce hcv hcl => ?_) (fun r u H locs hp hw => ?_)
  · have hkk := hk k u ho
    rcases hkk with rfl
    · refine cf_catch (own := RL) (name := "java/lang/IllegalArgumentException") (E := "java/lang/IllegalArgumentException") hown [] ⟨0, 17, 20, 19⟩ [] htab (fun z hz => by cases hz) (by decide) (by decide) (hts _ (List.mem_of_getElem? (i := 1) rfl)) (va_Nw.use rfl (hX.1.2.2.1 "java/lang/IllegalArgumentException" (by decide))) hce hcv hcl ?_
      refine lv_astore (lv' := [(4, .ref q9), (0, .ref (ad 0 0)), (1, .int x1), (2, .int x2), (3, .ref (oa 0))]) hx hb dL_same_20 hl (by decide) rfl (fun ls hl => ?_)
      refine lv_iconst (v := 1) hx hb dL_same_22 (by decide) ?_
      exact g_iret (GG := GH cy ad oa) (u := (u, o)) K hw (Or.inr ⟨1, u, ho, rfl, rfl⟩) dL_same_23
  · have hp := hp
    obtain ⟨hp, hu⟩ := hp
    rw [hu] at hw
    refine lv_if_eq (tgt := 15) hx hb dL_same_8 (by decide) (fun c1 => ?_) (fun c1 => ?_)
    · refine lv_lconst (v := 0) hx hb dL_same_15 (by decide) ?_
      refine g_last (G := GH cy ad oa (C, o)) K hw 23 1 rfl (by decide) rfl rfl (i := 0) (by decide) dL_same_16 (eO cy ad oa C o _ _) (fun H locs hw => ?_)
      refine lv_goto (tgt := 24) hx hb dL_same_17 (by decide) ?_
      refine lv_iconst (v := 0) hx hb dL_same_24 (by decide) ?_
      exact g_iret (GG := GH cy ad oa) (u := (C, vp_updL o 0 0)) K hw (Or.inl ⟨r, hp, rfl, by rw [if_pos c1]⟩) dL_same_25
    · refine lv_lconst (v := 1) hx hb dL_same_11 (by decide) ?_
      refine lv_goto (tgt := 16) hx hb dL_same_12 (by decide) ?_
      refine g_last (G := GH cy ad oa (C, o)) K hw 23 1 rfl (by decide) rfl rfl (i := 0) (by decide) dL_same_16 (eO cy ad oa C o _ _) (fun H locs hw => ?_)
      refine lv_goto (tgt := 24) hx hb dL_same_17 (by decide) ?_
      refine lv_iconst (v := 0) hx hb dL_same_24 (by decide) ?_
      exact g_iret (GG := GH cy ad oa) (u := (C, vp_updL o 0 1)) K hw (Or.inl ⟨r, hp, rfl, by rw [if_neg c1]⟩) dL_same_25
abbrev rm_L_word : Room := { frames := 7, cells := 1, slots := 6, locals := 121 }
set_option maxRecDepth 100000 in
set_option maxHeartbeats 4000000 in
theorem h_word (l : Launch) (hl9 : l.stackTraces = false) (D : va_G) (cy : Nat → ClassId) (ad : Nat → Nat → Nat) (oa : Nat → Nat) (sz n : Nat) (C : CSt) (o : Nat → Int64) (x1 : Int32) {out : (Int32 × CSt) ⊕ (Nat × CSt)} (hm : m_X7_word n C x1 = some out) (hk : ∀ k C2, out = .inr (k, C2) → k = 1 ∨ k = 3) : Met l yL_word wsL_word rm_L_word (va_Pc [.ref (ad 0 0), .int x1, .ref (oa 0)] (Pre D (tysC cy) (GH cy ad oa (C, o)) EL sz)) (va_Qi (fun (r : Int32) (u : CSt × (Nat → Int64)) => (∃ (v : Int32) (C2 : CSt), out = .inl (v, C2) ∧ r = 0 ∧ u = (C2, vp_updL o 0 (v.toInt64))) ∨ ∃ (k : Nat) (C2 : CSt), out = .inr (k, C2) ∧ r = cm_word k ∧ u = (C2, o)) (fun u => Pst D (tysC cy) (AA (adrs (GH cy ad oa (C, o))) sz) (GH cy ad oa u)) (AA (adrs (GH cy ad oa (C, o))) sz)) 1 6 (AA (adrs (GH cy ad oa (C, o))) sz) := by
  refine g_metW (by decide) rfl (Nat.le_of_ble_eq_true rfl) ?_
  intro p e s m args below meth c K htab hw ls hl
  replace hl : lv_has ls 4 [(0, .ref (ad 0 0)), (1, .int x1), (2, .ref (oa 0))] := hl
  have K : Cx p s m args meth c D (AA (adrs (GH cy ad oa (C, o))) sz) (tysC cy) RL cL_word 4 (some .int) wsL_word EL := K
  generalize AA (adrs (GH cy ad oa (C, o))) sz = A at K hw ⊢
  obtain ⟨hx, hb, hml, hown, hts, hr, hlo, hK, hA, hX⟩ := id K
  have hw : Wd D A s.heap ([] ++ (GC cy ad C ++ og cy oa o)) s.heap [] := hw
  refine lv_aload_n hx hb dL_word_0 rfl (lv_at hl 2 rfl) ?_
  refine lv_iconst (v := 0) hx hb dL_word_1 (by decide) ?_
  refine lv_aload_n hx hb dL_word_2 rfl (lv_at hl 0 rfl) ?_
  refine lv_iload_n hx hb dL_word_3 rfl (lv_at hl 1 rfl) ?_
  refine f_xcalli (GG := GC cy ad) K hw (vx_runV (As := [.int x1]) (rest := [.int 0, .ref (oa 0)]) (g_fix K) (c_X7_word l hl9 D cy ad s.heap.size n C x1 hm) (cwV 1 (g_hts K) gL_word_X7_word rfl rfl rfl (by decide +kernel) ⟨Nat.le_of_ble_eq_true rfl, Nat.le_of_ble_eq_true rfl⟩) ⟨g_blind rides_EV, g_recv K (Wd_mid hw) 0 rfl (by decide : 0 < 1) rfl rfl, g_pre K (Wd_mid hw) (g_ride rides_EV (Cx_mid K hX.1) (Wd_mid hw))⟩ rfl rfl hl.1 rfl (lv_room (Nat.le_of_ble_eq_true rfl)) dL_word_4 ⟨Nat.le_of_ble_eq_true rfl, Nat.le_of_ble_eq_true rfl⟩) (fun k u H locs q9 ce ho hw hce hcv hcl => ?_) (fun r u H locs hp hw => ?_)
  · have hkk := hk k u ho
    rcases hkk with rfl | rfl
    · refine cf_catch (own := RL) (name := "java/lang/IllegalArgumentException") (E := "java/lang/IllegalArgumentException") hown [] ⟨0, 9, 12, 19⟩ [⟨0, 9, 15, 13⟩] htab (fun z hz => by cases hz) (by decide) (by decide) (hts _ (List.mem_of_getElem? (i := 1) rfl)) (va_Nw.use rfl (hX.1.2.2.1 "java/lang/IllegalArgumentException" (by decide))) hce hcv hcl ?_
      refine lv_astore_n (lv' := [(3, .ref q9), (0, .ref (ad 0 0)), (1, .int x1), (2, .ref (oa 0))]) hx hb dL_word_12 rfl hl (by decide) rfl (fun ls hl => ?_)
      refine lv_iconst (v := 1) hx hb dL_word_13 (by decide) ?_
      exact g_iret (GG := GH cy ad oa) (u := (u, o)) K hw (Or.inr ⟨1, u, ho, rfl, rfl⟩) dL_word_14
    · refine cf_catch (own := RL) (name := "java/lang/IllegalStateException") (E := "java/lang/IllegalStateException") hown [⟨0, 9, 12, 19⟩] ⟨0, 9, 15, 13⟩ [] htab (fun z hz => by
        simp only [List.mem_cons, List.not_mem_nil, or_false] at hz
        rcases hz with rfl
        · exact Or.inr ⟨by decide, "java/lang/IllegalArgumentException", hts _ (List.mem_of_getElem? (i := 1) rfl), hX.2 _ (by decide) _ (by decide) (by decide)⟩) (by decide) (by decide) (hts _ (List.mem_of_getElem? (i := 2) rfl)) (va_Nw.use rfl (hX.1.2.2.1 "java/lang/IllegalStateException" (by decide))) hce hcv hcl ?_
      refine lv_astore_n (lv' := [(3, .ref q9), (0, .ref (ad 0 0)), (1, .int x1), (2, .ref (oa 0))]) hx hb dL_word_15 rfl hl (by decide) rfl (fun ls hl => ?_)
      refine lv_iconst (v := 2) hx hb dL_word_16 (by decide) ?_
      exact g_iret (GG := GH cy ad oa) (u := (u, o)) K hw (Or.inr ⟨3, u, ho, rfl, rfl⟩) dL_word_17
  · have hp := hp
    refine lv_i2l hx hb dL_word_7 rfl ?_
    refine g_last (G := GH cy ad oa (u, o)) K hw 23 1 rfl (by decide) rfl rfl (i := 0) (by decide) dL_word_8 (eO cy ad oa u o _ _) (fun H locs hw => ?_)
    refine lv_goto (tgt := 18) hx hb dL_word_9 (by decide) ?_
    refine lv_iconst (v := 0) hx hb dL_word_18 (by decide) ?_
    exact g_iret (GG := GH cy ad oa) (u := (u, vp_updL o 0 r.toInt64)) K hw (Or.inl ⟨r, u, hp, rfl, rfl⟩) dL_word_19
abbrev rm_L_step : Room := { frames := 7, cells := 1, slots := 6, locals := 126 }
set_option maxRecDepth 100000 in
set_option maxHeartbeats 4000000 in
theorem h_step (l : Launch) (hl9 : l.stackTraces = false) (D : va_G) (cy : Nat → ClassId) (ad : Nat → Nat → Nat) (oa : Nat → Nat) (sz n : Nat) (C : CSt) (o : Nat → Int64) (x1 : Int32) (x2 : Int32) (x3 : Int32) (x4 : Int32) (x5 : Int32) {out : (Int32 × CSt) ⊕ (Nat × CSt)} (hm : m_X7_step n C x1 x2 x3 x4 x5 = some out) (hk : ∀ k C2, out = .inr (k, C2) → k = 1 ∨ k = 3) : Met l yL_step wsL_step rm_L_step (va_Pc [.ref (ad 0 0), .int x1, .int x2, .int x3, .int x4, .int x5, .ref (oa 0)] (Pre D (tysC cy) (GH cy ad oa (C, o)) EL sz)) (va_Qi (fun (r : Int32) (u : CSt × (Nat → Int64)) => (∃ (v : Int32) (C2 : CSt), out = .inl (v, C2) ∧ r = 0 ∧ u = (C2, vp_updL o 0 (v.toInt64))) ∨ ∃ (k : Nat) (C2 : CSt), out = .inr (k, C2) ∧ r = cm_step k ∧ u = (C2, o)) (fun u => Pst D (tysC cy) (AA (adrs (GH cy ad oa (C, o))) sz) (GH cy ad oa u)) (AA (adrs (GH cy ad oa (C, o))) sz)) 1 6 (AA (adrs (GH cy ad oa (C, o))) sz) := by
  refine g_metW (by decide) rfl (Nat.le_of_ble_eq_true rfl) ?_
  intro p e s m args below meth c K htab hw ls hl
  replace hl : lv_has ls 8 [(0, .ref (ad 0 0)), (1, .int x1), (2, .int x2), (3, .int x3), (4, .int x4), (5, .int x5), (6, .ref (oa 0))] := hl
  have K : Cx p s m args meth c D (AA (adrs (GH cy ad oa (C, o))) sz) (tysC cy) RL cL_step 8 (some .int) wsL_step EL := K
  generalize AA (adrs (GH cy ad oa (C, o))) sz = A at K hw ⊢
  obtain ⟨hx, hb, hml, hown, hts, hr, hlo, hK, hA, hX⟩ := id K
  have hw : Wd D A s.heap ([] ++ (GC cy ad C ++ og cy oa o)) s.heap [] := hw
  refine lv_aload hx hb dL_step_0 (lv_at hl 6 rfl) ?_
  refine lv_iconst (v := 0) hx hb dL_step_2 (by decide) ?_
  refine lv_aload_n hx hb dL_step_3 rfl (lv_at hl 0 rfl) ?_
  refine lv_iload_n hx hb dL_step_4 rfl (lv_at hl 1 rfl) ?_
  refine lv_iload_n hx hb dL_step_5 rfl (lv_at hl 2 rfl) ?_
  refine lv_iload_n hx hb dL_step_6 rfl (lv_at hl 3 rfl) ?_
  refine lv_iload hx hb dL_step_7 (lv_at hl 4 rfl) ?_
  refine lv_iload hx hb dL_step_9 (lv_at hl 5 rfl) ?_
  refine f_xcalli (GG := GC cy ad) K hw (vx_runV (As := [.int x1, .int x2, .int x3, .int x4, .int x5]) (rest := [.int 0, .ref (oa 0)]) (g_fix K) (c_X7_step l hl9 D cy ad s.heap.size n C x1 x2 x3 x4 x5 hm) (cwV 5 (g_hts K) gL_step_X7_step rfl rfl rfl (by decide +kernel) ⟨Nat.le_of_ble_eq_true rfl, Nat.le_of_ble_eq_true rfl⟩) ⟨g_blind rides_EV, g_recv K (Wd_mid hw) 0 rfl (by decide : 0 < 1) rfl rfl, g_pre K (Wd_mid hw) (g_ride rides_EV (Cx_mid K hX.1) (Wd_mid hw))⟩ rfl rfl hl.1 rfl (lv_room (Nat.le_of_ble_eq_true rfl)) dL_step_11 ⟨Nat.le_of_ble_eq_true rfl, Nat.le_of_ble_eq_true rfl⟩) (fun k u H locs q9 ce ho hw hce hcv hcl => ?_) (fun r u H locs hp hw => ?_)
  · have hkk := hk k u ho
    rcases hkk with rfl | rfl
    · refine cf_catch (own := RL) (name := "java/lang/IllegalArgumentException") (E := "java/lang/IllegalArgumentException") hown [] ⟨0, 16, 19, 19⟩ [⟨0, 16, 23, 13⟩] htab (fun z hz => by cases hz) (by decide) (by decide) (hts _ (List.mem_of_getElem? (i := 1) rfl)) (va_Nw.use rfl (hX.1.2.2.1 "java/lang/IllegalArgumentException" (by decide))) hce hcv hcl ?_
      refine lv_astore (lv' := [(7, .ref q9), (0, .ref (ad 0 0)), (1, .int x1), (2, .int x2), (3, .int x3), (4, .int x4), (5, .int x5), (6, .ref (oa 0))]) hx hb dL_step_19 hl (by decide) rfl (fun ls hl => ?_)
      refine lv_iconst (v := 1) hx hb dL_step_21 (by decide) ?_
      exact g_iret (GG := GH cy ad oa) (u := (u, o)) K hw (Or.inr ⟨1, u, ho, rfl, rfl⟩) dL_step_22
    · refine cf_catch (own := RL) (name := "java/lang/IllegalStateException") (E := "java/lang/IllegalStateException") hown [⟨0, 16, 19, 19⟩] ⟨0, 16, 23, 13⟩ [] htab (fun z hz => by
        simp only [List.mem_cons, List.not_mem_nil, or_false] at hz
        rcases hz with rfl
        · exact Or.inr ⟨by decide, "java/lang/IllegalArgumentException", hts _ (List.mem_of_getElem? (i := 1) rfl), hX.2 _ (by decide) _ (by decide) (by decide)⟩) (by decide) (by decide) (hts _ (List.mem_of_getElem? (i := 2) rfl)) (va_Nw.use rfl (hX.1.2.2.1 "java/lang/IllegalStateException" (by decide))) hce hcv hcl ?_
      refine lv_astore (lv' := [(7, .ref q9), (0, .ref (ad 0 0)), (1, .int x1), (2, .int x2), (3, .int x3), (4, .int x4), (5, .int x5), (6, .ref (oa 0))]) hx hb dL_step_23 hl (by decide) rfl (fun ls hl => ?_)
      refine lv_iconst (v := 2) hx hb dL_step_25 (by decide) ?_
      exact g_iret (GG := GH cy ad oa) (u := (u, o)) K hw (Or.inr ⟨3, u, ho, rfl, rfl⟩) dL_step_26
  · have hp := hp
    refine lv_i2l hx hb dL_step_14 rfl ?_
    refine g_last (G := GH cy ad oa (u, o)) K hw 23 1 rfl (by decide) rfl rfl (i := 0) (by decide) dL_step_15 (eO cy ad oa u o _ _) (fun H locs hw => ?_)
    refine lv_goto (tgt := 27) hx hb dL_step_16 (by decide) ?_
    refine lv_iconst (v := 0) hx hb dL_step_27 (by decide) ?_
    exact g_iret (GG := GH cy ad oa) (u := (u, vp_updL o 0 r.toInt64)) K hw (Or.inl ⟨r, u, hp, rfl, rfl⟩) dL_step_28
abbrev rm_L_change : Room := { frames := 8, cells := 2, slots := 12, locals := 204 }
set_option maxRecDepth 100000 in
set_option maxHeartbeats 4000000 in
theorem h_change (l : Launch) (hl9 : l.stackTraces = false) (D : va_G) (cy : Nat → ClassId) (ad : Nat → Nat → Nat) (oa : Nat → Nat) (sz n : Nat) (C : CSt) (o : Nat → Int64) (x1 : Int32) {out : (Int32 × CSt) ⊕ (Nat × CSt)} (hm : m_X7_change n C x1 = some out) (hk : ∀ k C2, out = .inr (k, C2) → k = 1 ∨ k = 3) : Met l yL_change wsL_change rm_L_change (va_Pc [.ref (ad 0 0), .int x1, .ref (oa 0)] (Pre D (tysC cy) (GH cy ad oa (C, o)) EL sz)) (va_Qi (fun (r : Int32) (u : CSt × (Nat → Int64)) => (∃ (v : Int32) (C2 : CSt), out = .inl (v, C2) ∧ r = 0 ∧ u = (C2, vp_updL o 0 (v.toInt64))) ∨ ∃ (k : Nat) (C2 : CSt), out = .inr (k, C2) ∧ r = cm_change k ∧ u = (C2, o)) (fun u => Pst D (tysC cy) (AA (adrs (GH cy ad oa (C, o))) sz) (GH cy ad oa u)) (AA (adrs (GH cy ad oa (C, o))) sz)) 2 12 (AA (adrs (GH cy ad oa (C, o))) sz) := by
  refine g_metW (by decide) rfl (Nat.le_of_ble_eq_true rfl) ?_
  intro p e s m args below meth c K htab hw ls hl
  replace hl : lv_has ls 4 [(0, .ref (ad 0 0)), (1, .int x1), (2, .ref (oa 0))] := hl
  have K : Cx p s m args meth c D (AA (adrs (GH cy ad oa (C, o))) sz) (tysC cy) RL cL_change 4 (some .int) wsL_change EL := K
  generalize AA (adrs (GH cy ad oa (C, o))) sz = A at K hw ⊢
  obtain ⟨hx, hb, hml, hown, hts, hr, hlo, hK, hA, hX⟩ := id K
  have hw : Wd D A s.heap ([] ++ (GC cy ad C ++ og cy oa o)) s.heap [] := hw
  refine lv_aload_n hx hb dL_change_0 rfl (lv_at hl 2 rfl) ?_
  refine lv_iconst (v := 0) hx hb dL_change_1 (by decide) ?_
  refine lv_aload_n hx hb dL_change_2 rfl (lv_at hl 0 rfl) ?_
  refine lv_iload_n hx hb dL_change_3 rfl (lv_at hl 1 rfl) ?_
  refine f_xcalli (GG := GC cy ad) K hw (vx_runV (As := [.int x1]) (rest := [.int 0, .ref (oa 0)]) (g_fix K) (c_X7_change l hl9 D cy ad s.heap.size n C x1 hm) (cwV 1 (g_hts K) gL_change_X7_change rfl rfl rfl (by decide +kernel) ⟨Nat.le_of_ble_eq_true rfl, Nat.le_of_ble_eq_true rfl⟩) ⟨g_blind rides_EV, g_recv K (Wd_mid hw) 0 rfl (by decide : 0 < 1) rfl rfl, g_pre K (Wd_mid hw) (g_ride rides_EV (Cx_mid K hX.1) (Wd_mid hw))⟩ rfl rfl hl.1 rfl (lv_room (Nat.le_of_ble_eq_true rfl)) dL_change_4 ⟨Nat.le_of_ble_eq_true rfl, Nat.le_of_ble_eq_true rfl⟩) (fun k u H locs q9 ce ho hw hce hcv hcl => ?_) (fun r u H locs hp hw => ?_)
  · have hkk := hk k u ho
    rcases hkk with rfl | rfl
    · refine cf_catch (own := RL) (name := "java/lang/IllegalArgumentException") (E := "java/lang/IllegalArgumentException") hown [] ⟨0, 9, 12, 19⟩ [⟨0, 9, 15, 13⟩] htab (fun z hz => by cases hz) (by decide) (by decide) (hts _ (List.mem_of_getElem? (i := 1) rfl)) (va_Nw.use rfl (hX.1.2.2.1 "java/lang/IllegalArgumentException" (by decide))) hce hcv hcl ?_
      refine lv_astore_n (lv' := [(3, .ref q9), (0, .ref (ad 0 0)), (1, .int x1), (2, .ref (oa 0))]) hx hb dL_change_12 rfl hl (by decide) rfl (fun ls hl => ?_)
      refine lv_iconst (v := 1) hx hb dL_change_13 (by decide) ?_
      exact g_iret (GG := GH cy ad oa) (u := (u, o)) K hw (Or.inr ⟨1, u, ho, rfl, rfl⟩) dL_change_14
    · refine cf_catch (own := RL) (name := "java/lang/IllegalStateException") (E := "java/lang/IllegalStateException") hown [⟨0, 9, 12, 19⟩] ⟨0, 9, 15, 13⟩ [] htab (fun z hz => by
        simp only [List.mem_cons, List.not_mem_nil, or_false] at hz
        rcases hz with rfl
        · exact Or.inr ⟨by decide, "java/lang/IllegalArgumentException", hts _ (List.mem_of_getElem? (i := 1) rfl), hX.2 _ (by decide) _ (by decide) (by decide)⟩) (by decide) (by decide) (hts _ (List.mem_of_getElem? (i := 2) rfl)) (va_Nw.use rfl (hX.1.2.2.1 "java/lang/IllegalStateException" (by decide))) hce hcv hcl ?_
      refine lv_astore_n (lv' := [(3, .ref q9), (0, .ref (ad 0 0)), (1, .int x1), (2, .ref (oa 0))]) hx hb dL_change_15 rfl hl (by decide) rfl (fun ls hl => ?_)
      refine lv_iconst (v := 2) hx hb dL_change_16 (by decide) ?_
      exact g_iret (GG := GH cy ad oa) (u := (u, o)) K hw (Or.inr ⟨3, u, ho, rfl, rfl⟩) dL_change_17
  · have hp := hp
    refine lv_i2l hx hb dL_change_7 rfl ?_
    refine g_last (G := GH cy ad oa (u, o)) K hw 23 1 rfl (by decide) rfl rfl (i := 0) (by decide) dL_change_8 (eO cy ad oa u o _ _) (fun H locs hw => ?_)
    refine lv_goto (tgt := 18) hx hb dL_change_9 (by decide) ?_
    refine lv_iconst (v := 0) hx hb dL_change_18 (by decide) ?_
    exact g_iret (GG := GH cy ad oa) (u := (u, vp_updL o 0 r.toInt64)) K hw (Or.inl ⟨r, u, hp, rfl, rfl⟩) dL_change_19
abbrev rm_L_takeBack : Room := { frames := 8, cells := 2, slots := 12, locals := 146 }
set_option maxRecDepth 100000 in
set_option maxHeartbeats 4000000 in
theorem h_takeBack (l : Launch) (hl9 : l.stackTraces = false) (D : va_G) (cy : Nat → ClassId) (ad : Nat → Nat → Nat) (oa : Nat → Nat) (sz n : Nat) (C : CSt) (o : Nat → Int64) (x1 : Int32) {out : (Int32 × CSt) ⊕ (Nat × CSt)} (hm : m_X7_takeBack n C x1 = some out) (hk : ∀ k C2, out = .inr (k, C2) → k = 1 ∨ k = 3) : Met l yL_takeBack wsL_takeBack rm_L_takeBack (va_Pc [.ref (ad 0 0), .int x1, .ref (oa 0)] (Pre D (tysC cy) (GH cy ad oa (C, o)) EL sz)) (va_Qi (fun (r : Int32) (u : CSt × (Nat → Int64)) => (∃ (v : Int32) (C2 : CSt), out = .inl (v, C2) ∧ r = 0 ∧ u = (C2, vp_updL o 0 (v.toInt64))) ∨ ∃ (k : Nat) (C2 : CSt), out = .inr (k, C2) ∧ r = cm_takeBack k ∧ u = (C2, o)) (fun u => Pst D (tysC cy) (AA (adrs (GH cy ad oa (C, o))) sz) (GH cy ad oa u)) (AA (adrs (GH cy ad oa (C, o))) sz)) 2 12 (AA (adrs (GH cy ad oa (C, o))) sz) := by
  refine g_metW (by decide) rfl (Nat.le_of_ble_eq_true rfl) ?_
  intro p e s m args below meth c K htab hw ls hl
  replace hl : lv_has ls 4 [(0, .ref (ad 0 0)), (1, .int x1), (2, .ref (oa 0))] := hl
  have K : Cx p s m args meth c D (AA (adrs (GH cy ad oa (C, o))) sz) (tysC cy) RL cL_takeBack 4 (some .int) wsL_takeBack EL := K
  generalize AA (adrs (GH cy ad oa (C, o))) sz = A at K hw ⊢
  obtain ⟨hx, hb, hml, hown, hts, hr, hlo, hK, hA, hX⟩ := id K
  have hw : Wd D A s.heap ([] ++ (GC cy ad C ++ og cy oa o)) s.heap [] := hw
  refine lv_aload_n hx hb dL_takeBack_0 rfl (lv_at hl 2 rfl) ?_
  refine lv_iconst (v := 0) hx hb dL_takeBack_1 (by decide) ?_
  refine lv_aload_n hx hb dL_takeBack_2 rfl (lv_at hl 0 rfl) ?_
  refine lv_iload_n hx hb dL_takeBack_3 rfl (lv_at hl 1 rfl) ?_
  refine f_xcalli (GG := GC cy ad) K hw (vx_runV (As := [.int x1]) (rest := [.int 0, .ref (oa 0)]) (g_fix K) (c_X7_takeBack l hl9 D cy ad s.heap.size n C x1 hm) (cwV 1 (g_hts K) gL_takeBack_X7_takeBack rfl rfl rfl (by decide +kernel) ⟨Nat.le_of_ble_eq_true rfl, Nat.le_of_ble_eq_true rfl⟩) ⟨g_blind rides_EV, g_recv K (Wd_mid hw) 0 rfl (by decide : 0 < 1) rfl rfl, g_pre K (Wd_mid hw) (g_ride rides_EV (Cx_mid K hX.1) (Wd_mid hw))⟩ rfl rfl hl.1 rfl (lv_room (Nat.le_of_ble_eq_true rfl)) dL_takeBack_4 ⟨Nat.le_of_ble_eq_true rfl, Nat.le_of_ble_eq_true rfl⟩) (fun k u H locs q9 ce ho hw hce hcv hcl => ?_) (fun r u H locs hp hw => ?_)
  · have hkk := hk k u ho
    rcases hkk with rfl | rfl
    · refine cf_catch (own := RL) (name := "java/lang/IllegalArgumentException") (E := "java/lang/IllegalArgumentException") hown [] ⟨0, 9, 12, 19⟩ [⟨0, 9, 15, 13⟩] htab (fun z hz => by cases hz) (by decide) (by decide) (hts _ (List.mem_of_getElem? (i := 1) rfl)) (va_Nw.use rfl (hX.1.2.2.1 "java/lang/IllegalArgumentException" (by decide))) hce hcv hcl ?_
      refine lv_astore_n (lv' := [(3, .ref q9), (0, .ref (ad 0 0)), (1, .int x1), (2, .ref (oa 0))]) hx hb dL_takeBack_12 rfl hl (by decide) rfl (fun ls hl => ?_)
      refine lv_iconst (v := 1) hx hb dL_takeBack_13 (by decide) ?_
      exact g_iret (GG := GH cy ad oa) (u := (u, o)) K hw (Or.inr ⟨1, u, ho, rfl, rfl⟩) dL_takeBack_14
    · refine cf_catch (own := RL) (name := "java/lang/IllegalStateException") (E := "java/lang/IllegalStateException") hown [⟨0, 9, 12, 19⟩] ⟨0, 9, 15, 13⟩ [] htab (fun z hz => by
        simp only [List.mem_cons, List.not_mem_nil, or_false] at hz
        rcases hz with rfl
        · exact Or.inr ⟨by decide, "java/lang/IllegalArgumentException", hts _ (List.mem_of_getElem? (i := 1) rfl), hX.2 _ (by decide) _ (by decide) (by decide)⟩) (by decide) (by decide) (hts _ (List.mem_of_getElem? (i := 2) rfl)) (va_Nw.use rfl (hX.1.2.2.1 "java/lang/IllegalStateException" (by decide))) hce hcv hcl ?_
      refine lv_astore_n (lv' := [(3, .ref q9), (0, .ref (ad 0 0)), (1, .int x1), (2, .ref (oa 0))]) hx hb dL_takeBack_15 rfl hl (by decide) rfl (fun ls hl => ?_)
      refine lv_iconst (v := 2) hx hb dL_takeBack_16 (by decide) ?_
      exact g_iret (GG := GH cy ad oa) (u := (u, o)) K hw (Or.inr ⟨3, u, ho, rfl, rfl⟩) dL_takeBack_17
  · have hp := hp
    refine lv_i2l hx hb dL_takeBack_7 rfl ?_
    refine g_last (G := GH cy ad oa (u, o)) K hw 23 1 rfl (by decide) rfl rfl (i := 0) (by decide) dL_takeBack_8 (eO cy ad oa u o _ _) (fun H locs hw => ?_)
    refine lv_goto (tgt := 18) hx hb dL_takeBack_9 (by decide) ?_
    refine lv_iconst (v := 0) hx hb dL_takeBack_18 (by decide) ?_
    exact g_iret (GG := GH cy ad oa) (u := (u, vp_updL o 0 r.toInt64)) K hw (Or.inl ⟨r, u, hp, rfl, rfl⟩) dL_takeBack_19
abbrev rm_L_versionOf : Room := { frames := 8, cells := 2, slots := 12, locals := 143 }
set_option maxRecDepth 100000 in
set_option maxHeartbeats 4000000 in
theorem h_versionOf (l : Launch) (hl9 : l.stackTraces = false) (D : va_G) (cy : Nat → ClassId) (ad : Nat → Nat → Nat) (oa : Nat → Nat) (sz n : Nat) (C : CSt) (o : Nat → Int64) (x1 : Int32) {out : (Int32) ⊕ (Nat × CSt)} (hm : m_X7_versionOf n C x1 = some out) (hk : ∀ k C2, out = .inr (k, C2) → k = 1 ∨ k = 2) : Met l yL_versionOf wsL_versionOf rm_L_versionOf (va_Pc [.ref (ad 0 0), .int x1, .ref (oa 0)] (Pre D (tysC cy) (GH cy ad oa (C, o)) EL sz)) (va_Qi (fun (r : Int32) (u : CSt × (Nat → Int64)) => (∃ v : Int32, out = .inl v ∧ r = 0 ∧ u = (C, vp_updL o 0 (v.toInt64))) ∨ ∃ (k : Nat) (C2 : CSt), out = .inr (k, C2) ∧ r = cm_versionOf k ∧ u = (C2, o)) (fun u => Pst D (tysC cy) (AA (adrs (GH cy ad oa (C, o))) sz) (GH cy ad oa u)) (AA (adrs (GH cy ad oa (C, o))) sz)) 2 12 (AA (adrs (GH cy ad oa (C, o))) sz) := by
  refine g_metW (by decide) rfl (Nat.le_of_ble_eq_true rfl) ?_
  intro p e s m args below meth c K htab hw ls hl
  replace hl : lv_has ls 4 [(0, .ref (ad 0 0)), (1, .int x1), (2, .ref (oa 0))] := hl
  have K : Cx p s m args meth c D (AA (adrs (GH cy ad oa (C, o))) sz) (tysC cy) RL cL_versionOf 4 (some .int) wsL_versionOf EL := K
  generalize AA (adrs (GH cy ad oa (C, o))) sz = A at K hw ⊢
  obtain ⟨hx, hb, hml, hown, hts, hr, hlo, hK, hA, hX⟩ := id K
  have hw : Wd D A s.heap ([] ++ (GC cy ad C ++ og cy oa o)) s.heap [] := hw
  refine lv_aload_n hx hb dL_versionOf_0 rfl (lv_at hl 2 rfl) ?_
  refine lv_iconst (v := 0) hx hb dL_versionOf_1 (by decide) ?_
  refine lv_aload_n hx hb dL_versionOf_2 rfl (lv_at hl 0 rfl) ?_
  refine lv_iload_n hx hb dL_versionOf_3 rfl (lv_at hl 1 rfl) ?_
  refine f_xcalli (GG := GC cy ad) K hw (vx_runV (As := [.int x1]) (rest := [.int 0, .ref (oa 0)]) (g_fix K) (c_X7_versionOf l hl9 D cy ad s.heap.size n C x1 hm) (cwV 1 (g_hts K) gL_versionOf_X7_versionOf rfl rfl rfl (by decide +kernel) ⟨Nat.le_of_ble_eq_true rfl, Nat.le_of_ble_eq_true rfl⟩) ⟨g_blind rides_EV, g_recv K (Wd_mid hw) 0 rfl (by decide : 0 < 1) rfl rfl, g_pre K (Wd_mid hw) (g_ride rides_EV (Cx_mid K hX.1) (Wd_mid hw))⟩ rfl rfl hl.1 rfl (lv_room (Nat.le_of_ble_eq_true rfl)) dL_versionOf_4 ⟨Nat.le_of_ble_eq_true rfl, Nat.le_of_ble_eq_true rfl⟩) (fun k u H locs q9 ce ho hw hce hcv hcl => ?_) (fun r u H locs hp hw => ?_)
  · have hkk := hk k u ho
    rcases hkk with rfl | rfl
    · refine cf_catch (own := RL) (name := "java/lang/IllegalArgumentException") (E := "java/lang/IllegalArgumentException") hown [] ⟨0, 9, 12, 19⟩ [⟨0, 9, 15, 25⟩] htab (fun z hz => by cases hz) (by decide) (by decide) (hts _ (List.mem_of_getElem? (i := 1) rfl)) (va_Nw.use rfl (hX.1.2.2.1 "java/lang/IllegalArgumentException" (by decide))) hce hcv hcl ?_
      refine lv_astore_n (lv' := [(3, .ref q9), (0, .ref (ad 0 0)), (1, .int x1), (2, .ref (oa 0))]) hx hb dL_versionOf_12 rfl hl (by decide) rfl (fun ls hl => ?_)
      refine lv_iconst (v := 1) hx hb dL_versionOf_13 (by decide) ?_
      exact g_iret (GG := GH cy ad oa) (u := (u, o)) K hw (Or.inr ⟨1, u, ho, rfl, rfl⟩) dL_versionOf_14
    · refine cf_catch (own := RL) (name := "java/util/NoSuchElementException") (E := "java/util/NoSuchElementException") hown [⟨0, 9, 12, 19⟩] ⟨0, 9, 15, 25⟩ [] htab (fun z hz => by
        simp only [List.mem_cons, List.not_mem_nil, or_false] at hz
        rcases hz with rfl
        · exact Or.inr ⟨by decide, "java/lang/IllegalArgumentException", hts _ (List.mem_of_getElem? (i := 1) rfl), hX.2 _ (by decide) _ (by decide) (by decide)⟩) (by decide) (by decide) (hts _ (List.mem_of_getElem? (i := 2) rfl)) (va_Nw.use rfl (hX.1.2.2.1 "java/util/NoSuchElementException" (by decide))) hce hcv hcl ?_
      refine lv_astore_n (lv' := [(3, .ref q9), (0, .ref (ad 0 0)), (1, .int x1), (2, .ref (oa 0))]) hx hb dL_versionOf_15 rfl hl (by decide) rfl (fun ls hl => ?_)
      refine lv_iconst (v := 2) hx hb dL_versionOf_16 (by decide) ?_
      exact g_iret (GG := GH cy ad oa) (u := (u, o)) K hw (Or.inr ⟨2, u, ho, rfl, rfl⟩) dL_versionOf_17
  · have hp := hp
    obtain ⟨hp, hu⟩ := hp
    rw [hu] at hw
    refine lv_i2l hx hb dL_versionOf_7 rfl ?_
    refine g_last (G := GH cy ad oa (C, o)) K hw 23 1 rfl (by decide) rfl rfl (i := 0) (by decide) dL_versionOf_8 (eO cy ad oa C o _ _) (fun H locs hw => ?_)
    refine lv_goto (tgt := 18) hx hb dL_versionOf_9 (by decide) ?_
    refine lv_iconst (v := 0) hx hb dL_versionOf_18 (by decide) ?_
    exact g_iret (GG := GH cy ad oa) (u := (C, vp_updL o 0 r.toInt64)) K hw (Or.inl ⟨r, hp, rfl, rfl⟩) dL_versionOf_19
abbrev rm_L_touch : Room := { frames := 8, cells := 2, slots := 12, locals := 143 }
set_option maxRecDepth 100000 in
set_option maxHeartbeats 4000000 in
theorem h_touch (l : Launch) (hl9 : l.stackTraces = false) (D : va_G) (cy : Nat → ClassId) (ad : Nat → Nat → Nat) (oa : Nat → Nat) (sz n : Nat) (C : CSt) (o : Nat → Int64) (x1 : Int32) {out : (Int32 × CSt) ⊕ (Nat × CSt)} (hm : m_X7_touch n C x1 = some out) (hk : ∀ k C2, out = .inr (k, C2) → k = 1 ∨ k = 2) : Met l yL_touch wsL_touch rm_L_touch (va_Pc [.ref (ad 0 0), .int x1, .ref (oa 0)] (Pre D (tysC cy) (GH cy ad oa (C, o)) EL sz)) (va_Qi (fun (r : Int32) (u : CSt × (Nat → Int64)) => (∃ (v : Int32) (C2 : CSt), out = .inl (v, C2) ∧ r = 0 ∧ u = (C2, vp_updL o 0 (v.toInt64))) ∨ ∃ (k : Nat) (C2 : CSt), out = .inr (k, C2) ∧ r = cm_touch k ∧ u = (C2, o)) (fun u => Pst D (tysC cy) (AA (adrs (GH cy ad oa (C, o))) sz) (GH cy ad oa u)) (AA (adrs (GH cy ad oa (C, o))) sz)) 2 12 (AA (adrs (GH cy ad oa (C, o))) sz) := by
  refine g_metW (by decide) rfl (Nat.le_of_ble_eq_true rfl) ?_
  intro p e s m args below meth c K htab hw ls hl
  replace hl : lv_has ls 4 [(0, .ref (ad 0 0)), (1, .int x1), (2, .ref (oa 0))] := hl
  have K : Cx p s m args meth c D (AA (adrs (GH cy ad oa (C, o))) sz) (tysC cy) RL cL_touch 4 (some .int) wsL_touch EL := K
  generalize AA (adrs (GH cy ad oa (C, o))) sz = A at K hw ⊢
  obtain ⟨hx, hb, hml, hown, hts, hr, hlo, hK, hA, hX⟩ := id K
  have hw : Wd D A s.heap ([] ++ (GC cy ad C ++ og cy oa o)) s.heap [] := hw
  refine lv_aload_n hx hb dL_touch_0 rfl (lv_at hl 2 rfl) ?_
  refine lv_iconst (v := 0) hx hb dL_touch_1 (by decide) ?_
  refine lv_aload_n hx hb dL_touch_2 rfl (lv_at hl 0 rfl) ?_
  refine lv_iload_n hx hb dL_touch_3 rfl (lv_at hl 1 rfl) ?_
  refine f_xcalli (GG := GC cy ad) K hw (vx_runV (As := [.int x1]) (rest := [.int 0, .ref (oa 0)]) (g_fix K) (c_X7_touch l hl9 D cy ad s.heap.size n C x1 hm) (cwV 1 (g_hts K) gL_touch_X7_touch rfl rfl rfl (by decide +kernel) ⟨Nat.le_of_ble_eq_true rfl, Nat.le_of_ble_eq_true rfl⟩) ⟨g_blind rides_EV, g_recv K (Wd_mid hw) 0 rfl (by decide : 0 < 1) rfl rfl, g_pre K (Wd_mid hw) (g_ride rides_EV (Cx_mid K hX.1) (Wd_mid hw))⟩ rfl rfl hl.1 rfl (lv_room (Nat.le_of_ble_eq_true rfl)) dL_touch_4 ⟨Nat.le_of_ble_eq_true rfl, Nat.le_of_ble_eq_true rfl⟩) (fun k u H locs q9 ce ho hw hce hcv hcl => ?_) (fun r u H locs hp hw => ?_)
  · have hkk := hk k u ho
    rcases hkk with rfl | rfl
    · refine cf_catch (own := RL) (name := "java/lang/IllegalArgumentException") (E := "java/lang/IllegalArgumentException") hown [] ⟨0, 9, 12, 19⟩ [⟨0, 9, 15, 25⟩] htab (fun z hz => by cases hz) (by decide) (by decide) (hts _ (List.mem_of_getElem? (i := 1) rfl)) (va_Nw.use rfl (hX.1.2.2.1 "java/lang/IllegalArgumentException" (by decide))) hce hcv hcl ?_
      refine lv_astore_n (lv' := [(3, .ref q9), (0, .ref (ad 0 0)), (1, .int x1), (2, .ref (oa 0))]) hx hb dL_touch_12 rfl hl (by decide) rfl (fun ls hl => ?_)
      refine lv_iconst (v := 1) hx hb dL_touch_13 (by decide) ?_
      exact g_iret (GG := GH cy ad oa) (u := (u, o)) K hw (Or.inr ⟨1, u, ho, rfl, rfl⟩) dL_touch_14
    · refine cf_catch (own := RL) (name := "java/util/NoSuchElementException") (E := "java/util/NoSuchElementException") hown [⟨0, 9, 12, 19⟩] ⟨0, 9, 15, 25⟩ [] htab (fun z hz => by
        simp only [List.mem_cons, List.not_mem_nil, or_false] at hz
        rcases hz with rfl
        · exact Or.inr ⟨by decide, "java/lang/IllegalArgumentException", hts _ (List.mem_of_getElem? (i := 1) rfl), hX.2 _ (by decide) _ (by decide) (by decide)⟩) (by decide) (by decide) (hts _ (List.mem_of_getElem? (i := 2) rfl)) (va_Nw.use rfl (hX.1.2.2.1 "java/util/NoSuchElementException" (by decide))) hce hcv hcl ?_
      refine lv_astore_n (lv' := [(3, .ref q9), (0, .ref (ad 0 0)), (1, .int x1), (2, .ref (oa 0))]) hx hb dL_touch_15 rfl hl (by decide) rfl (fun ls hl => ?_)
      refine lv_iconst (v := 2) hx hb dL_touch_16 (by decide) ?_
      exact g_iret (GG := GH cy ad oa) (u := (u, o)) K hw (Or.inr ⟨2, u, ho, rfl, rfl⟩) dL_touch_17
  · have hp := hp
    refine lv_i2l hx hb dL_touch_7 rfl ?_
    refine g_last (G := GH cy ad oa (u, o)) K hw 23 1 rfl (by decide) rfl rfl (i := 0) (by decide) dL_touch_8 (eO cy ad oa u o _ _) (fun H locs hw => ?_)
    refine lv_goto (tgt := 18) hx hb dL_touch_9 (by decide) ?_
    refine lv_iconst (v := 0) hx hb dL_touch_18 (by decide) ?_
    exact g_iret (GG := GH cy ad oa) (u := (u, vp_updL o 0 r.toInt64)) K hw (Or.inl ⟨r, u, hp, rfl, rfl⟩) dL_touch_19
abbrev rm_L_sweep : Room := { frames := 8, cells := 1, slots := 6, locals := 145 }
set_option maxRecDepth 100000 in
set_option maxHeartbeats 4000000 in
theorem h_sweep (l : Launch) (hl9 : l.stackTraces = false) (D : va_G) (cy : Nat → ClassId) (ad : Nat → Nat → Nat) (oa : Nat → Nat) (sz n : Nat) (C : CSt) (o : Nat → Int64) (x1 : Int32) {out : (Int32 × CSt) ⊕ (Nat × CSt)} (hm : m_X7_sweep n C x1 = some out) (hk : ∀ k C2, out = .inr (k, C2) → k = 1) : Met l yL_sweep wsL_sweep rm_L_sweep (va_Pc [.ref (ad 0 0), .int x1, .ref (oa 0)] (Pre D (tysC cy) (GH cy ad oa (C, o)) EL sz)) (va_Qi (fun (r : Int32) (u : CSt × (Nat → Int64)) => (∃ (v : Int32) (C2 : CSt), out = .inl (v, C2) ∧ r = 0 ∧ u = (C2, vp_updL o 0 (v.toInt64))) ∨ ∃ (k : Nat) (C2 : CSt), out = .inr (k, C2) ∧ r = cm_sweep k ∧ u = (C2, o)) (fun u => Pst D (tysC cy) (AA (adrs (GH cy ad oa (C, o))) sz) (GH cy ad oa u)) (AA (adrs (GH cy ad oa (C, o))) sz)) 1 6 (AA (adrs (GH cy ad oa (C, o))) sz) := by
  refine g_metW (by decide) rfl (Nat.le_of_ble_eq_true rfl) ?_
  intro p e s m args below meth c K htab hw ls hl
  replace hl : lv_has ls 4 [(0, .ref (ad 0 0)), (1, .int x1), (2, .ref (oa 0))] := hl
  have K : Cx p s m args meth c D (AA (adrs (GH cy ad oa (C, o))) sz) (tysC cy) RL cL_sweep 4 (some .int) wsL_sweep EL := K
  generalize AA (adrs (GH cy ad oa (C, o))) sz = A at K hw ⊢
  obtain ⟨hx, hb, hml, hown, hts, hr, hlo, hK, hA, hX⟩ := id K
  have hw : Wd D A s.heap ([] ++ (GC cy ad C ++ og cy oa o)) s.heap [] := hw
  refine lv_aload_n hx hb dL_sweep_0 rfl (lv_at hl 2 rfl) ?_
  refine lv_iconst (v := 0) hx hb dL_sweep_1 (by decide) ?_
  refine lv_aload_n hx hb dL_sweep_2 rfl (lv_at hl 0 rfl) ?_
  refine lv_iload_n hx hb dL_sweep_3 rfl (lv_at hl 1 rfl) ?_
  refine f_xcalli (GG := GC cy ad) K hw (vx_runV (As := [.int x1]) (rest := [.int 0, .ref (oa 0)]) (g_fix K) (c_X7_sweep l hl9 D cy ad s.heap.size n C x1 hm) (cwV 1 (g_hts K) gL_sweep_X7_sweep rfl rfl rfl (by decide +kernel) ⟨Nat.le_of_ble_eq_true rfl, Nat.le_of_ble_eq_true rfl⟩) ⟨g_blind rides_EV, g_recv K (Wd_mid hw) 0 rfl (by decide : 0 < 1) rfl rfl, g_pre K (Wd_mid hw) (g_ride rides_EV (Cx_mid K hX.1) (Wd_mid hw))⟩ rfl rfl hl.1 rfl (lv_room (Nat.le_of_ble_eq_true rfl)) dL_sweep_4 ⟨Nat.le_of_ble_eq_true rfl, Nat.le_of_ble_eq_true rfl⟩) (fun k u H locs q9 ce ho hw hce hcv hcl => ?_) (fun r u H locs hp hw => ?_)
  · have hkk := hk k u ho
    rcases hkk with rfl
    · refine cf_catch (own := RL) (name := "java/lang/IllegalArgumentException") (E := "java/lang/IllegalArgumentException") hown [] ⟨0, 9, 12, 19⟩ [] htab (fun z hz => by cases hz) (by decide) (by decide) (hts _ (List.mem_of_getElem? (i := 1) rfl)) (va_Nw.use rfl (hX.1.2.2.1 "java/lang/IllegalArgumentException" (by decide))) hce hcv hcl ?_
      refine lv_astore_n (lv' := [(3, .ref q9), (0, .ref (ad 0 0)), (1, .int x1), (2, .ref (oa 0))]) hx hb dL_sweep_12 rfl hl (by decide) rfl (fun ls hl => ?_)
      refine lv_iconst (v := 1) hx hb dL_sweep_13 (by decide) ?_
      exact g_iret (GG := GH cy ad oa) (u := (u, o)) K hw (Or.inr ⟨1, u, ho, rfl, rfl⟩) dL_sweep_14
  · have hp := hp
    refine lv_i2l hx hb dL_sweep_7 rfl ?_
    refine g_last (G := GH cy ad oa (u, o)) K hw 23 1 rfl (by decide) rfl rfl (i := 0) (by decide) dL_sweep_8 (eO cy ad oa u o _ _) (fun H locs hw => ?_)
    refine lv_goto (tgt := 15) hx hb dL_sweep_9 (by decide) ?_
    refine lv_iconst (v := 0) hx hb dL_sweep_15 (by decide) ?_
    exact g_iret (GG := GH cy ad oa) (u := (u, vp_updL o 0 r.toInt64)) K hw (Or.inl ⟨r, u, hp, rfl, rfl⟩) dL_sweep_16
abbrev rm_L_about : Room := { frames := 8, cells := 2, slots := 12, locals := 143 }
set_option maxRecDepth 100000 in
set_option maxHeartbeats 4000000 in
theorem h_about (l : Launch) (hl9 : l.stackTraces = false) (D : va_G) (cy : Nat → ClassId) (ad : Nat → Nat → Nat) (oa : Nat → Nat) (sz n : Nat) (C : CSt) (o : Nat → Int64) (x1 : Int32) (x2 : Int32) {out : (Int32) ⊕ (Nat × CSt)} (hm : m_X7_about n C x1 x2 = some out) (hk : ∀ k C2, out = .inr (k, C2) → k = 1) : Met l yL_about wsL_about rm_L_about (va_Pc [.ref (ad 0 0), .int x1, .int x2, .ref (oa 0)] (Pre D (tysC cy) (GH cy ad oa (C, o)) EL sz)) (va_Qi (fun (r : Int32) (u : CSt × (Nat → Int64)) => (∃ v : Int32, out = .inl v ∧ r = 0 ∧ u = (C, vp_updL o 0 (v.toInt64))) ∨ ∃ (k : Nat) (C2 : CSt), out = .inr (k, C2) ∧ r = cm_about k ∧ u = (C2, o)) (fun u => Pst D (tysC cy) (AA (adrs (GH cy ad oa (C, o))) sz) (GH cy ad oa u)) (AA (adrs (GH cy ad oa (C, o))) sz)) 2 12 (AA (adrs (GH cy ad oa (C, o))) sz) := by
  refine g_metW (by decide) rfl (Nat.le_of_ble_eq_true rfl) ?_
  intro p e s m args below meth c K htab hw ls hl
  replace hl : lv_has ls 5 [(0, .ref (ad 0 0)), (1, .int x1), (2, .int x2), (3, .ref (oa 0))] := hl
  have K : Cx p s m args meth c D (AA (adrs (GH cy ad oa (C, o))) sz) (tysC cy) RL cL_about 5 (some .int) wsL_about EL := K
  generalize AA (adrs (GH cy ad oa (C, o))) sz = A at K hw ⊢
  obtain ⟨hx, hb, hml, hown, hts, hr, hlo, hK, hA, hX⟩ := id K
  have hw : Wd D A s.heap ([] ++ (GC cy ad C ++ og cy oa o)) s.heap [] := hw
  refine lv_aload_n hx hb dL_about_0 rfl (lv_at hl 3 rfl) ?_
  refine lv_iconst (v := 0) hx hb dL_about_1 (by decide) ?_
  refine lv_aload_n hx hb dL_about_2 rfl (lv_at hl 0 rfl) ?_
  refine lv_iload_n hx hb dL_about_3 rfl (lv_at hl 1 rfl) ?_
  refine lv_iload_n hx hb dL_about_4 rfl (lv_at hl 2 rfl) ?_
  refine f_xcalli (GG := GC cy ad) K hw (vx_runV (As := [.int x1, .int x2]) (rest := [.int 0, .ref (oa 0)]) (g_fix K) (c_X7_about l hl9 D cy ad s.heap.size n C x1 x2 hm) (cwV 2 (g_hts K) gL_about_X7_about rfl rfl rfl (by decide +kernel) ⟨Nat.le_of_ble_eq_true rfl, Nat.le_of_ble_eq_true rfl⟩) ⟨g_blind rides_EV, g_recv K (Wd_mid hw) 0 rfl (by decide : 0 < 1) rfl rfl, g_pre K (Wd_mid hw) (g_ride rides_EV (Cx_mid K hX.1) (Wd_mid hw))⟩ rfl rfl hl.1 rfl (lv_room (Nat.le_of_ble_eq_true rfl)) dL_about_5 ⟨Nat.le_of_ble_eq_true rfl, Nat.le_of_ble_eq_true rfl⟩) (fun k u H locs q9 ce ho hw hce hcv hcl => ?_) (fun r u H locs hp hw => ?_)
  · have hkk := hk k u ho
    rcases hkk with rfl
    · refine cf_catch (own := RL) (name := "java/lang/IllegalArgumentException") (E := "java/lang/IllegalArgumentException") hown [] ⟨0, 10, 13, 19⟩ [] htab (fun z hz => by cases hz) (by decide) (by decide) (hts _ (List.mem_of_getElem? (i := 1) rfl)) (va_Nw.use rfl (hX.1.2.2.1 "java/lang/IllegalArgumentException" (by decide))) hce hcv hcl ?_
      refine lv_astore (lv' := [(4, .ref q9), (0, .ref (ad 0 0)), (1, .int x1), (2, .int x2), (3, .ref (oa 0))]) hx hb dL_about_13 hl (by decide) rfl (fun ls hl => ?_)
      refine lv_iconst (v := 1) hx hb dL_about_15 (by decide) ?_
      exact g_iret (GG := GH cy ad oa) (u := (u, o)) K hw (Or.inr ⟨1, u, ho, rfl, rfl⟩) dL_about_16
  · have hp := hp
    obtain ⟨hp, hu⟩ := hp
    rw [hu] at hw
    refine lv_i2l hx hb dL_about_8 rfl ?_
    refine g_last (G := GH cy ad oa (C, o)) K hw 23 1 rfl (by decide) rfl rfl (i := 0) (by decide) dL_about_9 (eO cy ad oa C o _ _) (fun H locs hw => ?_)
    refine lv_goto (tgt := 17) hx hb dL_about_10 (by decide) ?_
    refine lv_iconst (v := 0) hx hb dL_about_17 (by decide) ?_
    exact g_iret (GG := GH cy ad oa) (u := (C, vp_updL o 0 r.toInt64)) K hw (Or.inl ⟨r, hp, rfl, rfl⟩) dL_about_18
abbrev rm_L_field : Room := { frames := 8, cells := 2, slots := 12, locals := 145 }
set_option maxRecDepth 100000 in
set_option maxHeartbeats 4000000 in
theorem h_field (l : Launch) (hl9 : l.stackTraces = false) (D : va_G) (cy : Nat → ClassId) (ad : Nat → Nat → Nat) (oa : Nat → Nat) (sz n : Nat) (C : CSt) (o : Nat → Int64) (x1 : Int32) (x2 : Int32) (x3 : Int32) {out : (Int32) ⊕ (Nat × CSt)} (hm : m_X7_field n C x1 x2 x3 = some out) (hk : ∀ k C2, out = .inr (k, C2) → k = 1 ∨ k = 4) : Met l yL_field wsL_field rm_L_field (va_Pc [.ref (ad 0 0), .int x1, .int x2, .int x3, .ref (oa 0)] (Pre D (tysC cy) (GH cy ad oa (C, o)) EL sz)) (va_Qi (fun (r : Int32) (u : CSt × (Nat → Int64)) => (∃ v : Int32, out = .inl v ∧ r = 0 ∧ u = (C, vp_updL o 0 (v.toInt64))) ∨ ∃ (k : Nat) (C2 : CSt), out = .inr (k, C2) ∧ r = cm_field k ∧ u = (C2, o)) (fun u => Pst D (tysC cy) (AA (adrs (GH cy ad oa (C, o))) sz) (GH cy ad oa u)) (AA (adrs (GH cy ad oa (C, o))) sz)) 2 12 (AA (adrs (GH cy ad oa (C, o))) sz) := by
  refine g_metW (by decide) rfl (Nat.le_of_ble_eq_true rfl) ?_
  intro p e s m args below meth c K htab hw ls hl
  replace hl : lv_has ls 6 [(0, .ref (ad 0 0)), (1, .int x1), (2, .int x2), (3, .int x3), (4, .ref (oa 0))] := hl
  have K : Cx p s m args meth c D (AA (adrs (GH cy ad oa (C, o))) sz) (tysC cy) RL cL_field 6 (some .int) wsL_field EL := K
  generalize AA (adrs (GH cy ad oa (C, o))) sz = A at K hw ⊢
  obtain ⟨hx, hb, hml, hown, hts, hr, hlo, hK, hA, hX⟩ := id K
  have hw : Wd D A s.heap ([] ++ (GC cy ad C ++ og cy oa o)) s.heap [] := hw
  refine lv_aload hx hb dL_field_0 (lv_at hl 4 rfl) ?_
  refine lv_iconst (v := 0) hx hb dL_field_2 (by decide) ?_
  refine lv_aload_n hx hb dL_field_3 rfl (lv_at hl 0 rfl) ?_
  refine lv_iload_n hx hb dL_field_4 rfl (lv_at hl 1 rfl) ?_
  refine lv_iload_n hx hb dL_field_5 rfl (lv_at hl 2 rfl) ?_
  refine lv_iload_n hx hb dL_field_6 rfl (lv_at hl 3 rfl) ?_
  refine f_xcalli (GG := GC cy ad) K hw (vx_runV (As := [.int x1, .int x2, .int x3]) (rest := [.int 0, .ref (oa 0)]) (g_fix K) (c_X7_field l hl9 D cy ad s.heap.size n C x1 x2 x3 hm) (cwV 3 (g_hts K) gL_field_X7_field rfl rfl rfl (by decide +kernel) ⟨Nat.le_of_ble_eq_true rfl, Nat.le_of_ble_eq_true rfl⟩) ⟨g_blind rides_EV, g_recv K (Wd_mid hw) 0 rfl (by decide : 0 < 1) rfl rfl, g_pre K (Wd_mid hw) (g_ride rides_EV (Cx_mid K hX.1) (Wd_mid hw))⟩ rfl rfl hl.1 rfl (lv_room (Nat.le_of_ble_eq_true rfl)) dL_field_7 ⟨Nat.le_of_ble_eq_true rfl, Nat.le_of_ble_eq_true rfl⟩) (fun k u H locs q9 ce ho hw hce hcv hcl => ?_) (fun r u H locs hp hw => ?_)
  · have hkk := hk k u ho
    rcases hkk with rfl | rfl
    · refine cf_catch (own := RL) (name := "java/lang/IllegalArgumentException") (E := "java/lang/IllegalArgumentException") hown [] ⟨0, 12, 15, 19⟩ [⟨0, 12, 19, 75⟩] htab (fun z hz => by cases hz) (by decide) (by decide) (hts _ (List.mem_of_getElem? (i := 1) rfl)) (va_Nw.use rfl (hX.1.2.2.1 "java/lang/IllegalArgumentException" (by decide))) hce hcv hcl ?_
      refine lv_astore (lv' := [(5, .ref q9), (0, .ref (ad 0 0)), (1, .int x1), (2, .int x2), (3, .int x3), (4, .ref (oa 0))]) hx hb dL_field_15 hl (by decide) rfl (fun ls hl => ?_)
      refine lv_iconst (v := 1) hx hb dL_field_17 (by decide) ?_
      exact g_iret (GG := GH cy ad oa) (u := (u, o)) K hw (Or.inr ⟨1, u, ho, rfl, rfl⟩) dL_field_18
    · refine cf_catch (own := RL) (name := "java/lang/IndexOutOfBoundsException") (E := "java/lang/IndexOutOfBoundsException") hown [⟨0, 12, 15, 19⟩] ⟨0, 12, 19, 75⟩ [] htab (fun z hz => by
        simp only [List.mem_cons, List.not_mem_nil, or_false] at hz
        rcases hz with rfl
        · exact Or.inr ⟨by decide, "java/lang/IllegalArgumentException", hts _ (List.mem_of_getElem? (i := 1) rfl), hX.2 _ (by decide) _ (by decide) (by decide)⟩) (by decide) (by decide) (hts _ (List.mem_of_getElem? (i := 2) rfl)) (va_Nw.use rfl (hX.1.2.2.1 "java/lang/IndexOutOfBoundsException" (by decide))) hce hcv hcl ?_
      refine lv_astore (lv' := [(5, .ref q9), (0, .ref (ad 0 0)), (1, .int x1), (2, .int x2), (3, .int x3), (4, .ref (oa 0))]) hx hb dL_field_19 hl (by decide) rfl (fun ls hl => ?_)
      refine lv_iconst (v := 2) hx hb dL_field_21 (by decide) ?_
      exact g_iret (GG := GH cy ad oa) (u := (u, o)) K hw (Or.inr ⟨4, u, ho, rfl, rfl⟩) dL_field_22
  · have hp := hp
    obtain ⟨hp, hu⟩ := hp
    rw [hu] at hw
    refine lv_i2l hx hb dL_field_10 rfl ?_
    refine g_last (G := GH cy ad oa (C, o)) K hw 23 1 rfl (by decide) rfl rfl (i := 0) (by decide) dL_field_11 (eO cy ad oa C o _ _) (fun H locs hw => ?_)
    refine lv_goto (tgt := 23) hx hb dL_field_12 (by decide) ?_
    refine lv_iconst (v := 0) hx hb dL_field_23 (by decide) ?_
    exact g_iret (GG := GH cy ad oa) (u := (C, vp_updL o 0 r.toInt64)) K hw (Or.inl ⟨r, hp, rfl, rfl⟩) dL_field_24
end Help
