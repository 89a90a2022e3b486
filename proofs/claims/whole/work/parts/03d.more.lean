set_option maxRecDepth 20000 in
theorem eR_21 (cy : Nat → ClassId) (ad : Nat → Nat → Nat) (S : CSt) (i : Nat) (row : Nat → Int32) : GW ((GC cy ad S).set 16 (7, ad 16, va_up (fun i => .inl (cy 0, 12, .inl (S.1 21 i))) i (.inl (cy 0, 12, .inl row)))) = GW (GC cy ad (sR S 21 i row)) :=
  congrArg (fun z => GW ((GC cy ad S).set 16 (7, ad 16, z))) (up_fn (g := fun j => (Sum.inl (cy 0, 12, Sum.inl ((sR S 21 i row).1 21 j)) : va_E)) (by rw [sR_row]) (fun j hj => by rw [sR_ne S 21 i row hj]))
set_option maxRecDepth 20000 in
theorem eR_18 (cy : Nat → ClassId) (ad : Nat → Nat → Nat) (S : CSt) (i : Nat) (row : Nat → Int32) : GW ((GC cy ad S).set 13 (24, ad 13, va_up (fun i => .inl (cy 0, 6, .inl (S.1 18 i))) i (.inl (cy 0, 6, .inl row)))) = GW (GC cy ad (sR S 18 i row)) :=
  congrArg (fun z => GW ((GC cy ad S).set 13 (24, ad 13, z))) (up_fn (g := fun j => (Sum.inl (cy 0, 6, Sum.inl ((sR S 18 i row).1 18 j)) : va_E)) (by rw [sR_row]) (fun j hj => by rw [sR_ne S 18 i row hj]))
set_option maxRecDepth 20000 in
theorem eL_22 (cy : Nat → ClassId) (ad : Nat → Nat → Nat) (S : CSt) (k e : Nat) : GW ((GC cy ad S).set 22 (1, ad 22, va_up (fun _ => .inl (cy 3, 24, .inr (.inr (.inr (.inr (fun k => (S.2.2 k).map (ad 11))))))) 0 (.inl (cy 3, 24, .inr (.inr (.inr (.inr (va_up (fun k => (S.2.2 k).map (ad 11)) k (some (ad 11 e)))))))))) = GW (GC cy ad (sL S k (some e))) :=
  GW_one (GC cy ad S) 22 (ad 22) _ (fun _ => .inl (cy 3, 24, .inr (.inr (.inr (.inr (fun k_1 => ((sL S k (some e)).2.2 k_1).map (ad 11))))))) (by
    rw [va_up_self, up_fn (g := fun k_1 => ((sL S k (some e)).2.2 k_1).map (ad 11))]
    · show ((va_up S.2.2 k (some e)) k).map (ad 11) = _
      rw [va_up_self]; rfl
    · intro j hj
      show ((va_up S.2.2 k (some e)) j).map (ad 11) = _
      rw [va_up_ne _ _ hj])
section GMore
variable {p : Program} {l : Launch} {e : Env} {R : Room} {s : State} {m : MethodId} {args : Array Value} {below : List Frame} {meth : Method} {c : Code} {H : Heap} {locs : List Loc} {cells slots : Nat} {Q : State → Prop}
variable {cc : ByteArray} {pc nL : Nat} {ls : Array Slot} {rest : List Value} {D : va_G} {A : Nat → Prop} {tys : List (ClassId × FieldType)} {G : List Gp} {own : String} {ret : Option FieldType} {Ts : List Cond} {X : (Nat → Prop) → State → Prop}
theorem g_copy (K : Cx p s m args meth c D A tys own cc nL ret Ts X) (hw : Wd D A s.heap G H locs) {index : Nat} (hlink : Cond.methodLink own index arraycopyName ∈ Ts) (hnat : Cond.native arraycopyName ∈ Ts) (hstat : Cond.static arraycopyName ∈ Ts) (hini : Cond.initialized "java/lang/System" ∈ Ts) (hsz : ls.size = nL)
    (k0 k1 t0 : Nat) {i0 i1 n0 n1 len0 len1 : Nat} {ad0 ad1 : Nat → Nat} {ce0 ce1 : Nat → va_E} (hk0 : G[k0]? = some (n0, ad0, ce0)) (hi0 : i0 < n0) (hk1 : G[k1]? = some (n1, ad1, ce1)) (hi1 : i1 < n1) {cA : ClassId} {f g : Nat → Int32} (hce0 : ce0 i0 = .inl (cA, len0, .inl f)) (hce1 : ce1 i1 = .inl (cA, len1, .inl g)) (ht : tys[t0]? = some (cA, .int))
    {sp dp n : Int32} (h1 : ¬ sp < 0) (h2 : ¬ dp < 0) (h3 : ¬ n < 0) (h4 : sp.toNatClampNeg + n.toNatClampNeg ≤ len0) (h5 : dp.toNatClampNeg + n.toNatClampNeg ≤ len1) (hframes : 1 ≤ R.frames) (hlocals : (rest.map fun v => v.category).sum + (nativeFrameWords "java/lang/System" "arraycopy" 5 + 11) ≤ R.locals) (hdg : decode cc pc = .ok (.invokestatic index, 3))
    {G2 : List Gp} (hG2 : GW (G.set k1 (n1, ad1, va_up ce1 i1 (.inl (cA, len1, .inl (va_cpy f g sp.toNatClampNeg dp.toNatClampNeg n.toNatClampNeg))))) = GW G2)
    (kk : ∀ (H1 : Heap) (locs1 : List Loc), Wd D A s.heap G2 H1 locs1 → W p l e R s m args below meth c H1 locs1 cells slots Q (F0 m (pc + 3) ls rest)) : W p l e R s m args below meth c H locs cells slots Q (F0 m pc ls (.int n :: .int dp :: .ref (ad1 i1) :: .int sp :: .ref (ad0 i0) :: rest)) := by
  obtain ⟨hx, hb, hml, hown, hts, hr, hlo, hK, hA, hX⟩ := K
  obtain ⟨q0, e0, -⟩ := GW_at G k0 i0 _ hk0 hi0
  obtain ⟨q1, e1, e2⟩ := GW_at G k1 i1 _ hk1 hi1
  refine va_copyi hx hb (hml.trans hsz.symm) hown (hts _ hlink) (hts _ hnat) (hts _ hstat) (hts _ hini) hK hw.1 hw.2.1 hw.2.2 q0 q1 t0 t0 (e0.trans (by rw [show ((n0, ad0, ce0) : Gp).2.2 i0 = ce0 i0 from rfl, hce0])) (e1.trans (by rw [show ((n1, ad1, ce1) : Gp).2.2 i1 = ce1 i1 from rfl, hce1])) ht ht rfl h1 h2 h3 h4 h5 (fun _ _ => rfl) hframes hlocals hdg (fun H1 locs1 hP1 hD1 hS1 => kk H1 locs1 ?_)
  have h3 := e2 (.inl (cA, len1, .inl (va_cpy f g sp.toNatClampNeg dp.toNatClampNeg n.toNatClampNeg)))
  rw [hG2] at h3
  rw [show ((n1, ad1, ce1) : Gp).2.1 i1 = ad1 i1 from rfl] at h3
  rw [h3] at hP1 hD1
  exact ⟨hP1, hD1, hS1⟩
theorem g_aast (K : Cx p s m args meth c D A tys own cc nL ret Ts X) (hw : Wd D A s.heap G H locs) (k t0 ko : Nat) {i0 io n0 no n ci : Nat} {ad ado : Nat → Nat} {ce ceo : Nat → va_E} (hk : G[k]? = some (n0, ad, ce)) (hi0 : i0 < n0) (hko : G[ko]? = some (no, ado, ceo)) (hio : io < no) {cA : ClassId} {r : vw_C} {vs : List Value} {f : Nat → Option Nat} (hce : ce i0 = .inl (cA, n, .inr (.inr (.inr (.inr f))))) (ht : tys[t0]? = some (cA, .object r.1)) (hceo : ceo io = .inr (ci, vs)) (hc : vwCl[ci]? = some r) {i : Int32} (hi : inB i n = true) (hdg : decode cc pc = .ok (.aastore, 1))
    {G2 : List Gp} (hG2 : GW (G.set k (n0, ad, va_up ce i0 (.inl (cA, n, .inr (.inr (.inr (.inr (va_up f i.toNatClampNeg (some (ado io)))))))))) = GW G2)
    (kk : ∀ (H1 : Heap) (locs1 : List Loc), Wd D A s.heap G2 H1 locs1 → W p l e R s m args below meth c H1 locs1 cells slots Q (F0 m (pc + 1) ls rest)) : W p l e R s m args below meth c H locs cells slots Q (F0 m pc ls (.ref (ado io) :: .int i :: .ref (ad i0) :: rest)) := by
  obtain ⟨hx, hb, hml, hown, hts, hr, hlo, hK, hA, hX⟩ := K
  obtain ⟨q, h1, h2⟩ := GW_at G k i0 _ hk hi0
  obtain ⟨qo, h1o, -⟩ := GW_at G ko io _ hko hio
  refine va_astq hx hb hK hw.1 hw.2.1 hw.2.2 q t0 qo ci (h1.trans (by rw [show ((n0, ad, ce) : Gp).2.2 i0 = ce i0 from rfl, hce])) ht (h1o.trans (by rw [show ((no, ado, ceo) : Gp).2.2 io = ceo io from rfl, hceo])) hc (inB_in hi) hdg (fun H1 locs1 hP1 hD1 hS1 => kk H1 locs1 ?_)
  have h3 := h2 (.inl (cA, n, .inr (.inr (.inr (.inr (va_up f i.toNatClampNeg (some (ado io))))))))
  rw [hG2] at h3
  rw [show ((n0, ad, ce) : Gp).2.1 i0 = ad i0 from rfl] at h3
  rw [h3] at hP1 hD1
  exact ⟨hP1, hD1, hS1⟩
end GMore
