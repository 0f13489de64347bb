section HR
/-- the contract of a method that has a table of its own and throws nothing -/
def SpH (d : Nat) (y : MethodName) (cc : ByteArray) (nL : Nat) (ret : Option FieldType) (hh : List (Nat × Nat × Nat × Nat)) (vs : List Value) (w : mW) (mc ms : Nat) (P : Option Value → mW → Prop) : Prop :=
  ∀ (l : Launch) (_ : l.stackTraces = false) (D : va_G) (dt : Nat → ClassId) (ad : Nat → Nat) (ws : va_W) (sz : Nat), mPic dt ad w ws →
    vx_Met l y (Cond.codeWith y cc nL ret hh :: mGood) ({ frames := 20 + d, cells := mc, slots := ms, locals := 400 + 60 * d }) (va_Pc (vs.map (trV ad)) (mB D dt ad ws sz)) (mQc D dt ad (va_A ws sz) w.length P) (mXc D dt ad (va_A ws sz) w.length noX) mc ms (va_A ws sz)
def mTab (X : mC) (hh : List (Nat × Nat × Nat × Nat)) : Prop := match X with
  | (_, _, _, _, _, _, _, _, _, c, _, _, _, _, _, _) => c.exceptionTable.toList = tableOf hh
theorem SpH.of {d : Nat} {y : MethodName} {cc : ByteArray} {nL : Nat} {ret : Option FieldType} {hh : List (Nat × Nat × Nat × Nat)} {vs : List Value} {w : mW} {mc ms : Nat} {P : Option Value → mW → Prop} (hy : plainName y.cls = true) (hlen : (vs.map fun v => v.category).sum ≤ nL)
    (body : ∀ X : mC, Cx X y.cls cc d mc ms → mNL X = nL → mEnd X w.length mc ms P noX → mRet X ret → mTab X hh → Wp X 0 0 w (lv_args 0 vs) [] 0) : SpH d y cc nL ret hh vs w mc ms P := by
  intro l hl9 D dt ad ws sz hp
  refine vx_ofWH (cc := cc) (maxL := nL) (ret := ret) (hh := hh) hy rfl ?_
  intro p e s m args below meth c s₁ B hml hv
  obtain ⟨rfl, hsz, hP, hK, hD0, hG⟩ := hv
  have hts := atoms_spec (ws := Cond.codeWith y cc nL ret hh :: mGood) B.pre
  subst hsz
  have hlen' : (lg_sl (vs.map (trV ad))).length ≤ nL := by
    rw [lg_len]
    exact hlen
  have hl := lv_entry (vs.map (trV ad)) (n := nL) hlen'
  rw [lg_entry_eq]
  rw [trL_args] at hl
  have key := body (p, l, e, { frames := 20 + d, cells := mc, slots := ms, locals := 400 + 60 * d }, s, m, (vs.map (trV ad)).toArray, below, meth, c, _, D, dt, ad, va_A ws s.heap.size, nL)
    ⟨B.exec, B.bytes, hml, findClass_of_methodNamed B.named, fun w h => hts w (List.mem_cons_of_mem _ h), B.notSynchronized, hl9, hK, fun q h => Or.inr h, hG, Nat.le_refl _, Nat.le_refl _, Nat.le_refl _, Nat.le_refl _⟩ rfl rfl B.returns (vx_table (x := y) B (hts _ List.mem_cons_self))
  exact key ws s.heap [] _ hp hP hD0.self va_S.rf hl
theorem mGood_codeH {y : MethodName} {bytes : ByteArray} {maxL : Nat} {ret : Option FieldType} {hh : List (Nat × Nat × Nat × Nat)} {args : Array Value} {s : State} (hts : ∀ w ∈ mGood, w.before args s = true) (h : Cond.codeWith y bytes maxL ret hh ∈ mGood) : ∀ w ∈ (Cond.codeWith y bytes maxL ret hh :: mGood), ∀ (a' : Array Value) (U : State), s.WarmedH U.vm → w.before a' U = true := pay_in hts (mGood_GoodIn (fun _ h => h) h)
variable {X : mC} {own : String} {cc : ByteArray} {d mc ms k n pc : Nat} {w : mW} {L L' : List (Nat × Value)} {st : List Value} {n0 : Nat} {P : Option Value → mW → Prop} {PX : String → mW → Prop} {hh : List (Nat × Nat × Nat × Nat)}
def mCallH (own : String) (cc : ByteArray) (pc : Nat) (y : MethodName) (bytes : ByteArray) (maxL : Nat) (ret : Option FieldType) (hh : List (Nat × Nat × Nat × Nat)) (na : Nat) : Prop := ∃ idx : Nat, Cond.methodLink own idx y ∈ mGood ∧ Cond.static y ∈ mGood ∧ Cond.initialized y.cls ∈ mGood ∧ Cond.codeWith y bytes maxL ret hh ∈ mGood ∧ (y.cls ≠ "java/lang/invoke/MethodHandle" ∧ y.cls ≠ "java/lang/invoke/VarHandle") ∧ (parseMethodDescriptor y.desc).map (fun d => d.parameters.length) = some na ∧ maxL ≤ 30 ∧ decode cc pc = .ok (.invokestatic idx, 3)
theorem r_callH (hC : Cx X own cc d mc ms) {d' mc' ms' maxL na : Nat} {y : MethodName} {bytes : ByteArray} {ret : Option FieldType} {vs : List Value} {P' : Option Value → mW → Prop}
    (hcv : mCallH own cc pc y bytes maxL ret hh na) (hSp : SpH d' y bytes maxL ret hh vs w mc' ms' P') (hna : vs.length = na) (hd' : d' + 1 ≤ d) (hk : k + mc' ≤ mc) (hn : n + ms' ≤ ms) (hcat : (st.map fun v => v.category).sum ≤ 8)
    (kk : ∀ (v : Option Value) (w' : mW), P' v w' → w'.length = w.length → Wp X (k + mc') (n + ms') w' L (v.toList ++ st) (pc + 3)) :
    Wp X k n w L (vs.reverse ++ st) pc := by
  obtain ⟨p, l, e, R, s, m, args, below, meth, c, Q, D, dt, ad, A, nL⟩ := X
  obtain ⟨hx, hb, hml, hown, hts, hlk, htr, hK, hA, hG, hfr, hlo, hcc, hss⟩ := hC
  intro ws H locs ls hp hP hD hS hl
  obtain ⟨idx, hli, hstt, hini, hcode, hmh, hpar, hmL, hd⟩ := hcv
  have hM := hSp l htr D dt ad ws H.size hp
  have hF : ∀ q, va_A ws H.size q → A q := fun q h => by
    rcases h with ⟨j, e9, h⟩ | h
    · exact hD.2 j (q, e9) h
    · exact hA q (Nat.le_trans hS.1 h)
  have hst : (vs.reverse ++ st).map (trV ad) = (vs.map (trV ad)).reverse ++ st.map (trV ad) := by
    rw [List.map_append, List.map_reverse]
  have hcat' : ((st.map (trV ad)).map fun v => v.category).sum ≤ 8 := by
    rw [List.map_map]
    have : ((fun v : Value => v.category) ∘ trV ad) = fun v => v.category := by funext v; exact trV_cat ad v
    rw [this]
    exact hcat
  refine r_run (P' := P') (PX' := noX) (a := (vs.map (trV ad)).toArray) ?_ hD hS hA hl kk (fun _ _ h => h.elim)
  refine vx_runSX (hh := hh) (As := vs.map (trV ad)) (rest := st.map (trV ad)) (n := na) (Ts := mGood) ⟨hx, hb, hml, hown, hts⟩ hM ⟨⟨rfl, rfl, by show 20 + d' + 1 ≤ R.frames; omega, by show 8 + (maxL + 11) + (400 + 60 * d') ≤ R.locals; omega, mGood_codeH hts hcode, List.mem_cons_self⟩, hts _ hcode, hts _ hini, hmh, fun sig h => ?_, hts _ hli, hts _ hstt⟩ ⟨mB_blind, fun U hU hW => ⟨rfl, by rw [hU], by rw [hU]; exact hP, va_K.moved hW.alike hK, hD.weaken (fun _ _ _ _ => trivial), Gl.call hG hS hU hW hF⟩⟩ rfl (by rw [List.length_map]; exact hna) hl.1 hst (lv_room hcat') hd ⟨by omega, by omega⟩
  rw [h] at hpar
  exact (Option.some.inj hpar).symm
/-- a throw is caught: the handler puts the thing away, its locals forgotten -/
theorem r_catch (hC : Cx X own cc d mc ms) (hT : mTab X hh) {E name : String} (pre : List ExceptionTableEntry) (x : ExceptionTableEntry) (suf : List ExceptionTableEntry) (hsplit : tableOf hh = pre ++ x :: suf)
    (hpass : ∀ z ∈ pre, covers z pc = false ∨ (z.catchType ≠ 0 ∧ ∃ nm : String, Cond.classLink own z.catchType nm ∈ mGood ∧ (E, nm) ∈ gCs)) (hx : covers x pc = true) (h0 : x.catchType ≠ 0) (hlink : Cond.classLink own x.catchType name ∈ mGood) (hcast : Cond.castable E name ∈ mNests)
    {z : Fin 4} {i : Nat} (hd : decode cc x.handlerPc = .ok (.astore_n z, 1)) (hi : (z : Nat) = i) (hn : i < mNL X) (kk : Wp X k n w [] [] (x.handlerPc + 1)) : Tp X k n w L st pc E := by
  obtain ⟨p, l, e, R, s, m, args, below, meth, c, Q, D, dt, ad, A, nL⟩ := X
  obtain ⟨hx9, hb, hml, hown, hts, hlk, htr, hK, hA, hG, hfr, hlo, hcc, hss⟩ := hC
  intro ws H locs ls q ce hp hP hD hS hl hq hv hcl
  refine vx_catch (name := name) hown pre x suf (hT.trans hsplit) (fun z hz => ?_) hx h0 (hts _ hlink) (mNest_use (List.mem_filter.mp hcast).2 (hG.2.2.2.2.2.2.1 _ hcast)) hq hv hcl ?_
  · rcases hpass z hz with h | ⟨h1, nm, h2, h3⟩
    · exact Or.inl h
    · exact Or.inr ⟨h1, nm, hts _ h2, hG.2.2.2.2.2.2.2.1 _ h3⟩
  · exact lv_astore_n hx9 hb hd hi hl hn rfl (fun ls' hl' => kk ws H locs ls' hp hP hD hS (lv_sub hl' [] rfl))
theorem r_catchA (hC : Cx X own cc d mc ms) (hT : mTab X hh) {E name : String} (pre : List ExceptionTableEntry) (x : ExceptionTableEntry) (suf : List ExceptionTableEntry) (hsplit : tableOf hh = pre ++ x :: suf)
    (hpass : ∀ z ∈ pre, covers z pc = false ∨ (z.catchType ≠ 0 ∧ ∃ nm : String, Cond.classLink own z.catchType nm ∈ mGood ∧ (E, nm) ∈ gCs)) (hx : covers x pc = true) (h0 : x.catchType ≠ 0) (hlink : Cond.classLink own x.catchType name ∈ mGood) (hcast : Cond.castable E name ∈ mNests)
    {i : Nat} (hd : decode cc x.handlerPc = .ok (.astore i, 2)) (hn : i < mNL X) (kk : Wp X k n w [] [] (x.handlerPc + 2)) : Tp X k n w L st pc E := by
  obtain ⟨p, l, e, R, s, m, args, below, meth, c, Q, D, dt, ad, A, nL⟩ := X
  obtain ⟨hx9, hb, hml, hown, hts, hlk, htr, hK, hA, hG, hfr, hlo, hcc, hss⟩ := hC
  intro ws H locs ls q ce hp hP hD hS hl hq hv hcl
  refine vx_catch (name := name) hown pre x suf (hT.trans hsplit) (fun z hz => ?_) hx h0 (hts _ hlink) (mNest_use (List.mem_filter.mp hcast).2 (hG.2.2.2.2.2.2.1 _ hcast)) hq hv hcl ?_
  · rcases hpass z hz with h | ⟨h1, nm, h2, h3⟩
    · exact Or.inl h
    · exact Or.inr ⟨h1, nm, hts _ h2, hG.2.2.2.2.2.2.2.1 _ h3⟩
  · exact lv_astore hx9 hb hd hl hn rfl (fun ls' hl' => kk ws H locs ls' hp hP hD hS (lv_sub hl' [] rfl))
end HR
