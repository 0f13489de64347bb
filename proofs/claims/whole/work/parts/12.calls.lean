section MT
/-- what a method's contract gives at its end: an answer and a world with P, or a throw with PX -/
def mQc (D : va_G) (dt : Nat → ClassId) (ad : Nat → Nat) (A : Nat → Prop) (n0 : Nat) (P : Option Value → mW → Prop) : Array Value → State → Outcome → State → Prop := fun _ st o t =>
  (∃ (v : Option Value) (w' : mW) (ws' : va_W), o = .returned (v.map (trV ad)) ∧ P v w' ∧ w'.length = n0 ∧ mPic dt ad w' ws' ∧ va_P D vwCl ws' t.heap ∧ va_D A ws') ∧ va_F A st t
def mXc (D : va_G) (dt : Nat → ClassId) (ad : Nat → Nat) (A : Nat → Prop) (n0 : Nat) (PX : String → mW → Prop) : String → State → State → Prop := fun E st t =>
  (∃ (w' : mW) (ws' : va_W), PX E w' ∧ w'.length = n0 ∧ mPic dt ad w' ws' ∧ va_P D vwCl ws' t.heap ∧ va_D A ws') ∧ va_F A st t
/-- what a method's start gives -/
def mB (D : va_G) (dt : Nat → ClassId) (ad : Nat → Nat) (ws : va_W) (sz : Nat) (U : State) : Prop := U.heap.size = sz ∧ va_P D vwCl ws U.heap ∧ va_K D vwCl (mTy dt) U ∧ va_D (fun _ => True) ws ∧ Gl ad (va_A ws sz) U U.heap
/-- THE CONTRACT of a method that makes nothing that stays: d levels of calls, its arguments vs, over the world w; mc cells of ms slots at most are made -/
def Sp (d : Nat) (y : MethodName) (cc : ByteArray) (nL : Nat) (ret : Option FieldType) (vs : List Value) (w : mW) (mc ms : Nat) (P : Option Value → mW → Prop) (PX : String → mW → Prop) : Prop :=
  ∀ (l : Launch) (_ : l.stackTraces = false) (D : va_G) (dt : Nat → ClassId) (ad : Nat → Nat) (ws : va_W) (sz : Nat), mPic dt ad w ws →
    vx_Met l y (Cond.code y cc nL ret :: mGood) ({ frames := 20 + d, cells := mc, slots := ms, locals := 400 + 60 * d }) (va_Pc (vs.map (trV ad)) (mB D dt ad ws sz)) (mQc D dt ad (va_A ws sz) w.length P) (mXc D dt ad (va_A ws sz) w.length PX) mc ms (va_A ws sz)
/-- what is owed at the end of a walk -/
def mEnd (X : mC) (n0 mc ms : Nat) (P : Option Value → mW → Prop) (PX : String → mW → Prop) : Prop := match X with
  | (_, _, _, _, s, _, args, below, _, _, Q, D, dt, ad, A, _) => Q = vx_MQ below (mQc D dt ad A n0 P) (mXc D dt ad A n0 PX) args s mc ms A
def mRet (X : mC) (ret : Option FieldType) : Prop := match X with
  | (_, _, _, _, _, _, _, _, meth, _, _, _, _, _, _, _) => meth.sig.returnType = ret
def mNoTab (X : mC) : Prop := match X with
  | (_, _, _, _, _, _, _, _, _, c, _, _, _, _, _, _) => ∀ x ∈ c.exceptionTable.toList, False
theorem mB_blind {D : va_G} {dt : Nat → ClassId} {ad : Nat → Nat} {ws : va_W} {sz : Nat} {av : List Value} : FrameBlind (va_Pc av (mB D dt ad ws sz)) := by
  intro a U g mk q
  obtain ⟨q0, q1, qP, qK, qD, qG⟩ := q
  exact ⟨q0, q1, qP, va_K.moved (u := U) (U := U.calling g mk a) (Vm.Alike.refl U.vm) qK, qD, Gl.same (U := U.calling g mk a) qG rfl⟩
theorem trL_args (ad : Nat → Nat) : ∀ (i : Nat) (vs : List Value), lv_args i (vs.map (trV ad)) = trL ad (lv_args i vs)
  | _, [] => rfl
  | i, v :: vs => by
    show lv_args i (trV ad v :: vs.map (trV ad)) = _
    unfold lv_args
    simp only [trV_cat]
    split <;> (rw [trL_args ad _ vs]; rfl)
theorem lg_len (ad : Nat → Nat) : ∀ vs : List Value, (lg_sl (vs.map (trV ad))).length = (vs.map fun v => v.category).sum
  | [] => rfl
  | v :: vs => by
    have h1 : lg_sl ((v :: vs).map (trV ad)) = (if (trV ad v).category = 2 then [Slot.val (trV ad v), Slot.second] else [Slot.val (trV ad v)]) ++ lg_sl (vs.map (trV ad)) := by
      unfold lg_sl
      rw [List.map_cons, List.flatMap_cons]
    rw [h1, List.length_append, lg_len ad vs, List.map_cons, List.sum_cons, trV_cat]
    rcases lv_cat v with h | h <;> simp [h]
theorem Sp.of {d : Nat} {y : MethodName} {cc : ByteArray} {nL : Nat} {ret : Option FieldType} {vs : List Value} {w : mW} {mc ms : Nat} {P : Option Value → mW → Prop} {PX : String → mW → Prop} (hy : plainName y.cls = true) (hlen : (vs.map fun v => v.category).sum ≤ nL)
    (body : ∀ X : mC, Cx X y.cls cc d mc ms → mNL X = nL → mEnd X w.length mc ms P PX → mRet X ret → mNoTab X → Wp X 0 0 w (lv_args 0 vs) [] 0) : Sp d y cc nL ret vs w mc ms P PX := by
  intro l hl9 D dt ad ws sz hp
  refine vx_ofW (cc := cc) (maxL := nL) (ret := ret) hy rfl ?_
  intro p e s m args below meth c s₁ B hml ht hv
  obtain ⟨rfl, hsz, hP, hK, hD0, hG⟩ := hv
  have hts := atoms_spec (ws := Cond.code y cc nL ret :: mGood) B.pre
  subst hsz
  have hlen' : (lg_sl (vs.map (trV ad))).length ≤ nL := by
    rw [lg_len]
    exact hlen
  have hl := lv_entry (vs.map (trV ad)) (n := nL) hlen'
  rw [lg_entry_eq]
  rw [trL_args] at hl
  have key := body (p, l, e, { frames := 20 + d, cells := mc, slots := ms, locals := 400 + 60 * d }, s, m, (vs.map (trV ad)).toArray, below, meth, c, _, D, dt, ad, va_A ws s.heap.size, nL)
    ⟨B.exec, B.bytes, hml, findClass_of_methodNamed B.named, fun w h => hts w (List.mem_cons_of_mem _ h), B.notSynchronized, hl9, hK, fun q h => Or.inr h, hG, Nat.le_refl _, Nat.le_refl _, Nat.le_refl _, Nat.le_refl _⟩ rfl rfl B.returns ht
  exact key ws s.heap [] _ hp hP hD0.self va_S.rf hl
variable {X : mC} {own : String} {cc : ByteArray} {d mc ms k n pc : Nat} {w : mW} {L L' : List (Nat × Value)} {st : List Value} {n0 : Nat} {P : Option Value → mW → Prop} {PX : String → mW → Prop}
-- ends
theorem r_iret (hC : Cx X own cc d mc ms) (hE : mEnd X n0 mc ms P PX) (hR : mRet X (some .int)) (hd : decode cc pc = .ok (.ireturn, 1)) {v : Int32} (hk : k ≤ mc) (hn : n ≤ ms) (hlen : w.length = n0) (hP9 : P (some (.int v)) w) : Wp X k n w L [.int v] pc := by
  obtain ⟨p, l, e, R, s, m, args, below, meth, c, Q, D, dt, ad, A, nL⟩ := X
  obtain ⟨hx, hb, hml, hown, hts, hlk, htr, hK, hA, hG, -⟩ := hC
  intro ws H locs ls hp hP hD hS hl
  have hE : Q = _ := hE
  subst hE
  refine vx_ret (W.widen hk hn ?_)
  exact W.iret (v := v) hx hb hR (fun t ht hW => ⟨⟨some (.int v), w, ws, rfl, hP9, hlen, hp, by rw [ht]; exact hP, hD⟩, hS.F ht⟩) hS.2.2 hd hlk
theorem r_nret (hC : Cx X own cc d mc ms) (hE : mEnd X n0 mc ms P PX) {ty : FieldType} (hR : mRet X (some ty)) (hd : decode cc pc = .ok (.ireturn, 1)) {v : Int32} (hnar : narrow ty (.int v) = .int v) (hk : k ≤ mc) (hn : n ≤ ms) (hlen : w.length = n0) (hP9 : P (some (.int v)) w) : Wp X k n w L [.int v] pc := by
  obtain ⟨p, l, e, R, s, m, args, below, meth, c, Q, D, dt, ad, A, nL⟩ := X
  obtain ⟨hx, hb, hml, hown, hts, hlk, htr, hK, hA, hG, -⟩ := hC
  intro ws H locs ls hp hP hD hS hl
  have hE : Q = _ := hE
  subst hE
  refine vx_ret (W.widen hk hn ?_)
  exact W.zret (v := v) hx hb hR hnar (fun t ht hW => ⟨⟨some (.int v), w, ws, rfl, hP9, hlen, hp, by rw [ht]; exact hP, hD⟩, hS.F ht⟩) hS.2.2 hd hlk
theorem r_vret (hC : Cx X own cc d mc ms) (hE : mEnd X n0 mc ms P PX) (hR : mRet X none) (hd : decode cc pc = .ok (.return_, 1)) (hk : k ≤ mc) (hn : n ≤ ms) (hlen : w.length = n0) (hP9 : P none w) : Wp X k n w L [] pc := by
  obtain ⟨p, l, e, R, s, m, args, below, meth, c, Q, D, dt, ad, A, nL⟩ := X
  obtain ⟨hx, hb, hml, hown, hts, hlk, htr, hK, hA, hG, -⟩ := hC
  intro ws H locs ls hp hP hD hS hl
  have hE : Q = _ := hE
  subst hE
  refine vx_ret (W.widen hk hn ?_)
  exact W.vret hx hb hR (fun t ht hW => ⟨⟨none, w, ws, rfl, hP9, hlen, hp, by rw [ht]; exact hP, hD⟩, hS.F ht⟩) hS.2.2 hd hlk
theorem r_aret (hC : Cx X own cc d mc ms) (hE : mEnd X n0 mc ms P PX) {C : String} (hR : mRet X (some (.object C))) (hd : decode cc pc = .ok (.areturn, 1)) {a : Nat} (hk : k ≤ mc) (hn : n ≤ ms) (hlen : w.length = n0) (hP9 : P (some (.ref a)) w) : Wp X k n w L [.ref a] pc := by
  obtain ⟨p, l, e, R, s, m, args, below, meth, c, Q, D, dt, ad, A, nL⟩ := X
  obtain ⟨hx, hb, hml, hown, hts, hlk, htr, hK, hA, hG, -⟩ := hC
  intro ws H locs ls hp hP hD hS hl
  have hE : Q = _ := hE
  subst hE
  refine vx_ret (W.widen hk hn ?_)
  exact W.aret (v := .ref (ad a)) hx hb hR (Or.inl ⟨C, rfl⟩) (Or.inr ⟨_, rfl⟩) (fun t ht hW => ⟨⟨some (.ref a), w, ws, rfl, hP9, hlen, hp, by rw [ht]; exact hP, hD⟩, hS.F ht⟩) hS.2.2 hd hlk
theorem r_fret (hC : Cx X own cc d mc ms) (hE : mEnd X n0 mc ms P PX) (hR : mRet X (some .float)) (hd : decode cc pc = .ok (.freturn, 1)) {v : UInt32} (hk : k ≤ mc) (hn : n ≤ ms) (hlen : w.length = n0) (hP9 : P (some (.float v)) w) : Wp X k n w L [.float v] pc := by
  obtain ⟨p, l, e, R, s, m, args, below, meth, c, Q, D, dt, ad, A, nL⟩ := X
  obtain ⟨hx, hb, hml, hown, hts, hlk, htr, hK, hA, hG, -⟩ := hC
  intro ws H locs ls hp hP hD hS hl
  have hE : Q = _ := hE
  subst hE
  refine vx_ret (W.widen hk hn ?_)
  exact W.fret (v := v) hx hb hR (fun t ht hW => ⟨⟨some (.float v), w, ws, rfl, hP9, hlen, hp, by rw [ht]; exact hP, hD⟩, hS.F ht⟩) hS.2.2 hd hlk
theorem r_dret (hC : Cx X own cc d mc ms) (hE : mEnd X n0 mc ms P PX) (hR : mRet X (some .double)) (hd : decode cc pc = .ok (.dreturn, 1)) {v : UInt64} (hk : k ≤ mc) (hn : n ≤ ms) (hlen : w.length = n0) (hP9 : P (some (.double v)) w) : Wp X k n w L [.double v] pc := by
  obtain ⟨p, l, e, R, s, m, args, below, meth, c, Q, D, dt, ad, A, nL⟩ := X
  obtain ⟨hx, hb, hml, hown, hts, hlk, htr, hK, hA, hG, -⟩ := hC
  intro ws H locs ls hp hP hD hS hl
  have hE : Q = _ := hE
  subst hE
  refine vx_ret (W.widen hk hn ?_)
  exact W.dret (v := v) hx hb hR (fun t ht hW => ⟨⟨some (.double v), w, ws, rfl, hP9, hlen, hp, by rw [ht]; exact hP, hD⟩, hS.F ht⟩) hS.2.2 hd hlk
/-- a throw that comes from below leaves this method too -/
theorem r_out (hC : Cx X own cc d mc ms) (hE : mEnd X n0 mc ms P PX) (hN : mNoTab X) {E : String} (hk : k ≤ mc) (hn : n ≤ ms) (hlen : w.length = n0) (hP9 : PX E w) : Tp X k n w L st pc E := by
  obtain ⟨p, l, e, R, s, m, args, below, meth, c, Q, D, dt, ad, A, nL⟩ := X
  obtain ⟨hx, hb, hml, hown, hts, hlk, htr, hK, hA, hG, -⟩ := hC
  intro ws H locs ls q ce hp hP hD hS hl hq hv hcl
  have hE : Q = _ := hE
  subst hE
  exact vx_out (fun x hx9 => (hN x hx9).elim) hlk hq hv hcl (fun t ht hW => ⟨⟨w, ws, hP9, hlen, hp, by rw [ht]; exact hP, hD⟩, hS.F ht⟩) hS.2.2 hk hn
-- calls
theorem mGood_code {y : MethodName} {bytes : ByteArray} {maxL : Nat} {ret : Option FieldType} {args : Array Value} {s : State} (hts : ∀ w ∈ mGood, w.before args s = true) (h : Cond.code y bytes maxL ret ∈ mGood) : ∀ w ∈ (Cond.code y bytes maxL ret :: mGood), ∀ (a' : Array Value) (U : State), s.WarmedH U.vm → w.before a' U = true := pay_in hts (mGood_GoodIn (fun _ h => h) h)
/-- how an instruction calls a method of an object, a static method: the links that the tables have -/
def mCallV (own : String) (cc : ByteArray) (pc : Nat) (y : MethodName) (bytes : ByteArray) (maxL : Nat) (ret : Option FieldType) (na : Nat) : Prop := ∃ idx : Nat, Cond.methodLink own idx y ∈ mGood ∧ Cond.instanceMethod y ∈ mGood ∧ Cond.selects y.cls y y ∈ mGood ∧ Cond.initialized y.cls ∈ mGood ∧ Cond.code y bytes maxL ret ∈ mGood ∧ (y.cls ≠ "java/lang/invoke/MethodHandle" ∧ y.cls ≠ "java/lang/invoke/VarHandle") ∧ (parseMethodDescriptor y.desc).map (fun q => q.parameters.length) = some na ∧ maxL ≤ 40 ∧ decode cc pc = .ok (.invokevirtual idx, 3)
def mCallS (own : String) (cc : ByteArray) (pc : Nat) (y : MethodName) (bytes : ByteArray) (maxL : Nat) (ret : Option FieldType) (na : Nat) : Prop := ∃ idx : Nat, Cond.methodLink own idx y ∈ mGood ∧ Cond.static y ∈ mGood ∧ Cond.initialized y.cls ∈ mGood ∧ Cond.code y bytes maxL ret ∈ mGood ∧ (y.cls ≠ "java/lang/invoke/MethodHandle" ∧ y.cls ≠ "java/lang/invoke/VarHandle") ∧ (parseMethodDescriptor y.desc).map (fun q => q.parameters.length) = some na ∧ maxL ≤ 40 ∧ decode cc pc = .ok (.invokestatic idx, 3)
theorem r_run {p : Program} {l : Launch} {e : Env} {R : Room} {s : State} {m : MethodId} {args : Array Value} {below : List Frame} {meth : Method} {c : Code} {Q : State → Prop} {D : va_G} {dt : Nat → ClassId} {ad : Nat → Nat} {A : Nat → Prop} {nL : Nat} {H : Heap} {locs : List Loc} {ws : va_W} {ls : Array Slot} {mc' ms' : Nat} {a : Array Value} {st0 : List Value} {P' : Option Value → mW → Prop} {PX' : String → mW → Prop}
    (hr : vx_Run p l e R s m args below meth c H locs k n mc' ms' (F0 m pc ls st0) (st.map (trV ad)) (mQc D dt ad (va_A ws H.size) w.length P' a) (mXc D dt ad (va_A ws H.size) w.length PX') (va_A ws H.size))
    (hD : va_D A ws) (hS : va_S A s.heap H locs) (hA : ∀ q, s.heap.size ≤ q → A q) (hl : lv_has ls nL (trL ad L))
    (kk : ∀ (v : Option Value) (w' : mW), P' v w' → w'.length = w.length → Wp (p, l, e, R, s, m, args, below, meth, c, Q, D, dt, ad, A, nL) (k + mc') (n + ms') w' L (v.toList ++ st) (pc + 3))
    (kx : ∀ (E : String) (w' : mW), PX' E w' → w'.length = w.length → Tp (p, l, e, R, s, m, args, below, meth, c, Q, D, dt, ad, A, nL) (k + mc') (n + ms') w' L st pc E) :
    W p l e R s m args below meth c H locs k n Q (F0 m pc ls st0) := by
  have hF : ∀ q, va_A ws H.size q → A q := fun q h => by
    rcases h with ⟨j, e9, h⟩ | h
    · exact hD.2 j (q, e9) h
    · exact hA q (Nat.le_trans hS.1 h)
  intro T hT X0
  rcases hr T hT X0 with ⟨v, st₀, t, T', L9, h0, X', hL, e1, e2, ⟨⟨v', w', ws', hv, hP', hlen, hpic, hPt, hDt⟩, hFr⟩, sgo⟩ | ⟨q, st₀, t, T', L9, E, ce, h0, X', hL, e1, e2, ⟨⟨w', ws', hP', hlen, hpic, hPt, hDt⟩, hFr⟩, hce, hcv, hcl, sgo⟩
  · cases hv
    obtain ⟨-, -, hS'⟩ := vx_keep h0 e1 hS (fun q _ h => hF q h) hF hL hFr
    have hgo := kk v' w' hP' hlen ws' T'.heap (locs ++ L9) ls hpic (by rw [e1]; exact hPt) (hDt.weaken (fun _ q _ h => hF q.1 h)) hS' hl
    have he : (v'.toList ++ st).map (trV ad) = (v'.map (trV ad)).toList ++ st.map (trV ad) := by cases v' <;> simp
    rw [he] at hgo
    obtain ⟨t2, a1, b1⟩ := hgo T' rfl X'
    exact ⟨t2, sgo t2 a1, b1⟩
  · obtain ⟨-, -, hS'⟩ := vx_keep h0 e1 hS (fun q _ h => hF q h) hF hL hFr
    obtain ⟨t2, a1, b1⟩ := kx E w' hP' hlen ws' T'.heap (locs ++ L9) ls q ce hpic (by rw [e1]; exact hPt) (hDt.weaken (fun _ q _ h => hF q.1 h)) hS' hl (by rw [e1]; exact hce) hcv hcl T' rfl X'
    exact ⟨t2, sgo.trans a1, b1⟩
theorem r_callV (hC : Cx X own cc d mc ms) {d' mc' ms' maxL a ci na : Nat} {y : MethodName} {bytes : ByteArray} {ret : Option FieldType} {vs fs : List Value} {P' : Option Value → mW → Prop} {PX' : String → mW → Prop}
    (hcv : mCallV own cc pc y bytes maxL ret na) (hSp : Sp d' y bytes maxL ret (.ref a :: vs) w mc' ms' P' PX') (hw : w[a]? = some (mO ci fs)) (hci : (vwCl[ci]?).map (fun q => q.1) = some y.cls) (hna : vs.length = na) (hd' : d' + 1 ≤ d) (hk : k + mc' ≤ mc) (hn : n + ms' ≤ ms) (hcat : (st.map fun v => v.category).sum ≤ 8)
    (kk : ∀ (v : Option Value) (w' : mW), P' v w' → w'.length = w.length → Wp X (k + mc') (n + ms') w' L (v.toList ++ st) (pc + 3))
    (kx : ∀ (E : String) (w' : mW), PX' E w' → w'.length = w.length → Tp X (k + mc') (n + ms') w' L st pc E) :
    Wp X k n w L (vs.reverse ++ .ref a :: st) pc := by
  obtain ⟨p, l, e, R, s, m, args, below, meth, c, Q, D, dt, ad, A, nL⟩ := X
  obtain ⟨hx, hb, hml, hown, hts, hlk, htr, hK, hA, hG, hfr, hlo, hcc, hss⟩ := hC
  intro ws H locs ls hp hP hD hS hl
  obtain ⟨idx, hli, hin, hse, hini, hcode, hmh, hpar, hmL, hd⟩ := hcv
  obtain ⟨⟨C9, T9, N9⟩, hc9, hy9⟩ := Option.map_eq_some_iff.mp hci
  have hy9 : C9 = y.cls := hy9
  obtain ⟨q0, hq⟩ := List.getElem?_of_mem (hp.2.1 a ci fs hw)
  have hM := hSp l htr D dt ad ws H.size hp
  have hF : ∀ q, va_A ws H.size q → A q := fun q h => by
    rcases h with ⟨j, e9, h⟩ | h
    · exact hD.2 j (q, e9) h
    · exact hA q (Nat.le_trans hS.1 h)
  have hst : (vs.reverse ++ Value.ref a :: st).map (trV ad) = (vs.map (trV ad)).reverse ++ .ref (ad a) :: st.map (trV ad) := by
    rw [List.map_append, List.map_reverse]
    rfl
  have hcat' : ((st.map (trV ad)).map fun v => v.category).sum ≤ 8 := by
    rw [List.map_map]
    have : ((fun v : Value => v.category) ∘ trV ad) = fun v => v.category := by funext v; exact trV_cat ad v
    rw [this]
    exact hcat
  refine r_run (P' := P') (PX' := PX') (a := (Value.ref (ad a) :: vs.map (trV ad)).toArray) ?_ hD hS hA hl kk kx
  refine vx_runV (As := vs.map (trV ad)) (rest := st.map (trV ad)) (C := y.cls) (n := na) (Ts := mGood) ⟨hx, hb, hml, hown, hts⟩ hM ⟨⟨rfl, rfl, by show 20 + d' + 1 ≤ R.frames; omega, by show 8 + (maxL + 11) + (400 + 60 * d') ≤ R.locals; omega, mGood_code hts hcode, List.mem_cons_self, hts _ hcode, hts _ hini, hmh, fun sig h => ?_, hts _ hli⟩, hts _ hin, hts _ hse⟩ ⟨mB_blind, ?_, fun U hU hW => ⟨rfl, by rw [hU], by rw [hU]; exact hP, va_K.moved hW.alike hK, hD.weaken (fun _ _ _ _ => trivial), Gl.call hG hS hU hW hF⟩⟩ rfl (by rw [List.length_map]; exact hna) hl.1 hst (lv_room hcat') hd ⟨by omega, by omega⟩
  · rw [h] at hpar
    exact (Option.some.inj hpar).symm
  · rw [← hy9]
    exact va_recv hK hP hc9 hq
theorem r_callS (hC : Cx X own cc d mc ms) {d' mc' ms' maxL na : Nat} {y : MethodName} {bytes : ByteArray} {ret : Option FieldType} {vs : List Value} {P' : Option Value → mW → Prop} {PX' : String → mW → Prop}
    (hcv : mCallS own cc pc y bytes maxL ret na) (hSp : Sp d' y bytes maxL ret vs w mc' ms' P' PX') (hna : vs.length = na) (hd' : d' + 1 ≤ d) (hk : k + mc' ≤ mc) (hn : n + ms' ≤ ms) (hcat : (st.map fun v => v.category).sum ≤ 8)
    (kk : ∀ (v : Option Value) (w' : mW), P' v w' → w'.length = w.length → Wp X (k + mc') (n + ms') w' L (v.toList ++ st) (pc + 3))
    (kx : ∀ (E : String) (w' : mW), PX' E w' → w'.length = w.length → Tp X (k + mc') (n + ms') w' L st pc E) :
    Wp X k n w L (vs.reverse ++ st) pc := by
  obtain ⟨p, l, e, R, s, m, args, below, meth, c, Q, D, dt, ad, A, nL⟩ := X
  obtain ⟨hx, hb, hml, hown, hts, hlk, htr, hK, hA, hG, hfr, hlo, hcc, hss⟩ := hC
  intro ws H locs ls hp hP hD hS hl
  obtain ⟨idx, hli, hstt, hini, hcode, hmh, hpar, hmL, hd⟩ := hcv
  have hM := hSp l htr D dt ad ws H.size hp
  have hF : ∀ q, va_A ws H.size q → A q := fun q h => by
    rcases h with ⟨j, e9, h⟩ | h
    · exact hD.2 j (q, e9) h
    · exact hA q (Nat.le_trans hS.1 h)
  have hst : (vs.reverse ++ st).map (trV ad) = (vs.map (trV ad)).reverse ++ st.map (trV ad) := by
    rw [List.map_append, List.map_reverse]
  have hcat' : ((st.map (trV ad)).map fun v => v.category).sum ≤ 8 := by
    rw [List.map_map]
    have : ((fun v : Value => v.category) ∘ trV ad) = fun v => v.category := by funext v; exact trV_cat ad v
    rw [this]
    exact hcat
  refine r_run (P' := P') (PX' := PX') (a := (vs.map (trV ad)).toArray) ?_ hD hS hA hl kk kx
  refine vx_runS (As := vs.map (trV ad)) (rest := st.map (trV ad)) (n := na) (Ts := mGood) ⟨hx, hb, hml, hown, hts⟩ hM ⟨⟨rfl, rfl, by show 20 + d' + 1 ≤ R.frames; omega, by show 8 + (maxL + 11) + (400 + 60 * d') ≤ R.locals; omega, mGood_code hts hcode, List.mem_cons_self, hts _ hcode, hts _ hini, hmh, fun sig h => ?_, hts _ hli⟩, hts _ hstt⟩ ⟨mB_blind, fun U hU hW => ⟨rfl, by rw [hU], by rw [hU]; exact hP, va_K.moved hW.alike hK, hD.weaken (fun _ _ _ _ => trivial), Gl.call hG hS hU hW hF⟩⟩ rfl (by rw [List.length_map]; exact hna) hl.1 hst (lv_room hcat') hd ⟨by omega, by omega⟩
  rw [h] at hpar
  exact (Option.some.inj hpar).symm
end MT
