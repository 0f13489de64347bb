section JR
variable {X : mC} {own : String} {cc : ByteArray} {d mc ms k n pc : Nat} {w : mW} {L L' : List (Nat × Value)} {st : List Value} {n0 : Nat} {P : Option Value → mW → Prop} {PX : String → mW → Prop}
theorem r_ishr0 (hC : Cx X own cc d mc ms) {x : Int32} (hd : decode cc pc = .ok (.ishr, 1)) (kk : Wp X k n w L (.int x :: st) (pc + 1)) : Wp X k n w L (.int 0 :: .int x :: st) pc := by
  obtain ⟨p, l, e, R, s, m, args, below, meth, c, Q, D, dt, ad, A, nL⟩ := X
  obtain ⟨hx, hb, -⟩ := hC
  intro ws H locs ls hp hP hD hS hl
  refine lv_ishr hx hb hd ?_
  rw [sb_shr0]
  exact kk ws H locs ls hp hP hD hS hl
theorem r_ishl0 (hC : Cx X own cc d mc ms) {x : Int32} (hd : decode cc pc = .ok (.ishl, 1)) (kk : Wp X k n w L (.int x :: st) (pc + 1)) : Wp X k n w L (.int 0 :: .int x :: st) pc := by
  obtain ⟨p, l, e, R, s, m, args, below, meth, c, Q, D, dt, ad, A, nL⟩ := X
  obtain ⟨hx, hb, -⟩ := hC
  intro ws H locs ls hp hP hD hS hl
  refine lv_ishl hx hb hd ?_
  rw [sb_shl0]
  exact kk ws H locs ls hp hP hD hS hl
theorem r_ishl (hC : Cx X own cc d mc ms) {x y : Int32} (hd : decode cc pc = .ok (.ishl, 1)) (kk : Wp X k n w L (.int (x <<< (y &&& 31)) :: st) (pc + 1)) : Wp X k n w L (.int y :: .int x :: st) pc := by
  obtain ⟨p, l, e, R, s, m, args, below, meth, c, Q, D, dt, ad, A, nL⟩ := X
  obtain ⟨hx, hb, -⟩ := hC
  intro ws H locs ls hp hP hD hS hl
  exact lv_ishl hx hb hd (kk ws H locs ls hp hP hD hS hl)
theorem r_i2b (hC : Cx X own cc d mc ms) {x v : Int32} (hd : decode cc pc = .ok (.i2b, 1)) (hv : x.toInt8.toInt32 = v) (kk : Wp X k n w L (.int v :: st) (pc + 1)) : Wp X k n w L (.int x :: st) pc := by
  obtain ⟨p, l, e, R, s, m, args, below, meth, c, Q, D, dt, ad, A, nL⟩ := X
  obtain ⟨hx, hb, -⟩ := hC
  intro ws H locs ls hp hP hD hS hl
  exact lv_i2b hx hb hd hv (kk ws H locs ls hp hP hD hS hl)
theorem r_bald (hC : Cx X own cc d mc ms) {a j N : Nat} {i : Int32} {f : Nat → Int32} (hd : decode cc pc = .ok (.baload, 1)) (hw : w[a]? = some (mI 5 N f)) (hi : mIx i j N) (kk : Wp X k n w L (.int (f j) :: st) (pc + 1)) : Wp X k n w L (.int i :: .ref a :: st) pc := by
  obtain ⟨p, l, e, R, s, m, args, below, meth, c, Q, D, dt, ad, A, nL⟩ := X
  obtain ⟨hx, hb, hml, hown, hts, hlk, htr, hK, -⟩ := hC
  intro ws H locs ls hp hP hD hS hl
  obtain ⟨q0, hq⟩ := List.getElem?_of_mem (hp.1 a 5 _ hw)
  refine va_bald hx hb hK hP q0 5 hq rfl hi.vp hd ?_
  rw [hi.2.1]
  exact kk ws H locs ls hp hP hD hS hl
theorem r_bast (hC : Cx X own cc d mc ms) {a j N : Nat} {i x : Int32} {f : Nat → Int32} (hd : decode cc pc = .ok (.bastore, 1)) (hw : w[a]? = some (mI 5 N f)) (hi : mIx i j N) (kk : ∀ w1, w1 = w.set a (mI 5 N (upd f j (vp_nar .byte x))) → Wp X k n w1 L st (pc + 1)) : Wp X k n w L (.int x :: .int i :: .ref a :: st) pc := by
  obtain ⟨p, l, e, R, s, m, args, below, meth, c, Q, D, dt, ad, A, nL⟩ := X
  obtain ⟨hx, hb, hml, hown, hts, hlk, htr, hK, -⟩ := hC
  intro ws H locs ls hp hP hD hS hl
  obtain ⟨q0, hq⟩ := List.getElem?_of_mem (hp.1 a 5 _ hw)
  refine va_bast hx hb hK hP hD hS q0 5 hq rfl hi.vp hd (fun H1 locs1 hP1 hD1 hS1 => ?_)
  rw [hi.2.1] at hP1 hD1
  exact kk _ rfl _ H1 locs1 ls (hp.arr (b := (N, .inl (upd f j (vp_nar .byte x)))) hw hq) hP1 hD1 hS1 hl
theorem r_alen (hC : Cx X own cc d mc ms) {a t : Nat} {x : vp_A} {v : Int32} (ht : ∀ dt : Nat → ClassId, ∃ ty, (mTy dt)[t]? = some (dt t, ty)) (hd : decode cc pc = .ok (.arraylength, 1)) (hw : w[a]? = some (.inl (t, x))) (hv : Int32.ofNat x.1 = v) (kk : Wp X k n w L (.int v :: st) (pc + 1)) : Wp X k n w L (.ref a :: st) pc := by
  obtain ⟨p, l, e, R, s, m, args, below, meth, c, Q, D, dt, ad, A, nL⟩ := X
  obtain ⟨hx, hb, hml, hown, hts, hlk, htr, hK, -⟩ := hC
  intro ws H locs ls hp hP hD hS hl
  obtain ⟨q0, hq⟩ := List.getElem?_of_mem (hp.1 a t _ hw)
  obtain ⟨ty, ht⟩ := ht dt
  exact va_alen hx hb hK hP q0 t hq ht (v := v) (by rw [← hv]; rfl) hd (kk ws H locs ls hp hP hD hS hl)
theorem r_copy5 (hC : Cx X own cc d mc ms) {a b n1 n2 : Nat} {f g : Nat → Int32} {sp dp z : Int32} (hf : mCopyI own cc pc) (ha : w[a]? = some (mI 5 n1 f)) (hb9 : w[b]? = some (mI 5 n2 g)) (hfit : sb_Fit f) (h1 : ¬ sp < 0) (h2 : ¬ dp < 0) (h3 : ¬ z < 0) (h4 : sp.toNatClampNeg + z.toNatClampNeg ≤ n1) (h5 : dp.toNatClampNeg + z.toNatClampNeg ≤ n2) (hcat : (st.map fun v => v.category).sum ≤ 8)
    (kk : ∀ w1, w1 = w.set b (mI 5 n2 (va_cpy f g sp.toNatClampNeg dp.toNatClampNeg z.toNatClampNeg)) → Wp X k n w1 L st (pc + 3)) : Wp X k n w L (.int z :: .int dp :: .ref b :: .int sp :: .ref a :: st) pc := by
  obtain ⟨p, l, e, R, s, m, args, below, meth, c, Q, D, dt, ad, A, nL⟩ := X
  obtain ⟨hx, hb, hml, hown, hts, hlk, htr, hK, hA, hG, hfr, hlo, hcc, hss⟩ := hC
  intro ws H locs ls hp hP hD hS hl
  obtain ⟨idx, hli, hnat, hstt, hini, hd⟩ := hf
  obtain ⟨qa, hqa⟩ := List.getElem?_of_mem (hp.1 a 5 _ ha)
  obtain ⟨qb, hqb⟩ := List.getElem?_of_mem (hp.1 b 5 _ hb9)
  have hcat' := cat_tr ad hcat
  have hnf : nativeFrameWords "java/lang/System" "arraycopy" 5 = 7 := by decide
  refine va_copyi hx hb (hml.trans hl.1.symm) hown (hts _ hli) (hts _ hnat) (hts _ hstt) (hts _ hini) hK hP hD hS qa qb 5 5 hqa hqb rfl rfl rfl h1 h2 h3 h4 h5 (fun i _ => hfit _) (by omega) (by rw [hnf]; omega) hd (fun H1 locs1 hP1 hD1 hS1 => ?_)
  exact kk _ rfl _ H1 locs1 ls (hp.arr (b := (n2, .inl _)) hb9 hqb) hP1 hD1 hS1 hl
theorem n_aret (hC : Cx X own cc d mc ms) (hE : mEndN X n0 mc ms P) {ty : FieldType} (hty : (∃ C, ty = .object C) ∨ ∃ t, ty = .array t) (hR : mRet X (some ty)) (hd : decode cc pc = .ok (.areturn, 1)) {a : Nat} (hk : k ≤ mc) (hn : n ≤ ms) (hlen : n0 ≤ w.length) (hP9 : P (some (.ref a)) w) : Wp X k n w L [.ref a] pc := by
  obtain ⟨p, l, e, R, s, m, args, below, meth, c, Q, D, dt, ad, A, nL⟩ := X
  obtain ⟨hx, hb, hml, hown, hts, hlk, htr, hK, hA, hG, -⟩ := hC
  intro ws H locs ls hp hP hD hS hl
  obtain ⟨ad0, hok, hE⟩ := hE
  subst hE
  refine vx_ret (W.widen hk hn ?_)
  exact W.aret (v := .ref (ad a)) hx hb hR hty (Or.inr ⟨_, rfl⟩) (fun t ht hW => ⟨⟨ad, some (.ref a), w, ws, hok, hlen, rfl, hP9, hp, by rw [ht]; exact hP, hD⟩, hS.F ht⟩) hS.2.2 hd hlk
theorem n_nret (hC : Cx X own cc d mc ms) (hE : mEndN X n0 mc ms P) {ty : FieldType} (hR : mRet X (some ty)) (hd : decode cc pc = .ok (.ireturn, 1)) {v : Int32} (hnar : narrow ty (.int v) = .int v) (hk : k ≤ mc) (hn : n ≤ ms) (hlen : n0 ≤ w.length) (hP9 : P (some (.int v)) w) : Wp X k n w L [.int v] pc := by
  obtain ⟨p, l, e, R, s, m, args, below, meth, c, Q, D, dt, ad, A, nL⟩ := X
  obtain ⟨hx, hb, hml, hown, hts, hlk, htr, hK, hA, hG, -⟩ := hC
  intro ws H locs ls hp hP hD hS hl
  obtain ⟨ad0, hok, hE⟩ := hE
  subst hE
  refine vx_ret (W.widen hk hn ?_)
  exact W.zret (v := v) hx hb hR hnar (fun t ht hW => ⟨⟨ad, some (.int v), w, ws, hok, hlen, rfl, hP9, hp, by rw [ht]; exact hP, hD⟩, hS.F ht⟩) hS.2.2 hd hlk
-- calls that select by the receiver's class; super calls
theorem sel_priv {y y2 : MethodName} {C : String} {s : State} {args : Array Value} {n : Nat} (hy : y.cls ≠ "java/lang/invoke/MethodHandle" ∧ y.cls ≠ "java/lang/invoke/VarHandle") (hc9 : y2.cls = y.cls) (hse : (Cond.selects C y2 y2).before args s = true)
    (hins : (Cond.instantiable C n).before args s = true) (hpriv : (Cond.privateMethod y).before args s = true) (hinst : (Cond.instanceMethod y).before args s = true) :
    (Cond.selects C y y).before args s = true := by
  obtain ⟨c, k, hc, hk, -, hniab, -, -⟩ := Cond.instantiable_spec hins
  obtain ⟨c2, r2, m2, -, -, q3, -, kP, hkP, hkPi⟩ := Cond.selects_spec hse
  obtain ⟨mk, methM, hnamed, hmethM, -, -⟩ := Cond.instanceMethod_spec hinst
  have hcl : m2.cls = mk.cls := by
    have h1 := findClass_of_methodNamed q3
    have h2 := findClass_of_methodNamed hnamed
    rw [hc9] at h1
    exact Option.some.inj (h1.symm.trans h2)
  rw [hcl] at hkP
  have hfound : s.methodFound? y.cls y.name y.desc = some mk := State.methodFound?_of_named hnamed hy
  have hsel : selectMethod {} s.vm c mk = .method mk := selectMethod_private hmethM (Cond.privateMethod_at hpriv mk methM hnamed hmethM)
  simp only [Cond.before, Cond.holds, Cond.value, hc, hfound, hnamed, hsel, hkP]
  simp
  exact hkPi
/-- a method found by the receiver's class C -/
def mCallX (own : String) (cc : ByteArray) (pc : Nat) (C : String) (y : MethodName) (bytes : ByteArray) (maxL : Nat) (ret : Option FieldType) (na : Nat) : Prop := ∃ idx : Nat, Cond.methodLink own idx y ∈ mGood ∧ Cond.instanceMethod y ∈ mGood ∧ (∀ (args : Array Value) (s : State), (∀ w ∈ mGood, w.before args s = true) → (Cond.selects C y y).before args s = true) ∧ Cond.initialized y.cls ∈ mGood ∧ Cond.code y bytes maxL ret ∈ mGood ∧ (y.cls ≠ "java/lang/invoke/MethodHandle" ∧ y.cls ≠ "java/lang/invoke/VarHandle") ∧ (parseMethodDescriptor y.desc).map (fun q => q.parameters.length) = some na ∧ maxL ≤ 40 ∧ decode cc pc = .ok (.invokevirtual idx, 3)
/-- super.m(..) -/
def mCallSU (own : String) (cc : ByteArray) (pc : Nat) (y : MethodName) (bytes : ByteArray) (maxL : Nat) (ret : Option FieldType) (na : Nat) : Prop := ∃ idx : Nat, Cond.methodLink own idx y ∈ mGood ∧ Cond.sameMethod y.cls y.cls y.name y.desc ∈ mGood ∧ Cond.superclass own y.cls ∈ mGood ∧ Cond.instanceMethod y ∈ mGood ∧ Cond.initialized y.cls ∈ mGood ∧ Cond.code y bytes maxL ret ∈ mGood ∧ y.name ≠ "<init>" ∧ (parseMethodDescriptor y.desc).map (fun q => q.parameters.length) = some na ∧ maxL ≤ 40 ∧ decode cc pc = .ok (.invokespecial idx, 3)
theorem r_callX (hC : Cx X own cc d mc ms) {d' mc' ms' maxL na a ci : Nat} {y : MethodName} {bytes : ByteArray} {ret : Option FieldType} {vs fs : List Value} {P' : Option Value → mW → Prop} {C : String}
    (hcv : mCallX own cc pc C y bytes maxL ret na) (hSp : Sp d' y bytes maxL ret (.ref a :: vs) w mc' ms' P' (fun _ _ => False)) (hw : w[a]? = some (mO ci fs)) (hci : (vwCl[ci]?).map (fun q => q.1) = some C) (hna : vs.length = na) (hd' : d' + 1 ≤ d) (hk : k + mc' ≤ mc) (hn : n + ms' ≤ ms) (hcat : (st.map fun v => v.category).sum ≤ 8)
    (kk : ∀ (v : Option Value) (w' : mW), P' v w' → w'.length = w.length → Wp X (k + mc') (n + ms') w' L (v.toList ++ st) (pc + 3)) :
    Wp X k n w L (vs.reverse ++ .ref a :: st) pc := by
  obtain ⟨p, l, e, R, s, m, args, below, meth, c, Q, D, dt, ad, A, nL⟩ := X
  obtain ⟨hx, hb, hml, hown, hts, hlk, htr, hK, hA, hG, hfr, hlo, hcc, hss⟩ := hC
  intro ws H locs ls hp hP hD hS hl
  obtain ⟨idx, hli, hin, hse, hini, hcode, hmh, hpar, hmL, hd⟩ := hcv
  obtain ⟨⟨C9, T9, N9⟩, hc9, hy9⟩ := Option.map_eq_some_iff.mp hci
  have hy9 : C9 = C := hy9
  obtain ⟨q0, hq⟩ := List.getElem?_of_mem (hp.2.1 a ci fs hw)
  have hM := hSp.met htr D dt ad ws H.size hp
  have hF : ∀ q, va_A ws H.size q → A q := fun q h => by
    rcases h with ⟨j, e9, h⟩ | h
    · exact hD.2 j (q, e9) h
    · exact hA q (Nat.le_trans hS.1 h)
  have hst : (vs.reverse ++ Value.ref a :: st).map (trV ad) = (vs.map (trV ad)).reverse ++ .ref (ad a) :: st.map (trV ad) := by
    rw [List.map_append, List.map_reverse]
    rfl
  refine r_runM (P' := P') (a := (Value.ref (ad a) :: vs.map (trV ad)).toArray) ?_ hD hS hA hl kk
  refine va_runV (As := vs.map (trV ad)) (rest := st.map (trV ad)) (C := C) (n := na) (Ts := mGood) ⟨hx, hb, hml, hown, hts⟩ hM ⟨⟨rfl, rfl, by show 20 + d' + 1 ≤ R.frames; omega, by show 8 + (maxL + 11) + (400 + 60 * d') ≤ R.locals; omega, mGood_code hts hcode, List.mem_cons_self, hts _ hcode, hts _ hini, hmh, fun sig h => ?_, hts _ hli⟩, hts _ hin, hse args s hts⟩ ⟨mB_blind, ?_, fun U hU hW => ⟨rfl, by rw [hU], by rw [hU]; exact hP, va_K.moved hW.alike hK, hD.weaken (fun _ _ _ _ => trivial), Gl.call hG hS hU hW hF⟩⟩ rfl (by rw [List.length_map]; exact hna) hl.1 hst (lv_room (cat_tr ad hcat)) hd ⟨by omega, by omega⟩
  · rw [h] at hpar
    exact (Option.some.inj hpar).symm
  · rw [← hy9]
    exact va_recv hK hP hc9 hq
theorem n_callX (hC : Cx X own cc d mc ms) {d' mc' ms' maxL na a ci : Nat} {y : MethodName} {bytes : ByteArray} {ret : Option FieldType} {vs fs : List Value} {P' : Option Value → mW → Prop} {C : String}
    (hcv : mCallX own cc pc C y bytes maxL ret na) (hSp : SpN d' y bytes maxL ret (.ref a :: vs) w mc' ms' P') (hw : w[a]? = some (mO ci fs)) (hci : (vwCl[ci]?).map (fun q => q.1) = some C) (hna : vs.length = na) (hd' : d' + 1 ≤ d) (hk : k + mc' ≤ mc) (hn : n + ms' ≤ ms) (hcat : (st.map fun v => v.category).sum ≤ 8) (hL9 : mLs w.length L) (hst9 : mLows w.length st)
    (kk : ∀ (v : Option Value) (w' : mW) (X1 : mC), mTie w.length X X1 → P' v w' → w.length ≤ w'.length → Wp X1 (k + mc') (n + ms') w' L (v.toList ++ st) (pc + 3)) :
    Wp X k n w L (vs.reverse ++ .ref a :: st) pc := by
  obtain ⟨p, l, e, R, s, m, args, below, meth, c, Q, D, dt, ad, A, nL⟩ := X
  obtain ⟨hx, hb, hml, hown, hts, hlk, htr, hK, hA, hG, hfr, hlo, hcc, hss⟩ := hC
  intro ws H locs ls hp hP hD hS hl
  obtain ⟨idx, hli, hin, hse, hini, hcode, hmh, hpar, hmL, hd⟩ := hcv
  obtain ⟨⟨C9, T9, N9⟩, hc9, hy9⟩ := Option.map_eq_some_iff.mp hci
  have hy9 : C9 = C := hy9
  obtain ⟨q0, hq⟩ := List.getElem?_of_mem (hp.2.1 a ci fs hw)
  have hM := hSp.met htr D dt ad ws H.size hp
  have hF : ∀ q, va_A ws H.size q → A q := fun q h => by
    rcases h with ⟨j, e9, h⟩ | h
    · exact hD.2 j (q, e9) h
    · exact hA q (Nat.le_trans hS.1 h)
  have hst : (vs.reverse ++ Value.ref a :: st).map (trV ad) = (vs.map (trV ad)).reverse ++ .ref (ad a) :: st.map (trV ad) := by
    rw [List.map_append, List.map_reverse]
    rfl
  refine n_runM (P' := P') (a := (Value.ref (ad a) :: vs.map (trV ad)).toArray) ?_ hD hS hA hl hL9 hst9 kk
  refine va_runV (As := vs.map (trV ad)) (rest := st.map (trV ad)) (C := C) (n := na) (Ts := mGood) ⟨hx, hb, hml, hown, hts⟩ hM ⟨⟨rfl, rfl, by show 20 + d' + 1 ≤ R.frames; omega, by show 8 + (maxL + 11) + (400 + 60 * d') ≤ R.locals; omega, mGood_code hts hcode, List.mem_cons_self, hts _ hcode, hts _ hini, hmh, fun sig h => ?_, hts _ hli⟩, hts _ hin, hse args s hts⟩ ⟨mB_blind, ?_, fun U hU hW => ⟨rfl, by rw [hU], by rw [hU]; exact hP, va_K.moved hW.alike hK, hD.weaken (fun _ _ _ _ => trivial), Gl.call hG hS hU hW hF⟩⟩ rfl (by rw [List.length_map]; exact hna) hl.1 hst (lv_room (cat_tr ad hcat)) hd ⟨by omega, by omega⟩
  · rw [h] at hpar
    exact (Option.some.inj hpar).symm
  · rw [← hy9]
    exact va_recv hK hP hc9 hq
theorem r_callSU (hC : Cx X own cc d mc ms) {d' mc' ms' maxL na a ci : Nat} {y : MethodName} {bytes : ByteArray} {ret : Option FieldType} {vs fs : List Value} {P' : Option Value → mW → Prop} {C : String}
    (hcv : mCallSU own cc pc y bytes maxL ret na) (hSp : Sp d' y bytes maxL ret (.ref a :: vs) w mc' ms' P' (fun _ _ => False)) (hw : w[a]? = some (mO ci fs)) (hci : (vwCl[ci]?).map (fun q => q.1) = some C) (hna : vs.length = na) (hd' : d' + 1 ≤ d) (hk : k + mc' ≤ mc) (hn : n + ms' ≤ ms) (hcat : (st.map fun v => v.category).sum ≤ 8)
    (kk : ∀ (v : Option Value) (w' : mW), P' v w' → w'.length = w.length → Wp X (k + mc') (n + ms') w' L (v.toList ++ st) (pc + 3)) :
    Wp X k n w L (vs.reverse ++ .ref a :: st) pc := by
  obtain ⟨p, l, e, R, s, m, args, below, meth, c, Q, D, dt, ad, A, nL⟩ := X
  obtain ⟨hx, hb, hml, hown, hts, hlk, htr, hK, hA, hG, hfr, hlo, hcc, hss⟩ := hC
  intro ws H locs ls hp hP hD hS hl
  obtain ⟨idx, hli, hsm, hsu, hin, hini, hcode, hno, hpar, hmL, hd⟩ := hcv
  obtain ⟨⟨C9, T9, N9⟩, hc9, hy9⟩ := Option.map_eq_some_iff.mp hci
  have hy9 : C9 = C := hy9
  obtain ⟨q0, hq⟩ := List.getElem?_of_mem (hp.2.1 a ci fs hw)
  have hM := hSp.met htr D dt ad ws H.size hp
  have hF : ∀ q, va_A ws H.size q → A q := fun q h => by
    rcases h with ⟨j, e9, h⟩ | h
    · exact hD.2 j (q, e9) h
    · exact hA q (Nat.le_trans hS.1 h)
  have hst : (vs.reverse ++ Value.ref a :: st).map (trV ad) = (vs.map (trV ad)).reverse ++ .ref (ad a) :: st.map (trV ad) := by
    rw [List.map_append, List.map_reverse]
    rfl
  refine r_runM (P' := P') (a := (Value.ref (ad a) :: vs.map (trV ad)).toArray) ?_ hD hS hA hl kk
  refine va_runSU (As := vs.map (trV ad)) (rest := st.map (trV ad)) (C := C) (n := na) (Ts := mGood) (cC := D.1 ci) ?_ ⟨hx, hb, hml, hown, hts⟩ hM ⟨⟨rfl, rfl, by show 20 + d' + 1 ≤ R.frames; omega, by show 8 + (maxL + 11) + (400 + 60 * d') ≤ R.locals; omega, mGood_code hts hcode, List.mem_cons_self⟩, hts _ hli, hts _ hsm, hts _ hsu, hts _ hin, hts _ hini, hts _ hcode, hno, fun sig h => ?_⟩ ⟨mB_blind, ?_, fun U hU hW => ⟨rfl, by rw [hU], by rw [hU]; exact hP, va_K.moved hW.alike hK, hD.weaken (fun _ _ _ _ => trivial), Gl.call hG hS hU hW hF⟩⟩ rfl (by rw [List.length_map]; exact hna) hl.1 hst (lv_room (cat_tr ad hcat)) hd ⟨by omega, by omega⟩
  · rw [← hy9]
    exact (hK.1 ci _ hc9).2
  · rw [h] at hpar
    exact (Option.some.inj hpar).symm
  · rw [← hy9]
    exact va_recv hK hP hc9 hq
theorem n_callSU (hC : Cx X own cc d mc ms) {d' mc' ms' maxL na a ci : Nat} {y : MethodName} {bytes : ByteArray} {ret : Option FieldType} {vs fs : List Value} {P' : Option Value → mW → Prop} {C : String}
    (hcv : mCallSU own cc pc y bytes maxL ret na) (hSp : SpN d' y bytes maxL ret (.ref a :: vs) w mc' ms' P') (hw : w[a]? = some (mO ci fs)) (hci : (vwCl[ci]?).map (fun q => q.1) = some C) (hna : vs.length = na) (hd' : d' + 1 ≤ d) (hk : k + mc' ≤ mc) (hn : n + ms' ≤ ms) (hcat : (st.map fun v => v.category).sum ≤ 8) (hL9 : mLs w.length L) (hst9 : mLows w.length st)
    (kk : ∀ (v : Option Value) (w' : mW) (X1 : mC), mTie w.length X X1 → P' v w' → w.length ≤ w'.length → Wp X1 (k + mc') (n + ms') w' L (v.toList ++ st) (pc + 3)) :
    Wp X k n w L (vs.reverse ++ .ref a :: st) pc := by
  obtain ⟨p, l, e, R, s, m, args, below, meth, c, Q, D, dt, ad, A, nL⟩ := X
  obtain ⟨hx, hb, hml, hown, hts, hlk, htr, hK, hA, hG, hfr, hlo, hcc, hss⟩ := hC
  intro ws H locs ls hp hP hD hS hl
  obtain ⟨idx, hli, hsm, hsu, hin, hini, hcode, hno, hpar, hmL, hd⟩ := hcv
  obtain ⟨⟨C9, T9, N9⟩, hc9, hy9⟩ := Option.map_eq_some_iff.mp hci
  have hy9 : C9 = C := hy9
  obtain ⟨q0, hq⟩ := List.getElem?_of_mem (hp.2.1 a ci fs hw)
  have hM := hSp.met htr D dt ad ws H.size hp
  have hF : ∀ q, va_A ws H.size q → A q := fun q h => by
    rcases h with ⟨j, e9, h⟩ | h
    · exact hD.2 j (q, e9) h
    · exact hA q (Nat.le_trans hS.1 h)
  have hst : (vs.reverse ++ Value.ref a :: st).map (trV ad) = (vs.map (trV ad)).reverse ++ .ref (ad a) :: st.map (trV ad) := by
    rw [List.map_append, List.map_reverse]
    rfl
  refine n_runM (P' := P') (a := (Value.ref (ad a) :: vs.map (trV ad)).toArray) ?_ hD hS hA hl hL9 hst9 kk
  refine va_runSU (As := vs.map (trV ad)) (rest := st.map (trV ad)) (C := C) (n := na) (Ts := mGood) (cC := D.1 ci) ?_ ⟨hx, hb, hml, hown, hts⟩ hM ⟨⟨rfl, rfl, by show 20 + d' + 1 ≤ R.frames; omega, by show 8 + (maxL + 11) + (400 + 60 * d') ≤ R.locals; omega, mGood_code hts hcode, List.mem_cons_self⟩, hts _ hli, hts _ hsm, hts _ hsu, hts _ hin, hts _ hini, hts _ hcode, hno, fun sig h => ?_⟩ ⟨mB_blind, ?_, fun U hU hW => ⟨rfl, by rw [hU], by rw [hU]; exact hP, va_K.moved hW.alike hK, hD.weaken (fun _ _ _ _ => trivial), Gl.call hG hS hU hW hF⟩⟩ rfl (by rw [List.length_map]; exact hna) hl.1 hst (lv_room (cat_tr ad hcat)) hd ⟨by omega, by omega⟩
  · rw [← hy9]
    exact (hK.1 ci _ hc9).2
  · rw [h] at hpar
    exact (Option.some.inj hpar).symm
  · rw [← hy9]
    exact va_recv hK hP hc9 hq
theorem n_callS (hC : Cx X own cc d mc ms) {d' mc' ms' maxL na : Nat} {y : MethodName} {bytes : ByteArray} {ret : Option FieldType} {vs : List Value} {P' : Option Value → mW → Prop}
    (hcv : mCallS own cc pc y bytes maxL ret na) (hSp : SpN d' y bytes maxL ret vs w mc' ms' P') (hna : vs.length = na) (hd' : d' + 1 ≤ d) (hk : k + mc' ≤ mc) (hn : n + ms' ≤ ms) (hcat : (st.map fun v => v.category).sum ≤ 8) (hL9 : mLs w.length L) (hst9 : mLows w.length st)
    (kk : ∀ (v : Option Value) (w' : mW) (X1 : mC), mTie w.length X X1 → P' v w' → w.length ≤ w'.length → Wp X1 (k + mc') (n + ms') w' L (v.toList ++ st) (pc + 3)) :
    Wp X k n w L (vs.reverse ++ st) pc := by
  obtain ⟨p, l, e, R, s, m, args, below, meth, c, Q, D, dt, ad, A, nL⟩ := X
  obtain ⟨hx, hb, hml, hown, hts, hlk, htr, hK, hA, hG, hfr, hlo, hcc, hss⟩ := hC
  intro ws H locs ls hp hP hD hS hl
  obtain ⟨idx, hli, hstt, hini, hcode, hmh, hpar, hmL, hd⟩ := hcv
  have hM := hSp.met htr D dt ad ws H.size hp
  have hF : ∀ q, va_A ws H.size q → A q := fun q h => by
    rcases h with ⟨j, e9, h⟩ | h
    · exact hD.2 j (q, e9) h
    · exact hA q (Nat.le_trans hS.1 h)
  have hst : (vs.reverse ++ st).map (trV ad) = (vs.map (trV ad)).reverse ++ st.map (trV ad) := by
    rw [List.map_append, List.map_reverse]
  refine n_runM (P' := P') (a := (vs.map (trV ad)).toArray) ?_ hD hS hA hl hL9 hst9 kk
  refine va_runS (As := vs.map (trV ad)) (rest := st.map (trV ad)) (n := na) (Ts := mGood) ⟨hx, hb, hml, hown, hts⟩ hM ⟨⟨rfl, rfl, by show 20 + d' + 1 ≤ R.frames; omega, by show 8 + (maxL + 11) + (400 + 60 * d') ≤ R.locals; omega, mGood_code hts hcode, List.mem_cons_self, hts _ hcode, hts _ hini, hmh, fun sig h => ?_, hts _ hli⟩, hts _ hstt⟩ ⟨mB_blind, fun U hU hW => ⟨rfl, by rw [hU], by rw [hU]; exact hP, va_K.moved hW.alike hK, hD.weaken (fun _ _ _ _ => trivial), Gl.call hG hS hU hW hF⟩⟩ rfl (by rw [List.length_map]; exact hna) hl.1 hst (lv_room (cat_tr ad hcat)) hd ⟨by omega, by omega⟩
  rw [h] at hpar
  exact (Option.some.inj hpar).symm
theorem r_callXK (hC : Cx X own cc d mc ms) {d' mc' ms' maxL na a : Nat} {y : MethodName} {bytes : ByteArray} {ret : Option FieldType} {vs : List Value} {P' : Option Value → mW → Prop} {C : String}
    (hcv : mCallX own cc pc C y bytes maxL ret na) (hSp : Sp d' y bytes maxL ret (.ref a :: vs) w mc' ms' P' (fun _ _ => False)) (hO : (C, a) ∈ gOs) (hna : vs.length = na) (hd' : d' + 1 ≤ d) (hk : k + mc' ≤ mc) (hn : n + ms' ≤ ms) (hcat : (st.map fun v => v.category).sum ≤ 8)
    (kk : ∀ (v : Option Value) (w' : mW), P' v w' → w'.length = w.length → Wp X (k + mc') (n + ms') w' L (v.toList ++ st) (pc + 3)) :
    Wp X k n w L (vs.reverse ++ .ref a :: st) pc := by
  obtain ⟨p, l, e, R, s, m, args, below, meth, c, Q, D, dt, ad, A, nL⟩ := X
  obtain ⟨hx, hb, hml, hown, hts, hlk, htr, hK, hA, hG, hfr, hlo, hcc, hss⟩ := hC
  intro ws H locs ls hp hP hD hS hl
  obtain ⟨idx, hli, hin, hse, hini, hcode, hmh, hpar, hmL, hd⟩ := hcv
  have hM := hSp.met htr D dt ad ws H.size hp
  have hF : ∀ q, va_A ws H.size q → A q := fun q h => by
    rcases h with ⟨j, e9, h⟩ | h
    · exact hD.2 j (q, e9) h
    · exact hA q (Nat.le_trans hS.1 h)
  have hst : (vs.reverse ++ Value.ref a :: st).map (trV ad) = (vs.map (trV ad)).reverse ++ .ref (ad a) :: st.map (trV ad) := by
    rw [List.map_append, List.map_reverse]
    rfl
  refine r_runM (P' := P') (a := (Value.ref (ad a) :: vs.map (trV ad)).toArray) ?_ hD hS hA hl kk
  refine va_runV (As := vs.map (trV ad)) (rest := st.map (trV ad)) (C := C) (n := na) (Ts := mGood) ⟨hx, hb, hml, hown, hts⟩ hM ⟨⟨rfl, rfl, by show 20 + d' + 1 ≤ R.frames; omega, by show 8 + (maxL + 11) + (400 + 60 * d') ≤ R.locals; omega, mGood_code hts hcode, List.mem_cons_self, hts _ hcode, hts _ hini, hmh, fun sig h => ?_, hts _ hli⟩, hts _ hin, hse args s hts⟩ ⟨mB_blind, va_Orecv (hG.2.2.1 _ hO) hS, fun U hU hW => ⟨rfl, by rw [hU], by rw [hU]; exact hP, va_K.moved hW.alike hK, hD.weaken (fun _ _ _ _ => trivial), Gl.call hG hS hU hW hF⟩⟩ rfl (by rw [List.length_map]; exact hna) hl.1 hst (lv_room (cat_tr ad hcat)) hd ⟨by omega, by omega⟩
  · rw [h] at hpar
    exact (Option.some.inj hpar).symm
end JR
