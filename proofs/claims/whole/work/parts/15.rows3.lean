section MV
theorem mMet_of {l : Launch} {y : MethodName} {ws : List Cond} {rm : Room} {Pc : Array Value → State → Prop} {Qc : Array Value → State → Outcome → State → Prop} {XC : String → State → State → Prop} {mc ms : Nat} {free : Addr → Prop} (h : vx_Met l y ws rm Pc Qc XC mc ms free) (hx : ∀ E st t, ¬ XC E st t) : Met l y ws rm Pc Qc mc ms free := by
  intro p e a1 a2 a3 s m args below b1 b2 b3 b4
  obtain ⟨n, o, h1, h2, h3, h4⟩ := h p e a1 a2 a3 s m args below b1 b2 b3 b4
  refine ⟨n, o, h1, h2, h3, ?_⟩
  rcases h4 with h4 | ⟨q, -, hT⟩
  · exact h4
  · obtain ⟨E, ce, L, hX, -⟩ := hT
    exact absurd hX (hx _ _ _)
theorem mGoodIn_list {l : List Cond} (h : ∀ w ∈ l, w ∈ mGood) : GoodIn mGood l := fun w hw => ⟨h w hw, good_of_word (List.mem_filter.mp (h w hw)).2⟩
theorem mNest_use {w : Cond} {args : Array Value} {s : State} (hn : mNest w = true) (h : va_Nw w s) : w.before args s = true := by
  cases w <;> first | exact va_Nw.use rfl h | (rename_i ty; cases ty <;> first | exact va_AO.use h | (simp [mNest] at hn)) | (simp [mNest] at hn)
variable {X : mC} {own : String} {cc : ByteArray} {d mc ms k n pc : Nat} {w : mW} {L L' : List (Nat × Value)} {st : List Value} {n0 : Nat} {P : Option Value → mW → Prop} {PX : String → mW → Prop}
theorem r_runM {p : Program} {l : Launch} {e : Env} {R : Room} {s : State} {m : MethodId} {args : Array Value} {below : List Frame} {meth : Method} {c : Code} {Q : State → Prop} {D : va_G} {dt : Nat → ClassId} {ad : Nat → Nat} {A : Nat → Prop} {nL : Nat} {H : Heap} {locs : List Loc} {ws : va_W} {ls : Array Slot} {mc' ms' : Nat} {a : Array Value} {st0 : List Value} {P' : Option Value → mW → Prop}
    (hr : va_Run p l e R s m args below meth c H locs k n mc' ms' (F0 m pc ls st0) (st.map (trV ad)) (mQc D dt ad (va_A ws H.size) w.length P' a) (va_A ws H.size))
    (hD : va_D A ws) (hS : va_S A s.heap H locs) (hA : ∀ q, s.heap.size ≤ q → A q) (hl : lv_has ls nL (trL ad L))
    (kk : ∀ (v : Option Value) (w' : mW), P' v w' → w'.length = w.length → Wp (p, l, e, R, s, m, args, below, meth, c, Q, D, dt, ad, A, nL) (k + mc') (n + ms') w' L (v.toList ++ st) (pc + 3)) :
    W p l e R s m args below meth c H locs k n Q (F0 m pc ls st0) := by
  have hF : ∀ q, va_A ws H.size q → A q := fun q h => by
    rcases h with ⟨j, e9, h⟩ | h
    · exact hD.2 j (q, e9) h
    · exact hA q (Nat.le_trans hS.1 h)
  intro T hT X0
  obtain ⟨v, st₀, t, T', L9, h0, X', hL, e1, e2, ⟨⟨v', w', ws', hv, hP', hlen, hpic, hPt, hDt⟩, hFr⟩, sgo⟩ := hr T hT X0
  cases hv
  obtain ⟨-, -, hS'⟩ := vx_keep h0 e1 hS (fun q _ h => hF q h) hF hL hFr
  have hgo := kk v' w' hP' hlen ws' T'.heap (locs ++ L9) ls hpic (by rw [e1]; exact hPt) (hDt.weaken (fun _ q _ h => hF q.1 h)) hS' hl
  have he : (v'.toList ++ st).map (trV ad) = (v'.map (trV ad)).toList ++ st.map (trV ad) := by cases v' <;> simp
  rw [he] at hgo
  obtain ⟨t2, a1, b1⟩ := hgo T' rfl X'
  exact ⟨t2, sgo t2 a1, b1⟩
theorem Sp.met {d : Nat} {y : MethodName} {cc : ByteArray} {nL : Nat} {ret : Option FieldType} {vs : List Value} {w : mW} {mc ms : Nat} {P : Option Value → mW → Prop} (h : Sp d y cc nL ret vs w mc ms P (fun _ _ => False)) {l : Launch} (hl : l.stackTraces = false) (D : va_G) (dt : Nat → ClassId) (ad : Nat → Nat) (ws : va_W) (sz : Nat) (hp : mPic dt ad w ws) :
    Met l y (Cond.code y cc nL ret :: mGood) ({ frames := 20 + d, cells := mc, slots := ms, locals := 400 + 60 * d }) (va_Pc (vs.map (trV ad)) (mB D dt ad ws sz)) (mQc D dt ad (va_A ws sz) w.length P) mc ms (va_A ws sz) := mMet_of (h l hl D dt ad ws sz hp) (fun _ _ _ q => by obtain ⟨⟨w', ws', h1, -⟩, -⟩ := q; exact h1)
theorem cat_tr (ad : Nat → Nat) {st : List Value} (h : (st.map fun v => v.category).sum ≤ 8) : ((st.map (trV ad)).map fun v => v.category).sum ≤ 8 := by
  rw [List.map_map]
  have : ((fun v : Value => v.category) ∘ trV ad) = fun v => v.category := by funext v; exact trV_cat ad v
  rw [this]
  exact h
/-- a nest mate's static method -/
def mCallSN (own : String) (cc : ByteArray) (pc : Nat) (y : MethodName) (bytes : ByteArray) (maxL : Nat) (ret : Option FieldType) (na : Nat) : Prop := ∃ (idx : Nat) (host : String), Cond.methodLinkNest own idx y host ∈ mNests ∧ Cond.static y ∈ mGood ∧ Cond.initialized y.cls ∈ mGood ∧ Cond.code y bytes maxL ret ∈ mGood ∧ (y.cls ≠ "java/lang/invoke/MethodHandle" ∧ y.cls ≠ "java/lang/invoke/VarHandle") ∧ (parseMethodDescriptor y.desc).map (fun q => q.parameters.length) = some na ∧ maxL ≤ 40 ∧ decode cc pc = .ok (.invokestatic idx, 3)
theorem r_callSN (hC : Cx X own cc d mc ms) {d' mc' ms' maxL na : Nat} {y : MethodName} {bytes : ByteArray} {ret : Option FieldType} {vs : List Value} {P' : Option Value → mW → Prop}
    (hcv : mCallSN own cc pc y bytes maxL ret na) (hSp : Sp d' y bytes maxL ret vs w mc' ms' P' (fun _ _ => False)) (hna : vs.length = na) (hd' : d' + 1 ≤ d) (hk : k + mc' ≤ mc) (hn : n + ms' ≤ ms) (hcat : (st.map fun v => v.category).sum ≤ 8)
    (kk : ∀ (v : Option Value) (w' : mW), P' v w' → w'.length = w.length → Wp X (k + mc') (n + ms') w' L (v.toList ++ st) (pc + 3)) :
    Wp X k n w L (vs.reverse ++ st) pc := by
  obtain ⟨p, l, e, R, s, m, args, below, meth, c, Q, D, dt, ad, A, nL⟩ := X
  obtain ⟨hx, hb, hml, hown, hts, hlk, htr, hK, hA, hG, hfr, hlo, hcc, hss⟩ := hC
  intro ws H locs ls hp hP hD hS hl
  obtain ⟨idx, host, hli, hstt, hini, hcode, hmh, hpar, hmL, hd⟩ := hcv
  have hM := hSp.met htr D dt ad ws H.size hp
  have hF : ∀ q, va_A ws H.size q → A q := fun q h => by
    rcases h with ⟨j, e9, h⟩ | h
    · exact hD.2 j (q, e9) h
    · exact hA q (Nat.le_trans hS.1 h)
  have hst : (vs.reverse ++ st).map (trV ad) = (vs.map (trV ad)).reverse ++ st.map (trV ad) := by
    rw [List.map_append, List.map_reverse]
  refine r_runM (P' := P') (a := (vs.map (trV ad)).toArray) ?_ hD hS hA hl kk
  refine va_runSN (As := vs.map (trV ad)) (rest := st.map (trV ad)) (n := na) (Ts := mGood) (host := host) ⟨hx, hb, hml, hown, hts⟩ hM ⟨⟨⟨rfl, rfl, by show 20 + d' + 1 ≤ R.frames; omega, by show 8 + (maxL + 11) + (400 + 60 * d') ≤ R.locals; omega, mGood_code hts hcode, List.mem_cons_self⟩, hts _ hcode, hts _ hini, hmh, fun sig h => ?_, va_Nw.use rfl (hG.2.2.2.2.2.2.1 _ hli)⟩, hts _ hstt, trivial⟩ ⟨mB_blind, fun U hU hW => ⟨rfl, by rw [hU], by rw [hU]; exact hP, va_K.moved hW.alike hK, hD.weaken (fun _ _ _ _ => trivial), Gl.call hG hS hU hW hF⟩⟩ rfl (by rw [List.length_map]; exact hna) hl.1 hst (lv_room (cat_tr ad hcat)) hd ⟨by omega, by omega⟩
  rw [h] at hpar
  exact (Option.some.inj hpar).symm
/-- an inherited method of a constant object -/
def mCallU (own : String) (cc : ByteArray) (pc : Nat) (C owner : String) (x y : MethodName) (bytes : ByteArray) (maxL : Nat) (ret : Option FieldType) (na : Nat) : Prop := ∃ idx : Nat, (∀ w ∈ [Cond.methodLink own idx x, Cond.sameMethod x.cls owner x.name x.desc, Cond.selects C x y, Cond.instanceMethod y, Cond.initialized y.cls], w ∈ mGood) ∧ Cond.code y bytes maxL ret ∈ mGood ∧ Cond.declares ⟨owner, x.name, x.desc⟩ ∈ mNests ∧ (owner ≠ "java/lang/invoke/MethodHandle" ∧ owner ≠ "java/lang/invoke/VarHandle" ∧ (parseMethodDescriptor x.desc).map (fun q => q.parameters.length) = some na) ∧ maxL ≤ 40 ∧ decode cc pc = .ok (.invokevirtual idx, 3)
theorem r_callU (hC : Cx X own cc d mc ms) {d' mc' ms' maxL na a : Nat} {C owner : String} {x y : MethodName} {bytes : ByteArray} {ret : Option FieldType} {vs : List Value} {P' : Option Value → mW → Prop}
    (hcv : mCallU own cc pc C owner x y bytes maxL ret na) (hO : (C, a) ∈ gOs) (hSp : Sp d' y bytes maxL ret (.ref a :: vs) w mc' ms' P' (fun _ _ => False)) (hna : vs.length = na) (hd' : d' + 1 ≤ d) (hk : k + mc' ≤ mc) (hn : n + ms' ≤ ms) (hcat : (st.map fun v => v.category).sum ≤ 8)
    (kk : ∀ (v : Option Value) (w' : mW), P' v w' → w'.length = w.length → Wp X (k + mc') (n + ms') w' L (v.toList ++ st) (pc + 3)) :
    Wp X k n w L (vs.reverse ++ .ref a :: st) pc := by
  obtain ⟨p, l, e, R, s, m, args, below, meth, c, Q, D, dt, ad, A, nL⟩ := X
  obtain ⟨hx, hb, hml, hown, hts, hlk, htr, hK, hA, hG, hfr, hlo, hcc, hss⟩ := hC
  intro ws H locs ls hp hP hD hS hl
  obtain ⟨idx, hws, hcode, hdec, hdd, hmL, hd⟩ := hcv
  have hM := hSp.met htr D dt ad ws H.size hp
  have hF : ∀ q, va_A ws H.size q → A q := fun q h => by
    rcases h with ⟨j, e9, h⟩ | h
    · exact hD.2 j (q, e9) h
    · exact hA q (Nat.le_trans hS.1 h)
  have hst : (vs.reverse ++ Value.ref a :: st).map (trV ad) = (vs.map (trV ad)).reverse ++ .ref (ad a) :: st.map (trV ad) := by
    rw [List.map_append, List.map_reverse]
    rfl
  refine r_runM (P' := P') (a := (Value.ref (ad a) :: vs.map (trV ad)).toArray) ?_ hD hS hA hl kk
  refine va_runU (As := vs.map (trV ad)) (rest := st.map (trV ad)) (C := C) (owner := owner) (x := x) (n := na) (Ts := mGood) ⟨hx, hb, hml, hown, hts⟩ hM (va_cwA na hts (mGoodIn_list (fun w hw => ?_)) rfl rfl rfl (hG.2.2.2.2.2.2.1 _ hdec) hdd ⟨by show 20 + d' + 1 ≤ R.frames; omega, by show 8 + (maxL + 11) + (400 + 60 * d') ≤ R.locals; omega⟩) ⟨mB_blind, va_Orecv (hG.2.2.1 _ hO) hS, fun U hU hW => ⟨rfl, by rw [hU], by rw [hU]; exact hP, va_K.moved hW.alike hK, hD.weaken (fun _ _ _ _ => trivial), Gl.call hG hS hU hW hF⟩⟩ rfl (by rw [List.length_map]; exact hna) hl.1 hst (lv_room (cat_tr ad hcat)) hd ⟨by omega, by omega⟩
  rcases List.mem_append.mp hw with h | h
  · exact hws w h
  · rcases List.mem_cons.mp h with rfl | h
    · exact hcode
    · exact h
/-- System.arraycopy between two int arrays -/
def mCopyI (own : String) (cc : ByteArray) (pc : Nat) : Prop := ∃ idx : Nat, Cond.methodLink own idx arraycopyName ∈ mGood ∧ Cond.native arraycopyName ∈ mGood ∧ Cond.static arraycopyName ∈ mGood ∧ Cond.initialized "java/lang/System" ∈ mGood ∧ decode cc pc = .ok (.invokestatic idx, 3)
theorem r_copy (hC : Cx X own cc d mc ms) {a b n1 n2 : Nat} {f g : Nat → Int32} {sp dp z : Int32} (hf : mCopyI own cc pc) (ha : w[a]? = some (mI 0 n1 f)) (hb9 : w[b]? = some (mI 0 n2 g)) (h1 : ¬ sp < 0) (h2 : ¬ dp < 0) (h3 : ¬ z < 0) (h4 : sp.toNatClampNeg + z.toNatClampNeg ≤ n1) (h5 : dp.toNatClampNeg + z.toNatClampNeg ≤ n2) (hcat : (st.map fun v => v.category).sum ≤ 8)
    (kk : Wp X k n (w.set b (mI 0 n2 (va_cpy f g sp.toNatClampNeg dp.toNatClampNeg z.toNatClampNeg))) L st (pc + 3)) : Wp X k n w L (.int z :: .int dp :: .ref b :: .int sp :: .ref a :: st) pc := by
  obtain ⟨p, l, e, R, s, m, args, below, meth, c, Q, D, dt, ad, A, nL⟩ := X
  obtain ⟨hx, hb, hml, hown, hts, hlk, htr, hK, hA, hG, hfr, hlo, hcc, hss⟩ := hC
  intro ws H locs ls hp hP hD hS hl
  obtain ⟨idx, hli, hnat, hstt, hini, hd⟩ := hf
  obtain ⟨qa, hqa⟩ := List.getElem?_of_mem (hp.1 a 0 _ ha)
  obtain ⟨qb, hqb⟩ := List.getElem?_of_mem (hp.1 b 0 _ hb9)
  have hcat' := cat_tr ad hcat
  have hnf : nativeFrameWords "java/lang/System" "arraycopy" 5 = 7 := by decide
  refine va_copyi hx hb (hml.trans hl.1.symm) hown (hts _ hli) (hts _ hnat) (hts _ hstt) (hts _ hini) hK hP hD hS qa qb 0 0 hqa hqb rfl rfl rfl h1 h2 h3 h4 h5 (fun _ _ => rfl) (by omega) (by rw [hnf]; omega) hd (fun H1 locs1 hP1 hD1 hS1 => ?_)
  exact kk _ H1 locs1 ls (hp.arr (b := (n2, .inl _)) hb9 hqb) hP1 hD1 hS1 hl
/-- 'throw new E("text")' -/
def mThrow (own : String) (cc : ByteArray) (pc : Nat) (cls : String) : Prop := ∃ (ik is ic hd : Nat) (text : String) (names : List String), Bundle.fit cls = true ∧ (∀ n ∈ names, Bundle.fit n = true) ∧ Cond.classLink own ik cls ∈ mGood ∧ Cond.initialized cls ∈ mGood ∧ (own, is, text, hd) ∈ gRs ∧ (∀ w ∈ (vx_atS own ic cls names).filter goodWord, w ∈ mGood) ∧ (∀ w ∈ (vx_atS own ic cls names).filter (fun w => !goodWord w), w ∈ mNests) ∧ (∀ w ∈ Cond.classLink own ik cls :: Cond.initialized cls :: vx_atS own ic cls names, vx_ot w = true) ∧ names.length ≤ 6 ∧
  decode cc pc = .ok (.new ik, 3) ∧ decode cc (pc + 3) = .ok (.dup, 1) ∧ decode cc (pc + 4) = .ok (.ldc is, 2) ∧ decode cc (pc + 6) = .ok (.invokespecial ic, 3) ∧ decode cc (pc + 9) = .ok (.athrow, 1)
theorem r_throw (hC : Cx X own cc d mc ms) (hE : mEnd X n0 mc ms P PX) (hN : mNoTab X) {cls : String} (hf : mThrow own cc pc cls) (hcat : (st.map fun v => v.category).sum ≤ 8) (hk : k + 1 ≤ mc) (hn : n + 6 ≤ ms) (hlen : w.length = n0) (hP9 : PX cls w) : Wp X k n w L st pc := by
  obtain ⟨p, l, e, R, s, m, args, below, meth, c, Q, D, dt, ad, A, nL⟩ := X
  obtain ⟨hx, hb, hml, hown, hts, hlk, htr, hK, hA, hG, hfr, hlo, hcc, hss⟩ := hC
  intro ws H locs ls hp hP hD hS hl
  obtain ⟨ik, is, ic, hd9, text, names, h1, h2, h3, h4, h5, h6, h7, h8, h9, d0, d3, d4, d6, d9⟩ := hf
  have hE : Q = _ := hE
  subst hE
  have hcat' := cat_tr ad hcat
  refine vx_throwS hx hb htr hown h1 h2 (hts _ h3) (hts _ h4) (hG.2.2.2.2.1 _ h5) (vx_hat (fun w hw => hts w (h6 w hw)) h7 (fun w hw => mNest_use (List.mem_filter.mp hw).2 (hG.2.2.2.2.2.2.1 w hw))) h8 hG.2.2.2.2.2.2.2.2.1 hG.2.2.2.2.2.2.2.2.2.1 hS (hl.1.trans hml.symm) d0 d3 d4 d6 d9 (fun x hx9 => (hN x hx9).elim) (by omega) (by omega) (by omega) (by omega) hlk (fun t ht hsz hk9 => ⟨⟨w, ws, hP9, hlen, hp, hP.kept (fun j q hq => hk9 q.1 (hP j q hq).lt), hD⟩, ⟨Nat.le_trans hS.1 hsz, fun q q1 q2 => (hk9 q (Nat.lt_of_lt_of_le q1 hS.1)).trans (hS.2.1 q q1 q2)⟩⟩) hS.2.2 hk hn
/-- .. the text by a wide index -/
def mThrowW (own : String) (cc : ByteArray) (pc : Nat) (cls : String) : Prop := ∃ (ik is ic hd : Nat) (text : String) (names : List String), Bundle.fit cls = true ∧ (∀ n ∈ names, Bundle.fit n = true) ∧ Cond.classLink own ik cls ∈ mGood ∧ Cond.initialized cls ∈ mGood ∧ (own, is, text, hd) ∈ gRs ∧ (∀ w ∈ (vx_atS own ic cls names).filter goodWord, w ∈ mGood) ∧ (∀ w ∈ (vx_atS own ic cls names).filter (fun w => !goodWord w), w ∈ mNests) ∧ (∀ w ∈ Cond.classLink own ik cls :: Cond.initialized cls :: vx_atS own ic cls names, vx_ot w = true) ∧ names.length ≤ 6 ∧
  decode cc pc = .ok (.new ik, 3) ∧ decode cc (pc + 3) = .ok (.dup, 1) ∧ decode cc (pc + 4) = .ok (.ldc_w is, 3) ∧ decode cc (pc + 7) = .ok (.invokespecial ic, 3) ∧ decode cc (pc + 10) = .ok (.athrow, 1)
theorem r_throwW (hC : Cx X own cc d mc ms) (hE : mEnd X n0 mc ms P PX) (hN : mNoTab X) {cls : String} (hf : mThrowW own cc pc cls) (hcat : (st.map fun v => v.category).sum ≤ 8) (hk : k + 1 ≤ mc) (hn : n + 6 ≤ ms) (hlen : w.length = n0) (hP9 : PX cls w) : Wp X k n w L st pc := by
  obtain ⟨p, l, e, R, s, m, args, below, meth, c, Q, D, dt, ad, A, nL⟩ := X
  obtain ⟨hx, hb, hml, hown, hts, hlk, htr, hK, hA, hG, hfr, hlo, hcc, hss⟩ := hC
  intro ws H locs ls hp hP hD hS hl
  obtain ⟨ik, is, ic, hd9, text, names, h1, h2, h3, h4, h5, h6, h7, h8, h9, d0, d3, d4, d6, d9⟩ := hf
  have hE : Q = _ := hE
  subst hE
  have hcat' := cat_tr ad hcat
  refine vx_throwSW hx hb htr hown h1 h2 (hts _ h3) (hts _ h4) (hG.2.2.2.2.1 _ h5) (vx_hat (fun w hw => hts w (h6 w hw)) h7 (fun w hw => mNest_use (List.mem_filter.mp hw).2 (hG.2.2.2.2.2.2.1 w hw))) h8 hG.2.2.2.2.2.2.2.2.1 hG.2.2.2.2.2.2.2.2.2.1 hS (hl.1.trans hml.symm) d0 d3 d4 d6 d9 (fun x hx9 => (hN x hx9).elim) (by omega) (by omega) (by omega) (by omega) hlk (fun t ht hsz hk9 => ⟨⟨w, ws, hP9, hlen, hp, hP.kept (fun j q hq => hk9 q.1 (hP j q hq).lt), hD⟩, ⟨Nat.le_trans hS.1 hsz, fun q q1 q2 => (hk9 q (Nat.lt_of_lt_of_le q1 hS.1)).trans (hS.2.1 q q1 q2)⟩⟩) hS.2.2 hk hn
end MV
