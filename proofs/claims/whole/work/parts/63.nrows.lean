section NR
variable {X : mC} {own : String} {cc : ByteArray} {d mc ms k n pc : Nat} {w : mW} {L L' : List (Nat × Value)} {st : List Value} {n0 : Nat} {P : Option Value → mW → Prop}
abbrev mLs (n : Nat) (L : List (Nat × Value)) : Prop := mLows n (L.map (fun q => q.2))
/-- the address of the thing at the end -/
def adN (ad : Nat → Nat) (n q : Nat) : Nat → Nat := fun i => if i = n then q else ad i
theorem adN_ok {ad : Nat → Nat} {n q : Nat} (hn : n < 1000000) : mAdOk n ad (adN ad n q) := ⟨fun i hi => if_neg (by omega), fun i hi => if_neg (by omega)⟩
theorem adN_at {ad : Nat → Nat} {n q : Nat} : adN ad n q n = q := if_pos rfl
/-- new C -/
def mNewO (own : String) (cc : ByteArray) (pc ci N : Nat) (fs : List Value) : Prop := ∃ (idx : Nat) (C : String) (T : u_T) (ty : Nat → FieldType), vwCl[ci]? = some (C, T, N) ∧ Cond.classLink own idx C ∈ mGood ∧ Cond.instantiable C N ∈ mGood ∧ Cond.initialized C ∈ mGood ∧ (∀ w ∈ u_ws C T N, w ∈ mGood) ∧ (∀ k, k < N → parseFieldDescriptor (T k).2.2.1 = some (ty k)) ∧ (∀ j, j < N → defaultValue (ty j) = vp_V fs j) ∧ decode cc pc = .ok (.new idx, 3)
theorem n_new (hC : Cx X own cc d mc ms) {ci N : Nat} {fs : List Value} (hf : mNewO own cc pc ci N fs) (hfs : ∀ ad, fs.map (trV ad) = fs) (hw : mLowW w.length w) (hlen : w.length < 999999) (hk : k + 1 ≤ mc) (hn : n + N ≤ ms) (hL : mLs w.length L) (hst : mLows w.length st)
    (kk : ∀ X1 : mC, mTie w.length X X1 → Wp X1 (k + 1) (n + N) (w ++ [mO ci fs]) L (.ref w.length :: st) (pc + 3)) : Wp X k n w L st pc := by
  obtain ⟨p, l, e, R, s, m, args, below, meth, c, Q, D, dt, ad, A, nL⟩ := X
  obtain ⟨hx, hb, hml, hown, hts, hlk, htr, hK, hA, hG, hfr, hlo, hcc, hss⟩ := hC
  intro ws H locs ls hp hP hD hS hl
  obtain ⟨idx, C, T, ty, hc, hcl, hin1, hin2, hws, hty, hdf, hd⟩ := hf
  refine va_new hx hb hts hws ty hty hown (hts _ hcl) (hts _ hin1) (hts _ hin2) hK hP hD hS hA hc hdf (by omega) (by omega) hd (fun q H1 hP1 hD1 hS1 => ?_)
  have hok := adN_ok (ad := ad) (n := w.length) (q := q) (by omega)
  have hgo := kk (mSet (p, l, e, R, s, m, args, below, meth, c, Q, D, dt, ad, A, nL) (adN ad w.length q)) ⟨_, hok, rfl⟩ _ H1 locs ls ((hp.tie hok (Nat.le_refl _) hw).push (c := mO ci fs) hlen (by show _ = _; rw [hfs]) adN_at hD1) hP1 hD1 hS1 (by rw [trL_ok hok hL]; exact hl)
  have he : (Value.ref w.length :: st).map (trV (adN ad w.length q)) = .ref q :: st.map (trV ad) := by
    rw [List.map_cons, trVs_ok hok hst]
    show Value.ref (adN ad w.length q w.length) :: _ = _
    rw [adN_at]
  rw [he] at hgo
  exact hgo
theorem RA_inj {U : State} {c c' : ClassId} {ty : FieldType} (h : va_RA U c ty) (h' : va_RA U c' ty) : c = c' := by
  cases ty with
  | object C =>
    obtain ⟨_, _, _, _, _, h4⟩ := h
    obtain ⟨_, _, _, _, _, h4'⟩ := h'
    exact Option.some.inj (h4.symm.trans h4')
  | _ => exact Option.some.inj (Eq.trans (Eq.symm h) h')
theorem n_newa (hC : Cx X own cc d mc ms) {atype : ArrayType} {ty : FieldType} {t N : Nat} {a0 : vp_A} {z : Int32} (harr : Cond.arrayClass (newarray.typeOf atype) ∈ mGood) (hty : newarray.typeOf atype = ty) (ht : ∀ dt : Nat → ClassId, (mTy dt)[t]? = some (dt t, ty)) (ha : ∀ cA : ClassId, vp_cell cA a0 = arrV cA N (fun _ => defaultValue ty)) (hat : ∀ ad, trA ad a0 = a0) (hz0 : ¬ z < 0) (hz : z.toNatClampNeg = N) (hby : N * componentBytes ty ≤ 536870912) (hd : decode cc pc = .ok (.newarray atype, 2)) (hw : mLowW w.length w) (hlen : w.length < 999999) (hk : k + 1 ≤ mc) (hn : n + N ≤ ms) (hL : mLs w.length L) (hst : mLows w.length st)
    (kk : ∀ X1 : mC, mTie w.length X X1 → Wp X1 (k + 1) (n + N) (w ++ [.inl (t, a0)]) L (.ref w.length :: st) (pc + 2)) : Wp X k n w L (.int z :: st) pc := by
  obtain ⟨p, l, e, R, s, m, args, below, meth, c, Q, D, dt, ad, A, nL⟩ := X
  obtain ⟨hx, hb, hml, hown, hts, hlk, htr, hK, hA, hG, hfr, hlo, hcc, hss⟩ := hC
  intro ws H locs ls hp hP hD hS hl
  refine va_newa hx hb (hts _ harr) hty hK hP hD hS hA ha hz0 hz hby (by omega) (by omega) hd (fun q cA H1 hK1 hP1 hD1 hS1 => ?_)
  obtain rfl : cA = dt t := RA_inj (hK1.2 6 (cA, ty) rfl).2 (hK.2 t _ (ht dt)).2
  have hok := adN_ok (ad := ad) (n := w.length) (q := q) (by omega)
  have hgo := kk (mSet (p, l, e, R, s, m, args, below, meth, c, Q, D, dt, ad, A, nL) (adN ad w.length q)) ⟨_, hok, rfl⟩ _ H1 locs ls ((hp.tie hok (Nat.le_refl _) hw).push (c := .inl (t, a0)) hlen (by show _ = _; rw [hat]) adN_at hD1) hP1 hD1 hS1 (by rw [trL_ok hok hL]; exact hl)
  have he : (Value.ref w.length :: st).map (trV (adN ad w.length q)) = .ref q :: st.map (trV ad) := by
    rw [List.map_cons, trVs_ok hok hst]
    show Value.ref (adN ad w.length q w.length) :: _ = _
    rw [adN_at]
  rw [he] at hgo
  exact hgo
theorem n_newq (hC : Cx X own cc d mc ms) {C : String} {t N idx : Nat} {z : Int32} (hcl : Cond.classLink own idx C ∈ mGood) (hov : Cond.arrayOver (.object C) ∈ mNests) (ht : ∀ dt : Nat → ClassId, (mTy dt)[t]? = some (dt t, .object C)) (hz0 : ¬ z < 0) (hz : z.toNatClampNeg = N) (hby : N * 4 ≤ 536870912) (hd : decode cc pc = .ok (.anewarray idx, 3)) (hw : mLowW w.length w) (hlen : w.length < 999999) (hk : k + 1 ≤ mc) (hn : n + N ≤ ms) (hL : mLs w.length L) (hst : mLows w.length st)
    (kk : ∀ X1 : mC, mTie w.length X X1 → Wp X1 (k + 1) (n + N) (w ++ [.inl (t, N, .inr (.inr (.inr (.inr (fun _ => none)))))]) L (.ref w.length :: st) (pc + 3)) : Wp X k n w L (.int z :: st) pc := by
  obtain ⟨p, l, e, R, s, m, args, below, meth, c, Q, D, dt, ad, A, nL⟩ := X
  obtain ⟨hx, hb, hml, hown, hts, hlk, htr, hK, hA, hG, hfr, hlo, hcc, hss⟩ := hC
  intro ws H locs ls hp hP hD hS hl
  have hao : va_AO C s := va_AO.of (A := args) (mNest_use (w := Cond.arrayOver (.object C)) rfl (hG.2.2.2.2.2.2.1 _ hov))
  refine va_newq hx hb hown (hts _ hcl) hao hK hP hD hS hA hz0 hz hby (by omega) (by omega) hd (fun q cA H1 hK1 hP1 hD1 hS1 => ?_)
  obtain rfl : cA = dt t := RA_inj (hK1.2 6 (cA, .object C) rfl).2 (hK.2 t _ (ht dt)).2
  have hok := adN_ok (ad := ad) (n := w.length) (q := q) (by omega)
  have hgo := kk (mSet (p, l, e, R, s, m, args, below, meth, c, Q, D, dt, ad, A, nL) (adN ad w.length q)) ⟨_, hok, rfl⟩ _ H1 locs ls ((hp.tie hok (Nat.le_refl _) hw).push (c := .inl (t, N, .inr (.inr (.inr (.inr (fun _ => none)))))) hlen (by show _ = _; rfl) adN_at hD1) hP1 hD1 hS1 (by rw [trL_ok hok hL]; exact hl)
  have he : (Value.ref w.length :: st).map (trV (adN ad w.length q)) = .ref q :: st.map (trV ad) := by
    rw [List.map_cons, trVs_ok hok hst]
    show Value.ref (adN ad w.length q w.length) :: _ = _
    rw [adN_at]
  rw [he] at hgo
  exact hgo
/-- a final field is laid in a constructor -/
def mPutI (own : String) (cc : ByteArray) (pc ci j : Nat) (ty : FieldType) : Prop := ∃ (C : String) (T : u_T) (N idx : Nat) (ty0 : Nat → FieldType), vwCl[ci]? = some (C, T, N) ∧ (∀ w ∈ u_ws C T N, w ∈ mGood) ∧ j < N ∧ Cond.fieldLink own idx (T j).1 (T j).2.1 (T j).2.2.1 ∈ mGood ∧ decode cc pc = .ok (.putfield idx, 3) ∧ (∀ k, k < N → parseFieldDescriptor (T k).2.2.1 = some (ty0 k)) ∧ (∀ a, a < N → ∀ b, b < N → a ≠ b → (T a).2.1 ≠ (T b).2.1) ∧ (T j).2.2.2 = true ∧ (T j).1 = own ∧ parseFieldDescriptor (T j).2.2.1 = some ty
theorem n_putI (hC : Cx X own cc d mc ms) (hNm : mNam X "<init>") {ci j a : Nat} {fs : List Value} {v : Value} {ty : FieldType} (hf : mPutI own cc pc ci j ty) (hw : w[a]? = some (mO ci fs)) (hl9 : j < fs.length) (hn : ∀ ad, narrow ty (trV ad v) = trV ad v) (hfit : ∀ ad, fits ty (trV ad v) = true) (kk : Wp X k n (w.set a (mO ci (fs.set j v))) L st (pc + 3)) : Wp X k n w L (v :: .ref a :: st) pc := by
  obtain ⟨p, l, e, R, s, m, args, below, meth, c, Q, D, dt, ad, A, nL⟩ := X
  obtain ⟨hx, hb, hml, hown, hts, hlk, htr, hK, hA, hG, -⟩ := hC
  intro ws H locs ls hp hP hD hS hl
  obtain ⟨C, T, N, idx, ty0, hc, hin, hj, h, hd, hty, hnm, hfin, hdecl, hpd⟩ := hf
  obtain ⟨q0, hq⟩ := List.getElem?_of_mem (hp.2.1 a ci fs hw)
  have hl' : j < (fs.map (trV ad)).length := by rw [List.length_map]; exact hl9
  have he : (fs.map (trV ad)).set j (trV ad v) = (fs.set j v).map (trV ad) := List.map_set.symm
  refine va_putF hx hb hts hin ty0 hty hnm hown hK hP hD hS q0 hq hc j hj (hts _ h) (fun _ h9 => h9) hfin hNm hdecl hpd (hn ad) (hfit ad) hl' hd (fun H1 locs1 hP1 hD1 hS1 => ?_)
  rw [he] at hP1 hD1
  exact kk _ H1 locs1 ls (hp.obj (b := fs.set j v) hw hq) hP1 hD1 hS1 hl
-- calls
theorem n_runM {p : Program} {l : Launch} {e : Env} {R : Room} {s : State} {m : MethodId} {args : Array Value} {below : List Frame} {meth : Method} {c : Code} {Q : State → Prop} {D : va_G} {dt : Nat → ClassId} {ad : Nat → Nat} {A : Nat → Prop} {nL : Nat} {H : Heap} {locs : List Loc} {ws : va_W} {ls : Array Slot} {mc' ms' : Nat} {a : Array Value} {st0 : List Value} {P' : Option Value → mW → Prop}
    (hr : va_Run p l e R s m args below meth c H locs k n mc' ms' (F0 m pc ls st0) (st.map (trV ad)) (mQcN D dt ad (va_A ws H.size) w.length P' a) (va_A ws H.size))
    (hD : va_D A ws) (hS : va_S A s.heap H locs) (hA : ∀ q, s.heap.size ≤ q → A q) (hl : lv_has ls nL (trL ad L)) (hL9 : mLs w.length L) (hst9 : mLows w.length st)
    (kk : ∀ (v : Option Value) (w' : mW) (X1 : mC), mTie w.length (p, l, e, R, s, m, args, below, meth, c, Q, D, dt, ad, A, nL) X1 → P' v w' → w.length ≤ w'.length → Wp X1 (k + mc') (n + ms') w' L (v.toList ++ st) (pc + 3)) :
    W p l e R s m args below meth c H locs k n Q (F0 m pc ls st0) := by
  have hF : ∀ q, va_A ws H.size q → A q := fun q h => by
    rcases h with ⟨j, e9, h⟩ | h
    · exact hD.2 j (q, e9) h
    · exact hA q (Nat.le_trans hS.1 h)
  intro T hT X0
  obtain ⟨v, st₀, t, T', L9, h0, X', hL, e1, e2, ⟨⟨ad', v', w', ws', hok, hge, hv, hP', hpic, hPt, hDt⟩, hFr⟩, sgo⟩ := hr T hT X0
  cases hv
  obtain ⟨-, -, hS'⟩ := vx_keep h0 e1 hS (fun q _ h => hF q h) hF hL hFr
  have hgo := kk v' w' (mSet (p, l, e, R, s, m, args, below, meth, c, Q, D, dt, ad, A, nL) ad') ⟨ad', hok, rfl⟩ hP' hge ws' T'.heap (locs ++ L9) ls hpic (by rw [e1]; exact hPt) (hDt.weaken (fun _ q _ h => hF q.1 h)) hS' (by rw [trL_ok hok hL9]; exact hl)
  have he : (v'.toList ++ st).map (trV ad') = (v'.map (trV ad')).toList ++ st.map (trV ad) := by
    rw [List.map_append, trVs_ok hok hst9]
    cases v' <;> simp
  rw [he] at hgo
  obtain ⟨t2, a1, b1⟩ := hgo T' rfl X'
  exact ⟨t2, sgo t2 a1, b1⟩
/-- a constructor's call -/
def mCallI (own : String) (cc : ByteArray) (pc : Nat) (y : MethodName) (bytes : ByteArray) (maxL na : Nat) : Prop := ∃ idx : Nat, Cond.methodLink own idx y ∈ mGood ∧ Cond.instanceMethod y ∈ mGood ∧ Cond.initialized y.cls ∈ mGood ∧ Cond.code y bytes maxL none ∈ mGood ∧ y.name = "<init>" ∧ (y.cls ≠ "java/lang/invoke/MethodHandle" ∧ y.cls ≠ "java/lang/invoke/VarHandle") ∧ (parseMethodDescriptor y.desc).map (fun q => q.parameters.length) = some na ∧ maxL ≤ 40 ∧ decode cc pc = .ok (.invokespecial idx, 3)
/-- of a nest mate -/
def mCallIN (own : String) (cc : ByteArray) (pc : Nat) (y : MethodName) (bytes : ByteArray) (maxL na : Nat) : Prop := ∃ (idx : Nat) (host : String), Cond.methodLinkNest own idx y host ∈ mNests ∧ Cond.instanceMethod y ∈ mGood ∧ Cond.initialized y.cls ∈ mGood ∧ Cond.code y bytes maxL none ∈ mGood ∧ y.name = "<init>" ∧ (y.cls ≠ "java/lang/invoke/MethodHandle" ∧ y.cls ≠ "java/lang/invoke/VarHandle") ∧ (parseMethodDescriptor y.desc).map (fun q => q.parameters.length) = some na ∧ maxL ≤ 40 ∧ decode cc pc = .ok (.invokespecial idx, 3)
theorem n_callI (hC : Cx X own cc d mc ms) {d' mc' ms' maxL a na : Nat} {y : MethodName} {bytes : ByteArray} {vs : List Value} {P' : Option Value → mW → Prop}
    (hcv : mCallI own cc pc y bytes maxL na) (hSp : SpN d' y bytes maxL none (.ref a :: vs) w mc' ms' P') (hna : vs.length = na) (hd' : d' + 1 ≤ d) (hk : k + mc' ≤ mc) (hn : n + ms' ≤ ms) (hcat : (st.map fun v => v.category).sum ≤ 8) (hL9 : mLs w.length L) (hst9 : mLows w.length st)
    (kk : ∀ (v : Option Value) (w' : mW) (X1 : mC), mTie w.length X X1 → P' v w' → w.length ≤ w'.length → Wp X1 (k + mc') (n + ms') w' L (v.toList ++ st) (pc + 3)) :
    Wp X k n w L (vs.reverse ++ .ref a :: st) pc := by
  obtain ⟨p, l, e, R, s, m, args, below, meth, c, Q, D, dt, ad, A, nL⟩ := X
  obtain ⟨hx, hb, hml, hown, hts, hlk, htr, hK, hA, hG, hfr, hlo, hcc, hss⟩ := hC
  intro ws H locs ls hp hP hD hS hl
  obtain ⟨idx, hli, hin, hini, hcode, hnm, hmh, hpar, hmL, hd⟩ := hcv
  have hM := hSp.met htr D dt ad ws H.size hp
  have hF : ∀ q, va_A ws H.size q → A q := fun q h => by
    rcases h with ⟨j, e9, h⟩ | h
    · exact hD.2 j (q, e9) h
    · exact hA q (Nat.le_trans hS.1 h)
  have hst : (vs.reverse ++ Value.ref a :: st).map (trV ad) = (vs.map (trV ad)).reverse ++ .ref (ad a) :: st.map (trV ad) := by
    rw [List.map_append, List.map_reverse]
    rfl
  refine n_runM (P' := P') (a := (Value.ref (ad a) :: vs.map (trV ad)).toArray) ?_ hD hS hA hl hL9 hst9 kk
  refine va_runI (As := vs.map (trV ad)) (rest := st.map (trV ad)) (n := na) (Ts := mGood) ⟨hx, hb, hml, hown, hts⟩ hM ⟨⟨rfl, rfl, by show 20 + d' + 1 ≤ R.frames; omega, by show 8 + (maxL + 11) + (400 + 60 * d') ≤ R.locals; omega, mGood_code hts hcode, List.mem_cons_self, hts _ hcode, hts _ hini, hmh, fun sig h => ?_, hts _ hli⟩, hnm, hts _ hin⟩ ⟨mB_blind, fun U hU hW => ⟨rfl, by rw [hU], by rw [hU]; exact hP, va_K.moved hW.alike hK, hD.weaken (fun _ _ _ _ => trivial), Gl.call hG hS hU hW hF⟩⟩ rfl (by rw [List.length_map]; exact hna) hl.1 hst (lv_room (cat_tr ad hcat)) hd ⟨by omega, by omega⟩
  rw [h] at hpar
  exact (Option.some.inj hpar).symm
theorem n_callIN (hC : Cx X own cc d mc ms) {d' mc' ms' maxL a na : Nat} {y : MethodName} {bytes : ByteArray} {vs : List Value} {P' : Option Value → mW → Prop}
    (hcv : mCallIN own cc pc y bytes maxL na) (hSp : SpN d' y bytes maxL none (.ref a :: vs) w mc' ms' P') (hna : vs.length = na) (hd' : d' + 1 ≤ d) (hk : k + mc' ≤ mc) (hn : n + ms' ≤ ms) (hcat : (st.map fun v => v.category).sum ≤ 8) (hL9 : mLs w.length L) (hst9 : mLows w.length st)
    (kk : ∀ (v : Option Value) (w' : mW) (X1 : mC), mTie w.length X X1 → P' v w' → w.length ≤ w'.length → Wp X1 (k + mc') (n + ms') w' L (v.toList ++ st) (pc + 3)) :
    Wp X k n w L (vs.reverse ++ .ref a :: st) pc := by
  obtain ⟨p, l, e, R, s, m, args, below, meth, c, Q, D, dt, ad, A, nL⟩ := X
  obtain ⟨hx, hb, hml, hown, hts, hlk, htr, hK, hA, hG, hfr, hlo, hcc, hss⟩ := hC
  intro ws H locs ls hp hP hD hS hl
  obtain ⟨idx, host, hli, hin, hini, hcode, hnm, hmh, hpar, hmL, hd⟩ := hcv
  have hM := hSp.met htr D dt ad ws H.size hp
  have hF : ∀ q, va_A ws H.size q → A q := fun q h => by
    rcases h with ⟨j, e9, h⟩ | h
    · exact hD.2 j (q, e9) h
    · exact hA q (Nat.le_trans hS.1 h)
  have hst : (vs.reverse ++ Value.ref a :: st).map (trV ad) = (vs.map (trV ad)).reverse ++ .ref (ad a) :: st.map (trV ad) := by
    rw [List.map_append, List.map_reverse]
    rfl
  refine n_runM (P' := P') (a := (Value.ref (ad a) :: vs.map (trV ad)).toArray) ?_ hD hS hA hl hL9 hst9 kk
  refine va_runIN (As := vs.map (trV ad)) (rest := st.map (trV ad)) (n := na) (Ts := mGood) (host := host) ⟨hx, hb, hml, hown, hts⟩ hM ⟨⟨⟨rfl, rfl, by show 20 + d' + 1 ≤ R.frames; omega, by show 8 + (maxL + 11) + (400 + 60 * d') ≤ R.locals; omega, mGood_code hts hcode, List.mem_cons_self⟩, hts _ hcode, hts _ hini, hmh, fun sig h => ?_, va_Nw.use rfl (hG.2.2.2.2.2.2.1 _ hli)⟩, hnm, hts _ hin⟩ ⟨mB_blind, fun U hU hW => ⟨rfl, by rw [hU], by rw [hU]; exact hP, va_K.moved hW.alike hK, hD.weaken (fun _ _ _ _ => trivial), Gl.call hG hS hU hW hF⟩⟩ rfl (by rw [List.length_map]; exact hna) hl.1 hst (lv_room (cat_tr ad hcat)) hd ⟨by omega, by omega⟩
  rw [h] at hpar
  exact (Option.some.inj hpar).symm
/-- a constructor that makes nothing -/
theorem r_callI (hC : Cx X own cc d mc ms) {d' mc' ms' maxL a na : Nat} {y : MethodName} {bytes : ByteArray} {vs : List Value} {P' : Option Value → mW → Prop}
    (hcv : mCallI own cc pc y bytes maxL na) (hSp : Sp d' y bytes maxL none (.ref a :: vs) w mc' ms' P' (fun _ _ => False)) (hna : vs.length = na) (hd' : d' + 1 ≤ d) (hk : k + mc' ≤ mc) (hn : n + ms' ≤ ms) (hcat : (st.map fun v => v.category).sum ≤ 8)
    (kk : ∀ (v : Option Value) (w' : mW), P' v w' → w'.length = w.length → Wp X (k + mc') (n + ms') w' L (v.toList ++ st) (pc + 3)) :
    Wp X k n w L (vs.reverse ++ .ref a :: st) pc := by
  obtain ⟨p, l, e, R, s, m, args, below, meth, c, Q, D, dt, ad, A, nL⟩ := X
  obtain ⟨hx, hb, hml, hown, hts, hlk, htr, hK, hA, hG, hfr, hlo, hcc, hss⟩ := hC
  intro ws H locs ls hp hP hD hS hl
  obtain ⟨idx, hli, hin, hini, hcode, hnm, hmh, hpar, hmL, hd⟩ := hcv
  have hM := hSp.met htr D dt ad ws H.size hp
  have hF : ∀ q, va_A ws H.size q → A q := fun q h => by
    rcases h with ⟨j, e9, h⟩ | h
    · exact hD.2 j (q, e9) h
    · exact hA q (Nat.le_trans hS.1 h)
  have hst : (vs.reverse ++ Value.ref a :: st).map (trV ad) = (vs.map (trV ad)).reverse ++ .ref (ad a) :: st.map (trV ad) := by
    rw [List.map_append, List.map_reverse]
    rfl
  refine r_runM (P' := P') (a := (Value.ref (ad a) :: vs.map (trV ad)).toArray) ?_ hD hS hA hl kk
  refine va_runI (As := vs.map (trV ad)) (rest := st.map (trV ad)) (n := na) (Ts := mGood) ⟨hx, hb, hml, hown, hts⟩ hM ⟨⟨rfl, rfl, by show 20 + d' + 1 ≤ R.frames; omega, by show 8 + (maxL + 11) + (400 + 60 * d') ≤ R.locals; omega, mGood_code hts hcode, List.mem_cons_self, hts _ hcode, hts _ hini, hmh, fun sig h => ?_, hts _ hli⟩, hnm, hts _ hin⟩ ⟨mB_blind, fun U hU hW => ⟨rfl, by rw [hU], by rw [hU]; exact hP, va_K.moved hW.alike hK, hD.weaken (fun _ _ _ _ => trivial), Gl.call hG hS hU hW hF⟩⟩ rfl (by rw [List.length_map]; exact hna) hl.1 hst (lv_room (cat_tr ad hcat)) hd ⟨by omega, by omega⟩
  rw [h] at hpar
  exact (Option.some.inj hpar).symm
end NR
