section MS
variable {X : mC} {own : String} {cc : ByteArray} {d mc ms k n pc : Nat} {w : mW} {L L' : List (Nat × Value)} {st : List Value}
/-- the locals behind a store -/
def mSet1 (L : List (Nat × Value)) (i : Nat) (v : Value) : List (Nat × Value) := (i, v) :: L.filter (fun q => !(q.1 == i) && !(q.1 + 1 == i && q.2.category == 2))
def mSet2 (L : List (Nat × Value)) (i : Nat) (v : Value) : List (Nat × Value) := (i, v) :: L.filter (fun q => !(q.1 == i) && (!(q.1 == i + 1) && !(q.1 + 1 == i && q.2.category == 2)))
theorem mSet1_tr (ad : Nat → Nat) (L : List (Nat × Value)) (i : Nat) (v : Value) : (i, trV ad v) :: (trL ad L).filter (fun q => !(q.1 == i) && !(q.1 + 1 == i && q.2.category == 2)) = trL ad (mSet1 L i v) := by
  show _ = (i, trV ad v) :: trL ad (L.filter _)
  unfold trL
  rw [List.filter_map]
  congr 2
  congr 1
  funext q
  show (!(q.1 == i) && !(q.1 + 1 == i && (trV ad q.2).category == 2)) = _
  rw [trV_cat]
theorem mSet2_tr (ad : Nat → Nat) (L : List (Nat × Value)) (i : Nat) (v : Value) : (i, trV ad v) :: (trL ad L).filter (fun q => !(q.1 == i) && (!(q.1 == i + 1) && !(q.1 + 1 == i && q.2.category == 2))) = trL ad (mSet2 L i v) := by
  show _ = (i, trV ad v) :: trL ad (L.filter _)
  unfold trL
  rw [List.filter_map]
  congr 2
  congr 1
  funext q
  show (!(q.1 == i) && (!(q.1 == i + 1) && !(q.1 + 1 == i && (trV ad q.2).category == 2))) = _
  rw [trV_cat]
theorem r_istore_n (hC : Cx X own cc d mc ms) {z : Fin 4} {i : Nat} {x : Int32} (hd : decode cc pc = .ok (.istore_n z, 1)) (hi : (z : Nat) = i) (hn : i < mNL X) (hL : mSet1 L i (.int x) = L') (kk : Wp X k n w L' st (pc + 1)) : Wp X k n w L (.int x :: st) pc := by
  obtain ⟨p, l, e, R, s, m, args, below, meth, c, Q, D, dt, ad, A, nL⟩ := X
  obtain ⟨hx, hb, -⟩ := hC
  intro ws H locs ls hp hP hD hS hl
  subst hL
  exact lv_istore_n hx hb hd hi hl hn (mSet1_tr ad L i (.int x)) (fun ls' hl' => kk ws H locs ls' hp hP hD hS hl')
theorem r_istore (hC : Cx X own cc d mc ms) {i : Nat} {x : Int32} (hd : decode cc pc = .ok (.istore i, 2)) (hn : i < mNL X) (hL : mSet1 L i (.int x) = L') (kk : Wp X k n w L' st (pc + 2)) : Wp X k n w L (.int x :: st) pc := by
  obtain ⟨p, l, e, R, s, m, args, below, meth, c, Q, D, dt, ad, A, nL⟩ := X
  obtain ⟨hx, hb, -⟩ := hC
  intro ws H locs ls hp hP hD hS hl
  subst hL
  exact lv_istore hx hb hd hl hn (mSet1_tr ad L i (.int x)) (fun ls' hl' => kk ws H locs ls' hp hP hD hS hl')
theorem r_astore_n (hC : Cx X own cc d mc ms) {z : Fin 4} {i x : Nat} (hd : decode cc pc = .ok (.astore_n z, 1)) (hi : (z : Nat) = i) (hn : i < mNL X) (hL : mSet1 L i (.ref x) = L') (kk : Wp X k n w L' st (pc + 1)) : Wp X k n w L (.ref x :: st) pc := by
  obtain ⟨p, l, e, R, s, m, args, below, meth, c, Q, D, dt, ad, A, nL⟩ := X
  obtain ⟨hx, hb, -⟩ := hC
  intro ws H locs ls hp hP hD hS hl
  subst hL
  exact lv_astore_n hx hb hd hi hl hn (mSet1_tr ad L i (.ref x)) (fun ls' hl' => kk ws H locs ls' hp hP hD hS hl')
theorem r_astore (hC : Cx X own cc d mc ms) {i x : Nat} (hd : decode cc pc = .ok (.astore i, 2)) (hn : i < mNL X) (hL : mSet1 L i (.ref x) = L') (kk : Wp X k n w L' st (pc + 2)) : Wp X k n w L (.ref x :: st) pc := by
  obtain ⟨p, l, e, R, s, m, args, below, meth, c, Q, D, dt, ad, A, nL⟩ := X
  obtain ⟨hx, hb, -⟩ := hC
  intro ws H locs ls hp hP hD hS hl
  subst hL
  exact lv_astore hx hb hd hl hn (mSet1_tr ad L i (.ref x)) (fun ls' hl' => kk ws H locs ls' hp hP hD hS hl')
theorem r_fstore (hC : Cx X own cc d mc ms) {i : Nat} {x : UInt32} (hd : decode cc pc = .ok (.fstore i, 2)) (hn : i < mNL X) (hL : mSet1 L i (.float x) = L') (kk : Wp X k n w L' st (pc + 2)) : Wp X k n w L (.float x :: st) pc := by
  obtain ⟨p, l, e, R, s, m, args, below, meth, c, Q, D, dt, ad, A, nL⟩ := X
  obtain ⟨hx, hb, -⟩ := hC
  intro ws H locs ls hp hP hD hS hl
  subst hL
  exact lv_fstore hx hb hd hl hn (mSet1_tr ad L i (.float x)) (fun ls' hl' => kk ws H locs ls' hp hP hD hS hl')
theorem r_dstore (hC : Cx X own cc d mc ms) {i : Nat} {x : UInt64} (hd : decode cc pc = .ok (.dstore i, 2)) (hn : i + 1 < mNL X) (hL : mSet2 L i (.double x) = L') (kk : Wp X k n w L' st (pc + 2)) : Wp X k n w L (.double x :: st) pc := by
  obtain ⟨p, l, e, R, s, m, args, below, meth, c, Q, D, dt, ad, A, nL⟩ := X
  obtain ⟨hx, hb, -⟩ := hC
  intro ws H locs ls hp hP hD hS hl
  subst hL
  exact lv_dstore hx hb hd hl hn (mSet2_tr ad L i (.double x)) (fun ls' hl' => kk ws H locs ls' hp hP hD hS hl')
theorem r_iinc (hC : Cx X own cc d mc ms) {i j : Nat} {z : Int} {x v : Int32} (hd : decode cc pc = .ok (.iinc i z, 3)) (hj : L[j]? = some (i, .int x)) (hv : x + Int32.ofInt z = v) (hn : i < mNL X) (hL : mSet1 L i (.int v) = L') (kk : Wp X k n w L' st (pc + 3)) : Wp X k n w L st pc := by
  obtain ⟨p, l, e, R, s, m, args, below, meth, c, Q, D, dt, ad, A, nL⟩ := X
  obtain ⟨hx, hb, -⟩ := hC
  intro ws H locs ls hp hP hD hS hl
  subst hL
  exact lv_iinc hx hb hd hl (trL_at hj) hv hn (mSet1_tr ad L i (.int v)) (fun ls' hl' => kk ws H locs ls' hp hP hD hS hl')
theorem r_tableIn (hC : Cx X own cc d mc ms) {dflt lo hi : Int} {offs : Array Int} {len : Nat} {x : Int32} {off : Int} {tgt : Nat} (hd : decode cc pc = .ok (.tableswitch dflt lo hi offs, len)) (h1 : ¬ x.toInt < lo) (h2 : ¬ hi < x.toInt) (ho : offs[(x.toInt - lo).toNat]? = some off) (ht : (pc : Int) + off = (tgt : Int)) (kk : Wp X k n w L st tgt) : Wp X k n w L (.int x :: st) pc := by
  obtain ⟨p, l, e, R, s, m, args, below, meth, c, Q, D, dt, ad, A, nL⟩ := X
  obtain ⟨hx, hb, -⟩ := hC
  intro ws H locs ls hp hP hD hS hl
  exact lv_tableIn hx hb hd h1 h2 ho ht (kk ws H locs ls hp hP hD hS hl)
theorem r_tableOut (hC : Cx X own cc d mc ms) {dflt lo hi : Int} {offs : Array Int} {len : Nat} {x : Int32} {tgt : Nat} (hd : decode cc pc = .ok (.tableswitch dflt lo hi offs, len)) (h : x.toInt < lo ∨ hi < x.toInt) (ht : (pc : Int) + dflt = (tgt : Int)) (kk : Wp X k n w L st tgt) : Wp X k n w L (.int x :: st) pc := by
  obtain ⟨p, l, e, R, s, m, args, below, meth, c, Q, D, dt, ad, A, nL⟩ := X
  obtain ⟨hx, hb, -⟩ := hC
  intro ws H locs ls hp hP hD hS hl
  exact lv_tableOut hx hb hd h ht (kk ws H locs ls hp hP hD hS hl)
/-- fewer of the locals are told, or told in another order -/
theorem r_locals (ks : List Nat) (hL : lv_pick L ks = L') (kk : Wp X k n w L' st pc) : Wp X k n w L st pc := by
  obtain ⟨p, l, e, R, s, m, args, below, meth, c, Q, D, dt, ad, A, nL⟩ := X
  intro ws H locs ls hp hP hD hS hl
  refine kk ws H locs ls hp hP hD hS (lv_sub hl ks ?_)
  subst hL
  unfold lv_pick trL
  rw [List.map_filterMap]
  congr 1
  funext q
  rw [List.getElem?_map]
-- fields
/-- how an instruction names a field: by the class's own link, or by a nest mate's -/
def mFl (own : String) (idx : Nat) (C nm ds : String) : Prop := Cond.fieldLink own idx C nm ds ∈ mGood ∨ ∃ host, Cond.fieldLinkNest own idx C nm ds host ∈ mNests
def mGetF (own : String) (cc : ByteArray) (pc ci j : Nat) : Prop := ∃ (C : String) (T : u_T) (N idx : Nat), vwCl[ci]? = some (C, T, N) ∧ (∀ w ∈ u_ws C T N, w ∈ mGood) ∧ j < N ∧ mFl own idx (T j).1 (T j).2.1 (T j).2.2.1 ∧ decode cc pc = .ok (.getfield idx, 3)
def mPutF (own : String) (cc : ByteArray) (pc ci j : Nat) (ty : FieldType) : Prop := ∃ (C : String) (T : u_T) (N idx : Nat) (ty0 : Nat → FieldType), vwCl[ci]? = some (C, T, N) ∧ (∀ w ∈ u_ws C T N, w ∈ mGood) ∧ j < N ∧ mFl own idx (T j).1 (T j).2.1 (T j).2.2.1 ∧ decode cc pc = .ok (.putfield idx, 3) ∧ (∀ k, k < N → parseFieldDescriptor (T k).2.2.1 = some (ty0 k)) ∧ (∀ a, a < N → ∀ b, b < N → a ≠ b → (T a).2.1 ≠ (T b).2.1) ∧ (T j).2.2.2 = false ∧ parseFieldDescriptor (T j).2.2.1 = some ty
def mGetS (own : String) (cc : ByteArray) (pc : Nat) (C nm ds : String) : Prop := ∃ idx : Nat, mFl own idx C nm ds ∧ decode cc pc = .ok (.getstatic idx, 3)
def mGetK (own : String) (cc : ByteArray) (pc : Nat) (C nm ds : String) : Prop := ∃ idx : Nat, mFl own idx C nm ds ∧ decode cc pc = .ok (.getfield idx, 3)
theorem r_get (hC : Cx X own cc d mc ms) {ci j a : Nat} {fs : List Value} {v : Value} (hf : mGetF own cc pc ci j) (hw : w[a]? = some (mO ci fs)) (hv : fs[j]? = some v) (kk : Wp X k n w L (v :: st) (pc + 3)) : Wp X k n w L (.ref a :: st) pc := by
  obtain ⟨p, l, e, R, s, m, args, below, meth, c, Q, D, dt, ad, A, nL⟩ := X
  obtain ⟨hx, hb, hml, hown, hts, hlk, htr, hK, hA, hG, -⟩ := hC
  intro ws H locs ls hp hP hD hS hl
  obtain ⟨C, T, N, idx, hc, hin, hj, hfl, hd⟩ := hf
  obtain ⟨q0, hq⟩ := List.getElem?_of_mem (hp.2.1 a ci fs hw)
  have hv' : (fs.map (trV ad))[j]? = some (trV ad v) := by rw [List.getElem?_map, hv]; rfl
  rcases hfl with h | ⟨host, h⟩
  · exact va_get hx hb hts hin hown hK hP q0 hq hc j hj (hts _ h) (fun _ h9 => h9) hv' hd (kk ws H locs ls hp hP hD hS hl)
  · exact va_getN hx hb hts hin hown hK hP q0 hq hc j hj (va_Nw.use rfl (hG.2.2.2.2.2.2.1 _ h)) (fun _ h9 => h9) hv' hd (kk ws H locs ls hp hP hD hS hl)
theorem r_put (hC : Cx X own cc d mc ms) {ci j a : Nat} {fs : List Value} {v : Value} {ty : FieldType} (hf : mPutF own cc pc ci j ty) (hw : w[a]? = some (mO ci fs)) (hl9 : j < fs.length) (hn : ∀ ad, narrow ty (trV ad v) = trV ad v) (hfit : ∀ ad, fits ty (trV ad v) = true) (kk : Wp X k n (w.set a (mO ci (fs.set j v))) L st (pc + 3)) : Wp X k n w L (v :: .ref a :: st) pc := by
  obtain ⟨p, l, e, R, s, m, args, below, meth, c, Q, D, dt, ad, A, nL⟩ := X
  obtain ⟨hx, hb, hml, hown, hts, hlk, htr, hK, hA, hG, -⟩ := hC
  intro ws H locs ls hp hP hD hS hl
  obtain ⟨C, T, N, idx, ty0, hc, hin, hj, hfl, hd, hty, hnm, hfin, hpd⟩ := hf
  obtain ⟨q0, hq⟩ := List.getElem?_of_mem (hp.2.1 a ci fs hw)
  have hl' : j < (fs.map (trV ad)).length := by rw [List.length_map]; exact hl9
  have he : (fs.map (trV ad)).set j (trV ad v) = (fs.set j v).map (trV ad) := List.map_set.symm
  rcases hfl with h | ⟨host, h⟩
  · refine va_put hx hb hts hin ty0 hty hnm hown hK hP hD hS q0 hq hc j hj (hts _ h) (fun _ h9 => h9) hfin hpd (hn ad) (hfit ad) hl' hd (fun H1 locs1 hP1 hD1 hS1 => ?_)
    rw [he] at hP1 hD1
    exact kk _ H1 locs1 ls (hp.obj (b := fs.set j v) hw hq) hP1 hD1 hS1 hl
  · refine va_putN hx hb hts hin ty0 hty hnm hown hK hP hD hS q0 hq hc j hj (va_Nw.use rfl (hG.2.2.2.2.2.2.1 _ h)) (fun _ h9 => h9) hfin hpd (hn ad) (hfit ad) hl' hd (fun H1 locs1 hP1 hD1 hS1 => ?_)
    rw [he] at hP1 hD1
    exact kk _ H1 locs1 ls (hp.obj (b := fs.set j v) hw hq) hP1 hD1 hS1 hl
/-- a static field's value -/
theorem r_gets (hC : Cx X own cc d mc ms) {C nm ds : String} {v : Value} (hf : mGetS own cc pc C nm ds) (hz : (C, nm, ds, v) ∈ gZs) (kk : Wp X k n w L (v :: st) (pc + 3)) : Wp X k n w L st pc := by
  obtain ⟨p, l, e, R, s, m, args, below, meth, c, Q, D, dt, ad, A, nL⟩ := X
  obtain ⟨hx, hb, hml, hown, hts, hlk, htr, hK, hA, hG, -⟩ := hC
  intro ws H locs ls hp hP hD hS hl
  obtain ⟨idx, hfl, hd⟩ := hf
  have hZ := hG.1 _ hz
  rcases hfl with h | ⟨host, h⟩
  · exact va_gets hx hb hZ hS hown (hts _ h) (fun _ h9 => h9) hd (kk ws H locs ls hp hP hD hS hl)
  · exact va_getsN hx hb hZ hS hown (va_Nw.use rfl (hG.2.2.2.2.2.2.1 _ h)) (fun _ h9 => h9) hd (kk ws H locs ls hp hP hD hS hl)
/-- a constant object's field -/
theorem r_getk (hC : Cx X own cc d mc ms) {C nm ds : String} {v : Value} {a : Nat} (hf : mGetK own cc pc C nm ds) (hz : (C, nm, ds, v, a) ∈ gFs) (kk : Wp X k n w L (v :: st) (pc + 3)) : Wp X k n w L (.ref a :: st) pc := by
  obtain ⟨p, l, e, R, s, m, args, below, meth, c, Q, D, dt, ad, A, nL⟩ := X
  obtain ⟨hx, hb, hml, hown, hts, hlk, htr, hK, hA, hG, -⟩ := hC
  intro ws H locs ls hp hP hD hS hl
  obtain ⟨idx, hfl, hd⟩ := hf
  rcases hfl with h | ⟨host, h⟩
  · exact vk_getf hx hb (hG.2.2.2.1 _ hz) hS hown (hts _ h) (fun _ h9 => h9) hd (kk ws H locs ls hp hP hD hS hl)
  · obtain ⟨cf, kf, fi, f, cell, h1, h2, h3, h4, h5, h6⟩ := (hG.2.2.2.1 _ hz).kept hS.2.1
    exact va_Wgetf hx hb hown (va_Nw.use rfl (hG.2.2.2.2.2.2.1 _ h)) h1 h2 h3 h4 (v := trV ad v) h5 rfl rfl hd (kk ws H locs ls hp hP hD hS hl)
-- arrays
/-- the index i is the place j of n -/
def mIx (i : Int32) (j n : Nat) : Prop := ¬ i < 0 ∧ i.toNatClampNeg = j ∧ j < n
theorem mIx.vp {i : Int32} {j n : Nat} (h : mIx i j n) : vp_in i n := by
  intro q
  rcases q with q | q
  · exact h.1 q
  · rw [h.2.1] at q
    exact Nat.not_le.mpr h.2.2 q
theorem mIx_nI {j n : Nat} (h : j < n) (hn : n ≤ 2 ^ 31) : mIx (nI j) j n := ⟨nI_pos (by omega), nI_clamp (by omega), h⟩
theorem r_iald (hC : Cx X own cc d mc ms) {a j N : Nat} {i : Int32} {f : Nat → Int32} (hd : decode cc pc = .ok (.iaload, 1)) (hw : w[a]? = some (mI 0 N f)) (hi : mIx i j N) (kk : Wp X k n w L (.int (f j) :: st) (pc + 1)) : Wp X k n w L (.int i :: .ref a :: st) pc := by
  obtain ⟨p, l, e, R, s, m, args, below, meth, c, Q, D, dt, ad, A, nL⟩ := X
  obtain ⟨hx, hb, hml, hown, hts, hlk, htr, hK, -⟩ := hC
  intro ws H locs ls hp hP hD hS hl
  obtain ⟨q0, hq⟩ := List.getElem?_of_mem (hp.1 a 0 _ hw)
  refine va_iald hx hb hK hP q0 0 hq rfl hi.vp hd ?_
  rw [hi.2.1]
  exact kk ws H locs ls hp hP hD hS hl
theorem r_iast (hC : Cx X own cc d mc ms) {a j N : Nat} {i x : Int32} {f : Nat → Int32} (hd : decode cc pc = .ok (.iastore, 1)) (hw : w[a]? = some (mI 0 N f)) (hi : mIx i j N) (kk : Wp X k n (w.set a (mI 0 N (upd f j x))) L st (pc + 1)) : Wp X k n w L (.int x :: .int i :: .ref a :: st) pc := by
  obtain ⟨p, l, e, R, s, m, args, below, meth, c, Q, D, dt, ad, A, nL⟩ := X
  obtain ⟨hx, hb, hml, hown, hts, hlk, htr, hK, -⟩ := hC
  intro ws H locs ls hp hP hD hS hl
  obtain ⟨q0, hq⟩ := List.getElem?_of_mem (hp.1 a 0 _ hw)
  refine va_iast hx hb hK hP hD hS q0 0 hq rfl hi.vp hd (fun H1 locs1 hP1 hD1 hS1 => ?_)
  rw [hi.2.1] at hP1 hD1
  exact kk _ H1 locs1 ls (hp.arr (b := (N, .inl (upd f j x))) hw hq) hP1 hD1 hS1 hl
theorem r_lald (hC : Cx X own cc d mc ms) {a j N : Nat} {i : Int32} {f : Nat → Int64} (hd : decode cc pc = .ok (.laload, 1)) (hw : w[a]? = some (.inl (1, N, .inr (.inl f)))) (hi : mIx i j N) (kk : Wp X k n w L (.long (f j) :: st) (pc + 1)) : Wp X k n w L (.int i :: .ref a :: st) pc := by
  obtain ⟨p, l, e, R, s, m, args, below, meth, c, Q, D, dt, ad, A, nL⟩ := X
  obtain ⟨hx, hb, hml, hown, hts, hlk, htr, hK, -⟩ := hC
  intro ws H locs ls hp hP hD hS hl
  obtain ⟨q0, hq⟩ := List.getElem?_of_mem (hp.1 a 1 _ hw)
  refine va_lald hx hb hK hP q0 1 hq rfl hi.vp hd ?_
  rw [hi.2.1]
  exact kk ws H locs ls hp hP hD hS hl
theorem r_last (hC : Cx X own cc d mc ms) {a j N : Nat} {i : Int32} {x : Int64} {f : Nat → Int64} (hd : decode cc pc = .ok (.lastore, 1)) (hw : w[a]? = some (.inl (1, N, .inr (.inl f)))) (hi : mIx i j N) (kk : Wp X k n (w.set a (.inl (1, N, .inr (.inl (vp_updL f j x))))) L st (pc + 1)) : Wp X k n w L (.long x :: .int i :: .ref a :: st) pc := by
  obtain ⟨p, l, e, R, s, m, args, below, meth, c, Q, D, dt, ad, A, nL⟩ := X
  obtain ⟨hx, hb, hml, hown, hts, hlk, htr, hK, -⟩ := hC
  intro ws H locs ls hp hP hD hS hl
  obtain ⟨q0, hq⟩ := List.getElem?_of_mem (hp.1 a 1 _ hw)
  refine va_last hx hb hK hP hD hS q0 1 hq rfl hi.vp hd (fun H1 locs1 hP1 hD1 hS1 => ?_)
  rw [hi.2.1] at hP1 hD1
  exact kk _ H1 locs1 ls (hp.arr (b := (N, .inr (.inl (vp_updL f j x)))) hw hq) hP1 hD1 hS1 hl
theorem r_dald (hC : Cx X own cc d mc ms) {a j N : Nat} {i : Int32} {f : Nat → UInt64} (hd : decode cc pc = .ok (.daload, 1)) (hw : w[a]? = some (.inl (2, N, .inr (.inr (.inr (.inl f)))))) (hi : mIx i j N) (kk : Wp X k n w L (.double (f j) :: st) (pc + 1)) : Wp X k n w L (.int i :: .ref a :: st) pc := by
  obtain ⟨p, l, e, R, s, m, args, below, meth, c, Q, D, dt, ad, A, nL⟩ := X
  obtain ⟨hx, hb, hml, hown, hts, hlk, htr, hK, -⟩ := hC
  intro ws H locs ls hp hP hD hS hl
  obtain ⟨q0, hq⟩ := List.getElem?_of_mem (hp.1 a 2 _ hw)
  refine va_dald hx hb hK hP q0 2 hq rfl hi.vp hd ?_
  rw [hi.2.1]
  exact kk ws H locs ls hp hP hD hS hl
theorem r_dast (hC : Cx X own cc d mc ms) {a j N : Nat} {i : Int32} {x : UInt64} {f : Nat → UInt64} (hd : decode cc pc = .ok (.dastore, 1)) (hw : w[a]? = some (.inl (2, N, .inr (.inr (.inr (.inl f)))))) (hi : mIx i j N) (kk : Wp X k n (w.set a (.inl (2, N, .inr (.inr (.inr (.inl (vf_upd f j x))))))) L st (pc + 1)) : Wp X k n w L (.double x :: .int i :: .ref a :: st) pc := by
  obtain ⟨p, l, e, R, s, m, args, below, meth, c, Q, D, dt, ad, A, nL⟩ := X
  obtain ⟨hx, hb, hml, hown, hts, hlk, htr, hK, -⟩ := hC
  intro ws H locs ls hp hP hD hS hl
  obtain ⟨q0, hq⟩ := List.getElem?_of_mem (hp.1 a 2 _ hw)
  refine va_dast hx hb hK hP hD hS q0 2 hq rfl hi.vp hd (fun H1 locs1 hP1 hD1 hS1 => ?_)
  rw [hi.2.1] at hP1 hD1
  exact kk _ H1 locs1 ls (hp.arr (b := (N, .inr (.inr (.inr (.inl (vf_upd f j x)))))) hw hq) hP1 hD1 hS1 hl
/-- a place of an array of objects (kind t: States, Commands) -/
theorem r_aald (hC : Cx X own cc d mc ms) {a j N t b : Nat} {i : Int32} {f : Nat → Option Nat} {E : String} (hd : decode cc pc = .ok (.aaload, 1)) (hw : w[a]? = some (.inl (t, N, .inr (.inr (.inr (.inr f)))))) (ht : ∀ dt : Nat → ClassId, (mTy dt)[t]? = some (dt t, .object E)) (hi : mIx i j N) (hb9 : f j = some b) (kk : Wp X k n w L (.ref b :: st) (pc + 1)) : Wp X k n w L (.int i :: .ref a :: st) pc := by
  obtain ⟨p, l, e, R, s, m, args, below, meth, c, Q, D, dt, ad, A, nL⟩ := X
  obtain ⟨hx, hb, hml, hown, hts, hlk, htr, hK, -⟩ := hC
  intro ws H locs ls hp hP hD hS hl
  obtain ⟨q0, hq⟩ := List.getElem?_of_mem (hp.1 a t _ hw)
  refine va_aldq hx hb hK hP q0 t hq (ht dt) hi.vp hd ?_
  show W p l e R s m args below meth c H locs k n Q (F0 m (pc + 1) ls (va_rf ((f i.toNatClampNeg).map ad) :: _))
  rw [hi.2.1, hb9]
  exact kk ws H locs ls hp hP hD hS hl
/-- constant arrays -/
theorem r_ialdS (hC : Cx X own cc d mc ms) {t j N : Nat} {i : Int32} {f : Nat → Value} (hd : decode cc pc = .ok (.iaload, 1)) (hT : (.int, t, N, f) ∈ gTs) (hi : mIx i j N) (kk : Wp X k n w L (f j :: st) (pc + 1)) : Wp X k n w L (.int i :: .ref t :: st) pc := by
  obtain ⟨p, l, e, R, s, m, args, below, meth, c, Q, D, dt, ad, A, nL⟩ := X
  obtain ⟨hx, hb, hml, hown, hts, hlk, htr, hK, hA, hG, -⟩ := hC
  intro ws H locs ls hp hP hD hS hl
  exact va_ti hx hb (hG.2.1 _ hT) hS hi.vp (v := trV ad (f j)) (by show trV ad (f i.toNatClampNeg) = _; rw [hi.2.1]) hd (kk ws H locs ls hp hP hD hS hl)
theorem r_baldS (hC : Cx X own cc d mc ms) {t j N : Nat} {i : Int32} {f : Nat → Value} (hd : decode cc pc = .ok (.baload, 1)) (hT : (.byte, t, N, f) ∈ gTs) (hi : mIx i j N) (kk : Wp X k n w L (f j :: st) (pc + 1)) : Wp X k n w L (.int i :: .ref t :: st) pc := by
  obtain ⟨p, l, e, R, s, m, args, below, meth, c, Q, D, dt, ad, A, nL⟩ := X
  obtain ⟨hx, hb, hml, hown, hts, hlk, htr, hK, hA, hG, -⟩ := hC
  intro ws H locs ls hp hP hD hS hl
  exact va_tb hx hb (hG.2.1 _ hT) hS hi.vp (v := trV ad (f j)) (by show trV ad (f i.toNatClampNeg) = _; rw [hi.2.1]) hd (kk ws H locs ls hp hP hD hS hl)
theorem r_aaldS (hC : Cx X own cc d mc ms) {t j N : Nat} {i : Int32} {f : Nat → Value} {E : String} (hd : decode cc pc = .ok (.aaload, 1)) (hT : (.object E, t, N, f) ∈ gTs) (hi : mIx i j N) (kk : Wp X k n w L (f j :: st) (pc + 1)) : Wp X k n w L (.int i :: .ref t :: st) pc := by
  obtain ⟨p, l, e, R, s, m, args, below, meth, c, Q, D, dt, ad, A, nL⟩ := X
  obtain ⟨hx, hb, hml, hown, hts, hlk, htr, hK, hA, hG, -⟩ := hC
  intro ws H locs ls hp hP hD hS hl
  exact vb_tq hx hb (hG.2.1 _ hT) hS hi.vp (v := trV ad (f j)) (by show trV ad (f i.toNatClampNeg) = _; rw [hi.2.1]) hd (kk ws H locs ls hp hP hD hS hl)
theorem r_alenS (hC : Cx X own cc d mc ms) {t N : Nat} {v : Int32} {f : Nat → Value} {ty : FieldType} (hd : decode cc pc = .ok (.arraylength, 1)) (hT : (ty, t, N, f) ∈ gTs) (hv : Int32.ofNat N = v) (kk : Wp X k n w L (.int v :: st) (pc + 1)) : Wp X k n w L (.ref t :: st) pc := by
  obtain ⟨p, l, e, R, s, m, args, below, meth, c, Q, D, dt, ad, A, nL⟩ := X
  obtain ⟨hx, hb, hml, hown, hts, hlk, htr, hK, hA, hG, -⟩ := hC
  intro ws H locs ls hp hP hD hS hl
  exact va_tlen hx hb (hG.2.1 _ hT) hS hv hd (kk ws H locs ls hp hP hD hS hl)
end MS
