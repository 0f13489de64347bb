section CR
theorem Sp.imp {d : Nat} {y : MethodName} {cc : ByteArray} {nL : Nat} {ret : Option FieldType} {vs : List Value} {w : mW} {mc ms : Nat} {P P' : Option Value → mW → Prop} {PX : String → mW → Prop} (h : Sp d y cc nL ret vs w mc ms P PX) (hp : ∀ v w', P v w' → P' v w') : Sp d y cc nL ret vs w mc ms P' PX := by
  intro l hl9 D dt ad ws sz hpic
  refine Jvm.Free.MetFree.mono (h l hl9 D dt ad ws sz hpic) (fun _ _ hv => hv) (fun _ _ _ _ _ _ => trivial) (fun args st o t hv hQ => ?_)
  rcases hQ with ⟨⟨⟨v, w', ws', ho, hPv, hr⟩, hF⟩, L, hFE, hL⟩ | hX
  · exact Or.inl ⟨⟨⟨v, w', ws', ho, hp v w' hPv, hr⟩, hF⟩, L, hFE, hL⟩
  · exact Or.inr hX
theorem SpN.imp {d : Nat} {y : MethodName} {cc : ByteArray} {nL : Nat} {ret : Option FieldType} {vs : List Value} {w : mW} {mc ms : Nat} {P P' : Option Value → mW → Prop} (h : SpN d y cc nL ret vs w mc ms P) (hp : ∀ v w', P v w' → P' v w') : SpN d y cc nL ret vs w mc ms P' := by
  intro l hl9 D dt ad ws sz hpic
  refine Jvm.Free.MetFree.mono (h l hl9 D dt ad ws sz hpic) (fun _ _ hv => hv) (fun _ _ _ _ _ _ => trivial) (fun args st o t hv hQ => ?_)
  rcases hQ with ⟨⟨⟨ad', v, w', ws', h1, h2, ho, hPv, hr⟩, hF⟩, L, hFE, hL⟩ | hX
  · exact Or.inl ⟨⟨⟨ad', v, w', ws', h1, h2, ho, hp v w' hPv, hr⟩, hF⟩, L, hFE, hL⟩
  · exact Or.inr hX
theorem Sp.toN {d : Nat} {y : MethodName} {cc : ByteArray} {nL : Nat} {ret : Option FieldType} {vs : List Value} {w : mW} {mc ms : Nat} {P : Option Value → mW → Prop} (h : Sp d y cc nL ret vs w mc ms P noX) : SpN d y cc nL ret vs w mc ms P := by
  intro l hl9 D dt ad ws sz hpic
  refine Jvm.Free.MetFree.mono (h l hl9 D dt ad ws sz hpic) (fun _ _ hv => hv) (fun _ _ _ _ _ _ => trivial) (fun args st o t hv hQ => ?_)
  rcases hQ with ⟨⟨⟨v, w', ws', ho, hPv, hlen, hr⟩, hF⟩, L, hFE, hL⟩ | ⟨q, hq, E, ce, L, hX, -⟩
  · exact Or.inl ⟨⟨⟨ad, v, w', ws', mAdOk.rfl, by rw [hlen]; exact Nat.le_refl _, ho, hPv, hr⟩, hF⟩, L, hFE, hL⟩
  · obtain ⟨⟨w', ws', hx, -⟩, -⟩ := hX
    exact hx.elim
theorem mCallV.x {own : String} {cc : ByteArray} {pc : Nat} {y : MethodName} {bytes : ByteArray} {maxL : Nat} {ret : Option FieldType} {na : Nat} (h : mCallV own cc pc y bytes maxL ret na) : mCallX own cc pc y.cls y bytes maxL ret na := by
  obtain ⟨idx, hli, hin, hse, hr⟩ := h
  exact ⟨idx, hli, hin, fun args s hts => hts _ hse, hr⟩
variable {X : mC} {own : String} {cc : ByteArray} {d mc ms k n pc : Nat} {w : mW} {L L' : List (Nat × Value)} {st : List Value} {n0 : Nat} {P : Option Value → mW → Prop} {PX : String → mW → Prop}
/-- a method of a builder of text -/
theorem r_callXT (hC : Cx X own cc d mc ms) {d' mc' ms' maxL na a : Nat} {tx : List Nat} {y : MethodName} {bytes : ByteArray} {ret : Option FieldType} {vs : List Value} {P' : Option Value → mW → Prop} {C : String}
    (hcv : mCallX own cc pc C y bytes maxL ret na) (hSp : Sp d' y bytes maxL ret (.ref a :: vs) w mc' ms' P' (fun _ _ => False)) (hw : w[a]? = some (mT tx)) (hci : (vwCl[1]?).map (fun q => q.1) = some C) (hna : vs.length = na) (hd' : d' + 1 ≤ d) (hk : k + mc' ≤ mc) (hn : n + ms' ≤ ms) (hcat : (st.map fun v => v.category).sum ≤ 8)
    (kk : ∀ (v : Option Value) (w' : mW), P' v w' → w'.length = w.length → Wp X (k + mc') (n + ms') w' L (v.toList ++ st) (pc + 3)) :
    Wp X k n w L (vs.reverse ++ .ref a :: st) pc := by
  obtain ⟨p, l, e, R, s, m, args, below, meth, c, Q, D, dt, ad, A, nL⟩ := X
  obtain ⟨hx, hb, hml, hown, hts, hlk, htr, hK, hA, hG, hfr, hlo, hcc, hss⟩ := hC
  intro ws H locs ls hp hP hD hS hl
  obtain ⟨idx, hli, hin, hse, hini, hcode, hmh, hpar, hmL, hd⟩ := hcv
  obtain ⟨⟨C9, T9, N9⟩, hc9, hy9⟩ := Option.map_eq_some_iff.mp hci
  have hy9 : C9 = C := hy9
  obtain ⟨sv, hsv, -⟩ := hp.2.2.2.2
  obtain ⟨cap, b, ml, hm9, -⟩ := hsv a tx hw
  obtain ⟨q0, hq⟩ := List.getElem?_of_mem hm9
  have hM := hSp.met htr D dt ad ws H.size hp
  have hF : ∀ q, va_A ws H.size q → A q := fun q h => by
    rcases h with ⟨j, e9, h⟩ | h
    · exact hD.2 j (q, e9) h
    · exact hA q (Nat.le_trans hS.1 h)
  have hst : (vs.reverse ++ Value.ref a :: st).map (trV ad) = (vs.map (trV ad)).reverse ++ .ref (ad a) :: st.map (trV ad) := by
    rw [List.map_append, List.map_reverse]
    rfl
  refine r_runM (P' := P') (a := (Value.ref (ad a) :: vs.map (trV ad)).toArray) ?_ hD hS hA hl kk
  refine va_runV (As := vs.map (trV ad)) (rest := st.map (trV ad)) (C := C) (n := na) (Ts := mGood) ⟨hx, hb, hml, hown, hts⟩ hM ⟨⟨rfl, rfl, by show 20 + d' + 1 ≤ R.frames; omega, by show 8 + (maxL + 11) + (400 + 60 * d') ≤ R.locals; omega, mGood_code hts hcode, List.mem_cons_self, hts _ hcode, hts _ hini, hmh, fun sig h => ?_, hts _ hli⟩, hts _ hin, hse args s hts⟩ ⟨mB_blind, ?_, fun U hU hW => ⟨rfl, by rw [hU], by rw [hU]; exact hP, va_K.moved hW.alike hK, hD.weaken (fun _ _ _ _ => trivial), Gl.call hG hS hU hW hF⟩⟩ rfl (by rw [List.length_map]; exact hna) hl.1 hst (lv_room (cat_tr ad hcat)) hd ⟨by omega, by omega⟩
  · rw [h] at hpar
    exact (Option.some.inj hpar).symm
  · rw [← hy9]
    exact va_recv hK hP hc9 hq
/-- Object's constructor -/
def mObjI (own : String) (cc : ByteArray) (pc : Nat) : Prop := ∃ idx : Nat, Cond.methodLink own idx objectInit ∈ mGood ∧ Cond.instanceMethod objectInit ∈ mGood ∧ Cond.code objectInit ⟨#[0xb1]⟩ 1 none ∈ mGood ∧ decode cc pc = .ok (.invokespecial idx, 3)
theorem r_objI (hC : Cx X own cc d mc ms) {a : Nat} (hf : mObjI own cc pc) (hcat : (st.map fun v => v.category).sum ≤ 8) (kk : Wp X k n w L st (pc + 3)) : Wp X k n w L (.ref a :: st) pc := by
  obtain ⟨p, l, e, R, s, m, args, below, meth, c, Q, D, dt, ad, A, nL⟩ := X
  obtain ⟨hx, hb, hml, hown, hts, hlk, htr, hK, hA, hG, hfr, hlo, hcc, hss⟩ := hC
  intro ws H locs ls hp hP hD hS hl
  obtain ⟨idx, h1, h2, h3, hd⟩ := hf
  have hcat' := cat_tr ad hcat
  exact W.objInit hx hb hown (hts _ h1) (hts _ h2) (hts _ h3) rfl (hl.1.trans hml.symm) rfl hd (by omega) (by show 2 * 0 + _ + 12 ≤ R.locals; omega) (kk ws H locs ls hp hP hD hS hl)
/-- a new builder's two cells are one thing of the world -/
theorem mPic.fold {dt : Nat → ClassId} {ad : Nat → Nat} {w : mW} {ws : va_W} {k cap : Nat} {ml : Int32} {a : Nat → Int32} (hk : k < w.length) (hc : cap ≤ 65536) (hf : sb_Fit a) (h : mPic dt ad ((w ++ [mI 5 cap a]).set k (mO 1 [.ref w.length, .int 0, .int ml, .int 0])) ws) : mPic dt ad (w.set k (mT [])) ws := by
  obtain ⟨h1, h2, h3, h4, sv, h5, h6, h7⟩ := h
  have hlen : ((w ++ [mI 5 cap a]).set k (mO 1 [.ref w.length, .int 0, .int ml, .int 0])).length = w.length + 1 := by rw [List.length_set, List.length_append]; rfl
  have hof : ∀ {i : Nat} {c : mE}, (w.set k (mT []))[i]? = some c → (i = k ∧ c = mT []) ∨ (i ≠ k ∧ ((w ++ [mI 5 cap a]).set k (mO 1 [.ref w.length, .int 0, .int ml, .int 0]))[i]? = some c) := fun {i c} e => by
    by_cases z : k = i
    · subst z
      rw [List.getElem?_set_self hk] at e
      exact Or.inl ⟨rfl, (Option.some.inj e).symm⟩
    · rw [List.getElem?_set_ne z] at e
      refine Or.inr ⟨fun q => z q.symm, ?_⟩
      rw [List.getElem?_set_ne z, List.getElem?_append_left (lt_of_get e)]
      exact e
  have hlast : ((w ++ [mI 5 cap a]).set k (mO 1 [.ref w.length, .int 0, .int ml, .int 0]))[w.length]? = some (mI 5 cap a) := by
    rw [List.getElem?_set_ne (by omega), List.getElem?_append_right (Nat.le_refl _), Nat.sub_self]
    rfl
  have hat : ((w ++ [mI 5 cap a]).set k (mO 1 [.ref w.length, .int 0, .int ml, .int 0]))[k]? = some (mO 1 [.ref w.length, .int 0, .int ml, .int 0]) := List.getElem?_set_self (by rw [List.length_append]; omega)
  refine ⟨fun i t b e => ?_, fun i c fs e => ?_, fun i j hi hj e => ?_, ?_, fun i => if i = k then ad w.length else sv i, fun i tx e => ?_, fun i j x y ei ej e => ?_, fun i j x e hj => ?_⟩
  · rcases hof e with ⟨-, e⟩ | ⟨-, e⟩
    · cases e
    · exact h1 i t b e
  · rcases hof e with ⟨-, e⟩ | ⟨-, e⟩
    · cases e
    · exact h2 i c fs e
  · rw [List.length_set] at hi hj
    exact h3 i j (by omega) (by omega) e
  · rw [List.length_set]; omega
  · rcases hof e with ⟨rfl, e2⟩ | ⟨hik, e⟩
    · cases e2
      refine ⟨cap, a, ml, ?_⟩
      show (ad i, Sum.inr (1, [Value.ref (if i = i then ad w.length else sv i), _, _, _])) ∈ _ ∧ ((if i = i then ad w.length else sv i), _) ∈ _ ∧ _
      rw [if_pos rfl]
      exact ⟨h2 i 1 _ hat, h1 w.length 5 _ hlast, Nat.zero_le _, hc, fun j hj => absurd hj (Nat.not_lt_zero j), hf⟩
    · obtain ⟨cap2, a2, ml2, g⟩ := h5 i tx e
      refine ⟨cap2, a2, ml2, ?_⟩
      show (ad i, Sum.inr (1, [Value.ref (if i = k then ad w.length else sv i), _, _, _])) ∈ _ ∧ ((if i = k then ad w.length else sv i), _) ∈ _ ∧ _
      rw [if_neg hik]
      exact g
  · rcases hof ei with ⟨rfl, -⟩ | ⟨hik, ei2⟩
    · rcases hof ej with ⟨rfl, -⟩ | ⟨hjk, ej2⟩
      · rfl
      · have e : (if i = i then ad w.length else sv i) = (if j = i then ad w.length else sv j) := e
        rw [if_pos rfl, if_neg hjk] at e
        exact absurd e.symm (h7 j w.length y ej2 (by omega))
    · rcases hof ej with ⟨rfl, -⟩ | ⟨hjk, ej2⟩
      · have e : (if i = j then ad w.length else sv i) = (if j = j then ad w.length else sv j) := e
        rw [if_neg hik, if_pos rfl] at e
        exact absurd e (h7 i w.length x ei2 (by omega))
      · have e : (if i = k then ad w.length else sv i) = (if j = k then ad w.length else sv j) := e
        rw [if_neg hik, if_neg hjk] at e
        exact h6 i j x y ei2 ej2 e
  · rw [List.length_set] at hj
    rcases hof e with ⟨rfl, -⟩ | ⟨hik, e⟩
    · show (if i = i then ad w.length else sv i) ≠ ad j
      rw [if_pos rfl]
      exact fun z => by have := h3 w.length j (by omega) (by omega) z; omega
    · show (if i = k then ad w.length else sv i) ≠ ad j
      rw [if_neg hik]
      exact h7 i j x e (by omega)
theorem SpN.foldT {y : MethodName} {nL : Nat} {ret : Option FieldType} {vs : List Value} {k : Nat} (hk : k < w.length) (h : SpN d y cc nL ret vs w mc ms (fun v w' => v = none ∧ ∃ (ml : Int32) (a : Nat → Int32) (cap : Nat), cap ≤ 65536 ∧ sb_Fit a ∧ w' = (w ++ [mI 5 cap a]).set k (mO 1 [.ref w.length, .int 0, .int ml, .int 0]))) : SpN d y cc nL ret vs w mc ms (fun v w' => v = none ∧ w' = w.set k (mT [])) := by
  intro l hl9 D dt ad ws sz hpic
  refine Jvm.Free.MetFree.mono (h l hl9 D dt ad ws sz hpic) (fun _ _ hv => hv) (fun _ _ _ _ _ _ => trivial) (fun args st o t hv hQ => ?_)
  rcases hQ with ⟨⟨⟨ad', v, w', ws', h1, h2, ho, ⟨rfl, ml, a, cap, hc, hf, rfl⟩, hpic', hr⟩, hF⟩, L, hFE, hL⟩ | hX
  · exact Or.inl ⟨⟨⟨ad', none, w.set k (mT []), ws', h1, by rw [List.length_set]; exact Nat.le_refl _, ho, ⟨rfl, rfl⟩, hpic'.fold hk hc hf, hr⟩, hF⟩, L, hFE, hL⟩
  · exact Or.inr hX
-- a builder's methods over texts
theorem lat_cat {tx s : List Nat} {a a' : Nat → Int32} (h : sb_Lat (fun i => tx.getD i 0) tx.length a) (hk : ∀ j, j < tx.length → a' j = a j) (hs : ∀ i, i < s.length → s.getD i 0 < 256 ∧ a' (tx.length + i) = sb_b (s.getD i 0)) : sb_Lat (fun i => (tx ++ s).getD i 0) (tx ++ s).length a' := by
  intro j hj
  rw [List.length_append] at hj
  show (tx ++ s).getD j 0 < 256 ∧ a' j = sb_b ((tx ++ s).getD j 0)
  rcases Nat.lt_or_ge j tx.length with z | z
  · have e : (tx ++ s).getD j 0 = tx.getD j 0 := by
      simp only [List.getD_eq_getElem?_getD, List.getElem?_append_left z]
    rw [e, hk j z]
    exact h j z
  · have e : (tx ++ s).getD j 0 = s.getD (j - tx.length) 0 := by
      simp only [List.getD_eq_getElem?_getD, List.getElem?_append_right z]
    have h2 := hs (j - tx.length) (by omega)
    rw [show tx.length + (j - tx.length) = j by omega] at h2
    rw [e]
    exact h2
theorem capN_le {cap q : Nat} (hq : q ≤ 71) (h : cap < q) : capN cap q ≤ 144 := by
  unfold capN
  have := Nat.max_le.mpr (show q - cap ≤ 73 ∧ cap + 2 ≤ 73 by omega)
  omega
theorem noRefI {v : Int32} : ∀ z : Nat, some (Value.int v) ≠ some (Value.ref z) := fun z h => by cases h
theorem noRefN : ∀ z : Nat, (none : Option Value) ≠ some (Value.ref z) := fun z h => by cases h
theorem st_len {k : Nat} {tx : List Nat} (hk : w[k]? = some (mT tx)) : Sp (d + 1) yJ4_length_8abf5 cJ4_length_8abf5 1 (some .int) [.ref k] w 0 0 (fun v w' => v = some (.int (nI tx.length)) ∧ w' = w) noX := by
  refine Sp.imp (Sp.text (P := fun v tx' => v = some (.int (nI tx.length)) ∧ tx' = tx) hk trivial (fun cap a ml h1 h2 h3 h4 => (Sp.toN (sj_len (d := d))).imp (fun v w' h => ?_))) (fun v w' h => ?_)
  · obtain ⟨rfl, rfl⟩ := h
    exact ⟨tx, ⟨1, cap, a, ml, rfl, rfl, h1, h2, h3, h4⟩, Or.inr noRefI, rfl, rfl⟩
  · obtain ⟨v0, tx', ⟨rfl, rfl⟩, rfl, rfl⟩ := h
    exact ⟨rfl, set_same hk⟩
theorem st_chr {k i : Nat} {tx : List Nat} (hk : w[k]? = some (mT tx)) (hi : i < tx.length) : Sp (d + 3) yJ4_charAt_5068e cJ4_charAt_5068e 2 (some .char) [.ref k, .int (nI i)] w 0 0 (fun v w' => v = some (.int (nI (tx.getD i 0))) ∧ w' = w) noX := by
  refine Sp.imp (Sp.text (P := fun v tx' => v = some (.int (nI (tx.getD i 0))) ∧ tx' = tx) hk ⟨trivial, trivial⟩ (fun cap a ml h1 h2 h3 h4 => (Sp.toN (sj_chr (d := d) h1 h2 h3 hi)).imp (fun v w' h => ?_))) (fun v w' h => ?_)
  · obtain ⟨rfl, rfl⟩ := h
    exact ⟨tx, ⟨1, cap, a, ml, rfl, rfl, h1, h2, h3, h4⟩, Or.inr noRefI, rfl, rfl⟩
  · obtain ⟨v0, tx', ⟨rfl, rfl⟩, rfl, rfl⟩ := h
    exact ⟨rfl, set_same hk⟩
theorem st_set0 {k : Nat} {tx : List Nat} (hk : w[k]? = some (mT tx)) : Sp (d + 2) yJ4_setLength_d00df cJ4_setLength_d00df 2 none [.ref k, .int 0] w 0 0 (fun v w' => v = none ∧ w' = w.set k (mT [])) noX := by
  refine Sp.imp (Sp.text (P := fun v tx' => v = none ∧ tx' = []) hk ⟨trivial, trivial⟩ (fun cap a ml h1 h2 h3 h4 => (Sp.toN (sj_set (d := d) h1 h2)).imp (fun v w' h => ?_))) (fun v w' h => ?_)
  · obtain ⟨rfl, ml', rfl⟩ := h
    exact ⟨[], ⟨1, cap, a, ml', rfl, rfl, Nat.zero_le _, h2, fun j hj => absurd hj (Nat.not_lt_zero j), h4⟩, Or.inr noRefN, rfl, rfl⟩
  · obtain ⟨v0, tx', ⟨rfl, rfl⟩, rfl, rfl⟩ := h
    exact ⟨rfl, rfl⟩
theorem st_app {k c : Nat} {tx : List Nat} (hk : w[k]? = some (mT tx)) (hc : c < 256) (ht : tx.length ≤ 70) : Sp (d + 5) yJ4_append_cf468 cJ4_append_cf468 2 (some (.object "java/lang/StringBuilder")) [.ref k, .int (nI c)] w 1 144 (fun v w' => v = some (.ref k) ∧ w' = w.set k (mT (tx ++ [c]))) noX := by
  refine Sp.imp (Sp.text (P := fun v tx' => v = some (.ref 0) ∧ tx' = tx ++ [c]) hk ⟨trivial, trivial⟩ (fun cap a ml h1 h2 h3 h4 => ?_)) (fun v w' h => ?_)
  · have hl1 : (tx ++ [c]).length = tx.length + 1 := by rw [List.length_append]; rfl
    by_cases hq : tx.length + 1 ≤ cap
    · refine SpN.imp (sj_app4_0 (d := d + 3) (mc := 1) (ms := 144) h1 hc h2 hq) (fun v w' h => ?_)
      obtain ⟨rfl, rfl⟩ := h
      refine ⟨tx ++ [c], ⟨1, cap, _, ml, by rw [hl1]; rfl, rfl, by rw [hl1]; exact hq, h2, lat_cat h3 (fun j hj => pk_un (by omega)) (fun i hi => ?_), sb_fitU h4 (sb_fitB _)⟩, Or.inl rfl, rfl, rfl⟩
      obtain rfl : i = 0 := by simp at hi; exact hi
      exact ⟨hc, pk_us⟩
    · have hcp := capN_le (cap := cap) (q := tx.length + 1) (by omega) (by omega)
      have hge : tx.length + 1 ≤ capN cap (tx.length + 1) := by
        unfold capN
        have := Nat.le_max_left (tx.length + 1 - cap) (cap + 2)
        omega
      refine SpN.imp (sj_app4_1 (d := d) (mc := 1) (ms := 144) h1 hc (by omega) (by omega) h4 (Nat.le_refl 1) hcp) (fun v w' h => ?_)
      obtain ⟨rfl, rfl⟩ := h
      refine ⟨tx ++ [c], ⟨2, _, _, ml, by rw [hl1]; rfl, rfl, by rw [hl1]; exact hge, by omega, lat_cat h3 (fun j hj => ?_) (fun i hi => ?_), sb_fitU (sb_fitC h4 sb_fit0) (sb_fitB _)⟩, Or.inl rfl, rfl, rfl⟩
      · rw [pk_un (by omega)]
        exact sb_cpy0 (by omega)
      · obtain rfl : i = 0 := by simp at hi; exact hi
        exact ⟨hc, pk_us⟩
  · obtain ⟨v0, tx', ⟨rfl, rfl⟩, rfl, rfl⟩ := h
    exact ⟨rfl, rfl⟩
theorem st_api {k v9 : Nat} {tx : List Nat} (hk : w[k]? = some (mT tx)) (hv : v9 < 1000) (ht : tx.length ≤ 67) : Sp (d + 5) yJ4_append_bf812 cJ4_append_bf812 2 (some (.object "java/lang/StringBuilder")) [.ref k, .int (nI v9)] w 1 144 (fun v w' => v = some (.ref k) ∧ w' = w.set k (mT (tx ++ numT v9))) noX := by
  have hl3 := numT_len (v := v9)
  refine Sp.imp (Sp.text (P := fun v tx' => v = some (.ref 0) ∧ tx' = tx ++ numT v9) hk ⟨trivial, trivial⟩ (fun cap a ml h1 h2 h3 h4 => ?_)) (fun v w' h => ?_)
  · have hl1 : (tx ++ numT v9).length = tx.length + (numT v9).length := List.length_append
    by_cases hq : tx.length + (numT v9).length ≤ cap
    · refine SpN.imp (sj_api4_0 (d := d + 3) (mc := 1) (ms := 144) h1 hv h2 hq) (fun v w' h => ?_)
      obtain ⟨rfl, rfl⟩ := h
      exact ⟨tx ++ numT v9, ⟨1, cap, _, ml, by rw [hl1]; rfl, rfl, by rw [hl1]; exact hq, h2, lat_cat h3 (fun j hj => numA_lo hj) (fun i hi => numA_at hv hi), numA_fit h4⟩, Or.inl rfl, rfl, rfl⟩
    · have hcp := capN_le (cap := cap) (q := tx.length + (numT v9).length) (by omega) (by omega)
      have hge : tx.length + (numT v9).length ≤ capN cap (tx.length + (numT v9).length) := by
        unfold capN
        have := Nat.le_max_left (tx.length + (numT v9).length - cap) (cap + 2)
        omega
      refine SpN.imp (sj_api4_1 (d := d) (mc := 1) (ms := 144) h1 hv (by omega) (by omega) h4 (Nat.le_refl 1) hcp) (fun v w' h => ?_)
      obtain ⟨rfl, rfl⟩ := h
      exact ⟨tx ++ numT v9, ⟨2, _, _, ml, by rw [hl1]; rfl, rfl, by rw [hl1]; exact hge, by omega, lat_cat h3 (fun j hj => (numA_lo hj).trans (sb_cpy0 (by omega))) (fun i hi => numA_at hv hi), numA_fit (sb_fitC h4 sb_fit0)⟩, Or.inl rfl, rfl, rfl⟩
  · obtain ⟨v0, tx', ⟨rfl, rfl⟩, rfl, rfl⟩ := h
    exact ⟨rfl, rfl⟩
end CR
