section MW
variable {X : mC} {own : String} {cc : ByteArray} {d mc ms k n pc : Nat} {w : mW} {L L' : List (Nat × Value)} {st : List Value} {n0 : Nat} {P : Option Value → mW → Prop} {PX : String → mW → Prop}
theorem arrV_congr {cA : ClassId} {N : Nat} {f g : Nat → Value} (h : ∀ j, j < N → f j = g j) : arrV cA N f = arrV cA N g := by
  have e : (Array.ofFn (n := N) fun i => f i) = Array.ofFn (n := N) fun i => g i := by
    congr 1
    funext i
    exact h i i.isLt
  simp only [arrV]
  first | rw [e] | (congr 1; first | exact e | (apply Array.ext_getElem?; intro j; simp [h]))
/-- an int array's contents count below its length alone -/
theorem r_arrEq {t a N : Nat} {f f' : Nat → Int32} (hw : w[a]? = some (mI t N f)) (he : ∀ j, j < N → f' j = f j) (kk : Wp X k n (w.set a (mI t N f')) L st pc) : Wp X k n w L st pc := by
  obtain ⟨p, l, e, R, s, m, args, below, meth, c, Q, D, dt, ad, A, nL⟩ := X
  intro ws H locs ls hp hP hD hS hl
  obtain ⟨q0, hq⟩ := List.getElem?_of_mem (hp.1 a t _ hw)
  have h0 := hP q0 _ hq
  have h1 : vp_cell (dt t) (N, .inl f') = vp_cell (dt t) (N, .inl f) := arrV_congr (cA := dt t) (N := N) (f := fun j => .int (f' j)) (g := fun j => .int (f j)) (fun j hj => congrArg Value.int (he j hj))
  have h2 : va_at D vwCl (ad a, .inl (dt t, N, .inl f')) H := by
    show H[ad a]? = some (vp_cell (dt t) (N, .inl f'))
    rw [h1]
    exact h0
  exact kk _ H locs ls (hp.arr (b := (N, .inl f')) hw hq) (hP.set hD hq h2 (fun _ _ => rfl)) (hD.set hq) hS hl
/-- a whole array is copied -/
theorem r_copyAll (hC : Cx X own cc d mc ms) {a b N : Nat} {f g : Nat → Int32} {z : Int32} (hf : mCopyI own cc pc) (ha : w[a]? = some (mI 0 N f)) (hb9 : w[b]? = some (mI 0 N g)) (h3 : ¬ z < 0) (hz : z.toNatClampNeg = N) (hcat : (st.map fun v => v.category).sum ≤ 8)
    (kk : ∀ w1, w1 = w.set b (mI 0 N f) → Wp X k n w1 L st (pc + 3)) : Wp X k n w L (.int z :: .int 0 :: .ref b :: .int 0 :: .ref a :: st) pc := by
  refine r_copy hC hf ha hb9 (by decide) (by decide) h3 (by rw [hz]; show 0 + N ≤ N; omega) (by rw [hz]; show 0 + N ≤ N; omega) hcat ?_
  refine r_arrEq (t := 0) (a := b) (N := N) (f' := f) (List.getElem?_set_self (lt_of_get hb9)) (fun j hj => ?_) ?_
  · rw [hz]
    exact (sb_cpy0 hj).symm
  · rw [List.set_set]
    exact kk _ rfl
theorem r_ldci (hC : Cx X own cc d mc ms) {idx : Nat} {v : Int32} (hd : decode cc pc = .ok (.ldc idx, 2)) (hc : Cond.constant own idx v ∈ mGood) (kk : Wp X k n w L (.int v :: st) (pc + 2)) : Wp X k n w L st pc := by
  obtain ⟨p, l, e, R, s, m, args, below, meth, c, Q, D, dt, ad, A, nL⟩ := X
  obtain ⟨hx, hb, hml, hown, hts, hlk, htr, hK, hA, hG, -⟩ := hC
  intro ws H locs ls hp hP hD hS hl
  exact lv_ldc hx hb hown (hts _ hc) hd (kk ws H locs ls hp hP hD hS hl)
end MW
theorem kc_X4_53 : Cond.constant RX4 53 50000 ∈ mGood := mGood_in (List.mem_of_getElem? (i := 363) (by decide +kernel)) rfl
theorem kc_X7_33 : Cond.constant RX7 33 50000 ∈ mGood := mGood_in (List.mem_of_getElem? (i := 506) (by decide +kernel)) rfl
