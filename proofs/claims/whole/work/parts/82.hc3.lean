section HC3
def CtTo (w w' : mW) (x : Nat) (y : sv) (l : List sv) (ea fa : Int32) (so : Option sv) (tx ln : List Nat) : Prop := CtAt w' x y l ea fa so tx ln ∧ ∀ k, (k < x ∨ x + 88 < k) → w'[k]? = w[k]?
section
variable {w w' w1 w2 : mW} {x : Nat} {y y' z : sv} {l l2 : List sv} {ea fa ea2 fa2 : Int32} {so so2 : Option sv} {tx ln tx2 ln2 : List Nat}
theorem CtTo.rfl (H : CtAt w x y l ea fa so tx ln) : CtTo w w x y l ea fa so tx ln := ⟨H, fun _ _ => Eq.refl _⟩
theorem CtTo.trans (h1 : CtTo w w1 x y l ea fa so tx ln) (h2 : CtTo w1 w2 x y' l2 ea2 fa2 so2 tx2 ln2) : CtTo w w2 x y' l2 ea2 fa2 so2 tx2 ln2 := ⟨h2.1, fun k hk => (h2.2 k hk).trans (h1.2 k hk)⟩
theorem CtAt.frame (H : CtAt w x y l ea fa so tx ln) (h : ∀ k, x ≤ k → k ≤ x + 88 → w'[k]? = w[k]?) : CtAt w' x y l ea fa so tx ln := by
  obtain ⟨ol, hs, yb, ys, hx, q, qn, cn, ps, cs, ho, hY, hB, hS, hA, hT, hX, hL, hHs, hol, hll, hring, hsnap⟩ := H
  exact ⟨ol, hs, yb, ys, hx, q, qn, cn, ps, cs, (h _ (by omega) (by omega)).trans ho, hY.mono (fun k _ _ => h k (by omega) (by omega)), hB.mono (fun k _ _ => h k (by omega) (by omega)), hS.mono (fun k _ _ => h k (by omega) (by omega)), (h _ (by omega) (by omega)).trans hA, hT.mono (fun k _ _ => h k (by omega) (by omega)), hX.mono (fun k _ _ => h k (by omega) (by omega)), (h _ (by omega) (by omega)).trans hL, fun i hi => (hHs i hi).mono (fun k _ _ => h k (by omega) (by omega)), hol, hll, hring, hsnap⟩
theorem CtAt.now (H : CtAt w x y l ea fa so tx ln) (h : StTo w (x + 1) y' w') : CtTo w w' x y' l ea fa so tx ln := by
  obtain ⟨ol, hs, yb, ys, hx, q, qn, cn, ps, cs, ho, hY, hB, hS, hA, hT, hX, hL, hHs, hol, hll, hring, hsnap⟩ := H
  have h := h
  have F := h.2
  exact ⟨⟨ol, hs, yb, ys, hx, q, qn, cn, ps, cs, (F _ (by omega)).trans ho, h.1, hB.mono (fun k _ _ => F k (by omega)), hS.mono (fun k _ _ => F k (by omega)), (F _ (by omega)).trans hA, hT.mono (fun k _ _ => F k (by omega)), hX.mono (fun k _ _ => F k (by omega)), (F _ (by omega)).trans hL, fun i hi => (hHs i hi).mono (fun k _ _ => F k (by omega)), hol, hll, hring, hsnap⟩, fun k hk => F k (by omega)⟩
theorem CtAt.trial (H : CtAt w x y l ea fa so tx ln) (h : ∃ a q n, TrAt w' (x + 20) a q n) (F : ∀ k, (k < x + 20 ∨ x + 20 + 4 < k) → w'[k]? = w[k]?) : CtTo w w' x y l ea fa so tx ln := by
  obtain ⟨ol, hs, yb, ys, hx, q, qn, cn, ps, cs, ho, hY, hB, hS, hA, hT, hX, hL, hHs, hol, hll, hring, hsnap⟩ := H
  obtain ⟨a, q2, n2, h⟩ := h
  exact ⟨⟨ol, hs, yb, ys, a, q2, n2, cn, ps, cs, (F _ (by omega)).trans ho, hY.mono (fun k _ _ => F k (by omega)), hB.mono (fun k _ _ => F k (by omega)), hS.mono (fun k _ _ => F k (by omega)), (F _ (by omega)).trans hA, h, hX.mono (fun k _ _ => F k (by omega)), (F _ (by omega)).trans hL, fun i hi => (hHs i hi).mono (fun k _ _ => F k (by omega)), hol, hll, hring, hsnap⟩, fun k hk => F k (by omega)⟩
theorem CtAt.put {ol n : Nat} {hs : Nat → sv} {yb ys : sv} {hx : hv} {q : Nat → Int32} {qn : Nat} {cn ps : Int32} {cs : Nat → cmdT} {fs : List Value} (h0 : w[x]? = some (mO 9 fs)) (hY : StAt w (x + 1) y) (hB : StAt w (x + 7) yb) (hS : StAt w (x + 13) ys) (hA : w[x + 19]? = some (.inl (3, 8, .inr (.inr (.inr (.inr (hsF x 8))))))) (hT : TrAt w (x + 20) hx q qn) (hX : TxAt w (x + 25) tx cn ps cs) (hL : w[x + 40]? = some (mT ln)) (hHs : ∀ i, i < 8 → StAt w (x + 41 + 6 * i) (hs i)) (hol : ol < 8) (hll : l.length ≤ 8) (hring : ∀ i z, l[i]? = some z → hs ((ol + i) % 8) = z) (hsnap : ∀ z, so = some z → ys = z) (hn : n = l.length)
    (e : w' = w.set x (mO 9 [.ref (x + 1), .ref (x + 7), .ref (x + 13), .int (bI so.isSome), .ref (x + 19), .int (nI ol), .int (nI n), .ref (x + 20), .ref (x + 25), .int ea, .int fa, .ref (x + 40)])) : CtTo w w' x y l ea fa so tx ln := by
  subst hn
  have F : ∀ k, k ≠ x → w'[k]? = w[k]? := fun k hk => by rw [e]; exact List.getElem?_set_ne (Ne.symm hk)
  exact ⟨⟨ol, hs, yb, ys, hx, q, qn, cn, ps, cs, by rw [e]; exact List.getElem?_set_self (lt_of_get h0), hY.mono (fun k _ _ => F k (by omega)), hB.mono (fun k _ _ => F k (by omega)), hS.mono (fun k _ _ => F k (by omega)), (F _ (by omega)).trans hA, hT.mono (fun k _ _ => F k (by omega)), hX.mono (fun k _ _ => F k (by omega)), (F _ (by omega)).trans hL, fun i hi => (hHs i hi).mono (fun k _ _ => F k (by omega)), hol, hll, hring, hsnap⟩, fun k hk => F k (by omega)⟩
end
theorem nI_mod8 : ∀ {a : Nat}, a < 17 → nI a - nI a / 8 * 8 = nI (a % 8) := by decide +kernel
theorem ring_short {hs : Nat → sv} {ol : Nat} {l : List sv} {z : sv} (hol : ol < 8) (hl : l.length < 8) (hr : ∀ i y, l[i]? = some y → hs ((ol + i) % 8) = y) : ∀ i y, (l ++ [z])[i]? = some y → (fun j => if j = (ol + l.length) % 8 then z else hs j) ((ol + i) % 8) = y := by
  intro i y h
  by_cases q : i < l.length
  · rw [List.getElem?_append_left q] at h
    show (if (ol + i) % 8 = (ol + l.length) % 8 then z else hs ((ol + i) % 8)) = y
    rw [if_neg (by omega)]
    exact hr i y h
  · have hi := lt_of_get h
    rw [List.length_append] at hi
    have hi : i < l.length + 1 := hi
    obtain rfl : i = l.length := by omega
    rw [List.getElem?_append_right (Nat.le_refl _), Nat.sub_self] at h
    show (if (ol + l.length) % 8 = (ol + l.length) % 8 then z else hs ((ol + l.length) % 8)) = y
    rw [if_pos (Eq.refl _)]
    exact Option.some.inj h
theorem ring_full {hs : Nat → sv} {ol : Nat} {l : List sv} {z : sv} (hol : ol < 8) (hl : l.length = 8) (hr : ∀ i y, l[i]? = some y → hs ((ol + i) % 8) = y) : ∀ i y, (l.tail ++ [z])[i]? = some y → (fun j => if j = (ol + l.length) % 8 then z else hs j) (((ol + 1) % 8 + i) % 8) = y := by
  intro i y h
  have ht : l.tail.length = 7 := by rw [List.length_tail, hl]
  show (if ((ol + 1) % 8 + i) % 8 = (ol + l.length) % 8 then z else hs (((ol + 1) % 8 + i) % 8)) = y
  by_cases q : i < 7
  · rw [List.getElem?_append_left (by omega), List.getElem?_tail] at h
    rw [if_neg (by omega), show ((ol + 1) % 8 + i) % 8 = (ol + (i + 1)) % 8 by omega]
    exact hr (i + 1) y h
  · have hi := lt_of_get h
    rw [List.length_append, ht] at hi
    have hi : i < 7 + 1 := hi
    obtain rfl : i = 7 := by omega
    rw [List.getElem?_append_right (by omega), ht] at h
    rw [if_pos (by omega)]
    exact Option.some.inj h
set_option maxRecDepth 100000 in
set_option maxHeartbeats 4000000 in
theorem sh_keep {d e : Nat} {w : mW} {x : Nat} {f g : Nat → Int32} {sl op lo : Int32} {hd rs : Nat → Int32} {np : Nat} {tp av lg pl tk : Int32} {l : List sv} {ea fa : Int32} {so : Option sv} {tx ln : List Nat} {f2 g2 : Nat → Int32} {sl2 op2 lo2 : Int32} {hd2 rs2 : Nat → Int32} {np2 : Nat} {tp2 av2 lg2 pl2 tk2 : Int32} (H : CtAt w x ((f, g, sl, op, lo), hd, rs, np, tp, av, lg, pl, tk) l ea fa so tx ln) (he : e = x + 1 ∨ e = x + 7) (hz : StAt w e ((f2, g2, sl2, op2, lo2), hd2, rs2, np2, tp2, av2, lg2, pl2, tk2)) (ho2 : op2 = 0 ∨ op2 = 1) : Sp (d + 2) yX8_keepForUndo cX8_keepForUndo 2 none [.ref x, .ref e] w 0 0 (fun v w' => v = none ∧ CtAt w' x ((f, g, sl, op, lo), hd, rs, np, tp, av, lg, pl, tk) (push8 l ((f2, g2, sl2, op2, lo2), hd2, rs2, np2, tp2, av2, lg2, pl2, tk2)) ea fa so tx ln ∧ ∀ k, ((k < x + 41 ∧ k ≠ x) ∨ x + 88 < k) → w'[k]? = w[k]?) noX := by
  refine Sp.of (by decide +kernel) (Nat.le_of_ble_eq_true rfl) (fun X hC hnl hE hR hN => ?_)
  have hC : Cx X RX8 cX8_keepForUndo (d + 2) 0 0 := hC
  show Wp X 0 0 w [(0, .ref x), (1, .ref e)] [] 0
  obtain ⟨ol, hs, yb, ys, hx, q, qn, cn, ps, cs, ho, hY, hB, hS, hA, hT, hX, hL, hHs, hol, hll, hring, hsnap⟩ := id H
  have hy0 : w[x + 1]? = some (mO 7 [.ref (x + 2), .ref (x + 5), .ref (x + 6), .int (nI np), .int tp, .int av, .int lg, .int pl, .int tk]) := hY.1
  have hh : HillAt w (x + 2) (x + 3) (x + 4) (f, g, sl, op, lo) := hY.2.1
  have hy1 : w[x + 2]? = some (mO 6 [.ref (x + 3), .ref (x + 4), .int sl, .int op, .int lo]) := hh.1
  have hy2 : w[x + 3]? = some (mI 0 26 f) := hh.2.1
  have hy3 : w[x + 4]? = some (mI 0 25 g) := hh.2.2
  have hy4 : w[x + 5]? = some (mI 0 4 hd) := hY.2.2.1
  have hy5 : w[x + 6]? = some (mI 0 4 rs) := hY.2.2.2
  obtain ⟨j, ej⟩ : ∃ j, j = (ol + l.length) % 8 := ⟨_, rfl⟩
  have hj8 : j < 8 := by omega
  refine r_aload_n hC dX8_keepForUndo_0 rfl (j := 0) rfl ?_
  refine r_get hC gX8_keepForUndo_1 ho (v := .ref (x + 19)) rfl ?_
  refine r_aload_n hC dX8_keepForUndo_4 rfl (j := 0) rfl ?_
  refine r_get hC gX8_keepForUndo_5 ho (v := .int (nI ol)) rfl ?_
  refine r_aload_n hC dX8_keepForUndo_8 rfl (j := 0) rfl ?_
  refine r_get hC gX8_keepForUndo_9 ho (v := .int (nI l.length)) rfl ?_
  refine r_iadd hC dX8_keepForUndo_12 ?_
  rw [nI_add ol l.length]
  refine r_bipush hC dX8_keepForUndo_13 (v := 8) (by decide) ?_
  refine r_irem hC dX8_keepForUndo_15 (by decide) ?_
  rw [nI_mod8 (by omega), ← ej]
  refine r_aald hC dX8_keepForUndo_16 (j := j) (b := (x + 41 + 6 * j)) hA (fun _ => rfl) (mIx_nI (by omega) (by decide)) (if_pos hj8) ?_
  refine r_aload_n hC dX8_keepForUndo_17 rfl (j := 1) rfl ?_
  refine r_callV hC (vs := [.ref e]) vX8_keepForUndo_18 (sp_copy (d := d) (hHs j hj8) hz (by omega) ho2) (hHs j hj8).1 rfl rfl (by omega) (by omega) (by omega) (Nat.le_of_ble_eq_true rfl) (fun v_1 w_1 hP_1 hlen_1 => ?_) (fun _ _ h => h.elim)
  rw [hP_1.1]
  have hn_1 : w_1.length = w.length := hlen_1.trans (rfl)
  have F_1 := hP_1.2.2
  have hz_1 := hP_1.2.1
  have ho_1 : w_1[x]? = some (mO 9 [.ref (x + 1), .ref (x + 7), .ref (x + 13), .int (bI so.isSome), .ref (x + 19), .int (nI ol), .int (nI l.length), .ref (x + 20), .ref (x + 25), .int ea, .int fa, .ref (x + 40)]) := (F_1 x (by omega)).trans ho
  show Wp X 0 0 w_1 [(0, .ref x), (1, .ref e)] [] 21
  refine r_aload_n hC dX8_keepForUndo_21 rfl (j := 0) rfl ?_
  refine r_get hC gX8_keepForUndo_22 ho_1 (v := .int (nI l.length)) rfl ?_
  refine r_bipush hC dX8_keepForUndo_25 (v := 8) (by decide) ?_
  refine r_icmp_ge hC dX8_keepForUndo_27 (tgt := 43) (by decide) (fun c27 => ?_) (fun c27 => ?_)
  · refine r_aload_n hC dX8_keepForUndo_43 rfl (j := 0) rfl ?_
    refine r_aload_n hC dX8_keepForUndo_44 rfl (j := 0) rfl ?_
    refine r_get hC gX8_keepForUndo_45 ho_1 (v := .int (nI ol)) rfl ?_
    refine r_iconst hC dX8_keepForUndo_48 (v := 1) (by decide) ?_
    refine r_iadd hC dX8_keepForUndo_49 ?_
    rw [show nI ol + 1 = nI (ol + 1) from (nI_succ _).symm]
    refine r_bipush hC dX8_keepForUndo_50 (v := 8) (by decide) ?_
    refine r_irem hC dX8_keepForUndo_52 (by decide) ?_
    rw [nI_mod8 (by omega)]
    refine r_put' hC pX8_keepForUndo_53 ho_1 (Nat.le_of_ble_eq_true rfl) (fun _ => rfl) (fun _ => rfl) (fun w_2 ew_2 => ?_)
    have hf2_x : w_2[x]? = some (mO 9 [.ref (x + 1), .ref (x + 7), .ref (x + 13), .int (bI so.isSome), .ref (x + 19), .int (nI ((ol + 1) % 8)), .int (nI l.length), .ref (x + 20), .ref (x + 25), .int ea, .int fa, .ref (x + 40)]) := by rw [ew_2]; exact List.getElem?_set_self (lt_of_get ho_1)
    refine r_vret hC hE hR dX8_keepForUndo_56 (by omega) (by omega) (by simp only [ew_2, List.length_set]; exact hn_1) ?_
    have hH_9 : ∀ i, i < 8 → StAt w_1 (x + 41 + 6 * i) ((fun k => if k = (ol + l.length) % 8 then ((f2, g2, sl2, op2, lo2), hd2, rs2, np2, tp2, av2, lg2, pl2, tk2) else hs k) i) := fun i hi => by
      by_cases q9 : i = j
      · subst q9
        show StAt w_1 (x + 41 + 6 * i) (if i = (ol + l.length) % 8 then _ else hs i)
        rw [if_pos ej]
        exact hz_1
      · show StAt w_1 (x + 41 + 6 * i) (if i = (ol + l.length) % 8 then _ else hs i)
        rw [if_neg (by omega)]
        exact (hHs i hi).mono (fun k _ _ => F_1 k (by omega))
    have h8 : l.length = 8 := by
      have := (nI_leI (a := 8) (b := l.length) (by decide) (by omega)).mp c27
      omega
    have e9 : push8 l ((f2, g2, sl2, op2, lo2), hd2, rs2, np2, tp2, av2, lg2, pl2, tk2) = l.tail ++ [((f2, g2, sl2, op2, lo2), hd2, rs2, np2, tp2, av2, lg2, pl2, tk2)] := if_pos h8
    have T9 := CtAt.put (ol := (ol + 1) % 8) ho_1 (hY.mono (fun k _ _ => F_1 k (by omega))) (hB.mono (fun k _ _ => F_1 k (by omega))) (hS.mono (fun k _ _ => F_1 k (by omega))) ((F_1 _ (by omega)).trans hA) (hT.mono (fun k _ _ => F_1 k (by omega))) (hX.mono (fun k _ _ => F_1 k (by omega))) ((F_1 _ (by omega)).trans hL) hH_9 (by omega) (by rw [List.length_append, List.length_tail, h8]; exact Nat.le_refl 8) (ring_full hol h8 hring) hsnap (by rw [List.length_append, List.length_tail, h8]; rfl) ew_2
    exact ⟨rfl, by rw [e9]; exact T9.1, fun k hk => by rw [ew_2, List.getElem?_set_ne (by omega)]; exact F_1 k (by omega)⟩
  · refine r_aload_n hC dX8_keepForUndo_30 rfl (j := 0) rfl ?_
    refine r_dup hC dX8_keepForUndo_31 rfl ?_
    refine r_get hC gX8_keepForUndo_32 ho_1 (v := .int (nI l.length)) rfl ?_
    refine r_iconst hC dX8_keepForUndo_35 (v := 1) (by decide) ?_
    refine r_iadd hC dX8_keepForUndo_36 ?_
    rw [show nI l.length + 1 = nI (l.length + 1) from (nI_succ _).symm]
    refine r_put' hC pX8_keepForUndo_37 ho_1 (Nat.le_of_ble_eq_true rfl) (fun _ => rfl) (fun _ => rfl) (fun w_3 ew_3 => ?_)
    have hf3_x : w_3[x]? = some (mO 9 [.ref (x + 1), .ref (x + 7), .ref (x + 13), .int (bI so.isSome), .ref (x + 19), .int (nI ol), .int (nI (l.length + 1)), .ref (x + 20), .ref (x + 25), .int ea, .int fa, .ref (x + 40)]) := by rw [ew_3]; exact List.getElem?_set_self (lt_of_get ho_1)
    refine r_goto hC dX8_keepForUndo_40 (tgt := 56) (by decide) ?_
    refine r_vret hC hE hR dX8_keepForUndo_56 (by omega) (by omega) (by simp only [ew_3, List.length_set]; exact hn_1) ?_
    have hH_9 : ∀ i, i < 8 → StAt w_1 (x + 41 + 6 * i) ((fun k => if k = (ol + l.length) % 8 then ((f2, g2, sl2, op2, lo2), hd2, rs2, np2, tp2, av2, lg2, pl2, tk2) else hs k) i) := fun i hi => by
      by_cases q9 : i = j
      · subst q9
        show StAt w_1 (x + 41 + 6 * i) (if i = (ol + l.length) % 8 then _ else hs i)
        rw [if_pos ej]
        exact hz_1
      · show StAt w_1 (x + 41 + 6 * i) (if i = (ol + l.length) % 8 then _ else hs i)
        rw [if_neg (by omega)]
        exact (hHs i hi).mono (fun k _ _ => F_1 k (by omega))
    have h8 : l.length < 8 := by
      rcases Nat.lt_or_ge l.length 8 with z9 | z9
      · exact z9
      · exact absurd ((nI_leI (a := 8) (b := l.length) (by decide) (by omega)).mpr z9) c27
    have e9 : push8 l ((f2, g2, sl2, op2, lo2), hd2, rs2, np2, tp2, av2, lg2, pl2, tk2) = l ++ [((f2, g2, sl2, op2, lo2), hd2, rs2, np2, tp2, av2, lg2, pl2, tk2)] := if_neg (by omega)
    have T9 := CtAt.put (ol := ol) ho_1 (hY.mono (fun k _ _ => F_1 k (by omega))) (hB.mono (fun k _ _ => F_1 k (by omega))) (hS.mono (fun k _ _ => F_1 k (by omega))) ((F_1 _ (by omega)).trans hA) (hT.mono (fun k _ _ => F_1 k (by omega))) (hX.mono (fun k _ _ => F_1 k (by omega))) ((F_1 _ (by omega)).trans hL) hH_9 hol (by rw [List.length_append]; exact h8) (ring_short hol h8 hring) hsnap (by rw [List.length_append]; rfl) ew_3
    exact ⟨rfl, by rw [e9]; exact T9.1, fun k hk => by rw [ew_3, List.getElem?_set_ne (by omega)]; exact F_1 k (by omega)⟩
set_option maxRecDepth 100000 in
set_option maxHeartbeats 4000000 in
theorem sh_addPlayer {d : Nat} {n : Int32} {w : mW} {x : Nat} {f g : Nat → Int32} {sl op lo : Int32} {hd rs : Nat → Int32} {np : Nat} {tp av lg pl tk : Int32} {l : List sv} {ea fa : Int32} {so : Option sv} {tx ln : List Nat} (H : CtAt w x ((f, g, sl, op, lo), hd, rs, np, tp, av, lg, pl, tk) l ea fa so tx ln) (hI : SInv ((f, g, sl, op, lo), hd, rs, np, tp, av, lg, pl, tk))  : Sp (d + 4) yX8_addPlayer cX8_addPlayer 2 (some .int) [.ref x, .int n] w 1 6 (fun v w' => fltEntry np n = 1000010 ∧ v = some (.int (nI np)) ∧ CtTo w w' x ((f, g, sl, op, lo), upd hd np n, upd rs np 0, np + 1, (tp, av, lg, pl, tk)) (push8 l ((f, g, sl, op, lo), hd, rs, np, tp, av, lg, pl, tk)) ea fa so tx ln) (fun E w' => E = exOf (fltEntry np n) ∧ w' = w ∧ ¬ fltEntry np n = 1000010) := by
  refine Sp.of (by decide +kernel) (Nat.le_of_ble_eq_true rfl) (fun X hC hnl hE hR hN => ?_)
  have hC : Cx X RX8 cX8_addPlayer (d + 4) 1 6 := hC
  show Wp X 0 0 w [(0, .ref x), (1, .int n)] [] 0
  have hop : op = 0 ∨ op = 1 := hI.1.2.2.1
  have hnp : np ≤ 4 := hI.2.2
  have H9 := H
  obtain ⟨ol, hs, yb, ys, hx, q, qn, cn, ps, cs, ho, hY, hB, hS, hA, hT, hX, hL, hHs, hol, hll, hring, hsnap⟩ := id H
  have hy0 : w[x + 1]? = some (mO 7 [.ref (x + 2), .ref (x + 5), .ref (x + 6), .int (nI np), .int tp, .int av, .int lg, .int pl, .int tk]) := hY.1
  have hh : HillAt w (x + 2) (x + 3) (x + 4) (f, g, sl, op, lo) := hY.2.1
  have hy1 : w[x + 2]? = some (mO 6 [.ref (x + 3), .ref (x + 4), .int sl, .int op, .int lo]) := hh.1
  have hy2 : w[x + 3]? = some (mI 0 26 f) := hh.2.1
  have hy3 : w[x + 4]? = some (mI 0 25 g) := hh.2.2
  have hy4 : w[x + 5]? = some (mI 0 4 hd) := hY.2.2.1
  have hy5 : w[x + 6]? = some (mI 0 4 rs) := hY.2.2.2
  refine r_aload_n hC dX8_addPlayer_0 rfl (j := 0) rfl ?_
  refine r_get hC gX8_addPlayer_1 ho (v := .ref (x + 1)) rfl ?_
  refine r_iload_n hC dX8_addPlayer_4 rfl (j := 1) rfl ?_
  refine r_callV hC (vs := [.int n]) vX8_addPlayer_5 (sp_fltEntry (d := d) (x := n) hY) hy0 rfl rfl (by omega) (by omega) (by omega) (Nat.le_of_ble_eq_true rfl) (fun v_1 w_1 hP_1 hlen_1 => ?_) (fun _ _ h => h.elim)
  rw [hP_1.1, hP_1.2]
  show Wp X 0 0 w [(0, .ref x), (1, .int n)] [.ref (fltEntry np n)] 8
  refine r_callS hC (vs := [.ref (fltEntry np n)]) vX8_addPlayer_8 (sh_thr (d := d) fr_entry) rfl (by omega) (by omega) (by omega) (Nat.le_of_ble_eq_true rfl) (fun v_2 w_2 hP_2 hlen_2 => ?_) (fun E_2 w9_2 hX_2 hl9_2 => r_out hC hE hN (by omega) (by omega) (hl9_2.trans (rfl)) (hX_2))
  rw [hP_2.1, hP_2.2.1]
  have hf := hP_2.2.2
  show Wp X (0 + 1) (0 + 6) w [(0, .ref x), (1, .int n)] [] 11
  refine r_aload_n hC dX8_addPlayer_11 rfl (j := 0) rfl ?_
  refine r_aload_n hC dX8_addPlayer_12 rfl (j := 0) rfl ?_
  refine r_get hC gX8_addPlayer_13 ho (v := .ref (x + 1)) rfl ?_
  refine r_callV hC (vs := [.ref (x + 1)]) vX8_addPlayer_16 (sh_keep (d := d + 1) H9 (Or.inl rfl) hY hop) ho rfl rfl (by omega) (by omega) (by omega) (Nat.le_of_ble_eq_true rfl) (fun v_3 w_3 hP_3 hlen_3 => ?_) (fun _ _ h => h.elim)
  rw [hP_3.1]
  have hn_3 : w_3.length = w.length := hlen_3.trans (rfl)
  have KT_3 : CtTo w w_3 x ((f, g, sl, op, lo), hd, rs, np, tp, av, lg, pl, tk) (push8 l ((f, g, sl, op, lo), hd, rs, np, tp, av, lg, pl, tk)) ea fa so tx ln := ⟨hP_3.2.1, fun k hk => hP_3.2.2 k (by omega)⟩
  have K_3 := hP_3.2.1
  obtain ⟨ol, hs, yb, ys, hx, q, qn, cn, ps, cs, ho, hY, hB, hS, hA, hT, hX, hL, hHs, hol, hll, hring, hsnap⟩ := id K_3
  have hy0 : w_3[x + 1]? = some (mO 7 [.ref (x + 2), .ref (x + 5), .ref (x + 6), .int (nI np), .int tp, .int av, .int lg, .int pl, .int tk]) := hY.1
  have hh : HillAt w_3 (x + 2) (x + 3) (x + 4) (f, g, sl, op, lo) := hY.2.1
  have hy1 : w_3[x + 2]? = some (mO 6 [.ref (x + 3), .ref (x + 4), .int sl, .int op, .int lo]) := hh.1
  have hy2 : w_3[x + 3]? = some (mI 0 26 f) := hh.2.1
  have hy3 : w_3[x + 4]? = some (mI 0 25 g) := hh.2.2
  have hy4 : w_3[x + 5]? = some (mI 0 4 hd) := hY.2.2.1
  have hy5 : w_3[x + 6]? = some (mI 0 4 rs) := hY.2.2.2
  have hnp4 : np < 4 := by
    have := hf
    unfold fltEntry at this
    split at this
    · cases this
    · split at this
      · rename_i z
        exact (nI_ltS (by omega) (by decide)).mp z
      · cases this
  show Wp X (0 + 1) (0 + 6) w_3 [(0, .ref x), (1, .int n)] [] 19
  refine r_aload_n hC dX8_addPlayer_19 rfl (j := 0) rfl ?_
  refine r_get hC gX8_addPlayer_20 ho (v := .ref (x + 1)) rfl ?_
  refine r_iload_n hC dX8_addPlayer_23 rfl (j := 1) rfl ?_
  refine r_callV hC (vs := [.int n]) vX8_addPlayer_24 (sp_enter (d := d) (x := n) hY hnp4) hy0 rfl rfl (by omega) (by omega) (by omega) (Nat.le_of_ble_eq_true rfl) (fun v_4 w_4 hP_4 hlen_4 => ?_) (fun _ _ h => h.elim)
  rw [hP_4.1]
  have hn_4 : w_4.length = w.length := hlen_4.trans (hn_3)
  have T_4 := CtAt.now K_3 hP_4.2
  show Wp X (0 + 1) (0 + 6) w_4 [(0, .ref x), (1, .int n)] [.int (nI np)] 27
  refine r_iret hC hE hR dX8_addPlayer_27 (by omega) (by omega) (hn_4) ?_
  exact ⟨hf, rfl, CtTo.trans KT_3 T_4⟩
set_option maxRecDepth 100000 in
set_option maxHeartbeats 4000000 in
theorem sh_drop {d : Nat} {p : Int32} {c : Int32} {n : Int32} {w : mW} {x : Nat} {f g : Nat → Int32} {sl op lo : Int32} {hd rs : Nat → Int32} {np : Nat} {tp av lg pl tk : Int32} {l : List sv} {ea fa : Int32} {so : Option sv} {tx ln : List Nat} (H : CtAt w x ((f, g, sl, op, lo), hd, rs, np, tp, av, lg, pl, tk) l ea fa so tx ln) (hI : SInv ((f, g, sl, op, lo), hd, rs, np, tp, av, lg, pl, tk))  : Sp (d + 5) yX8_drop cX8_drop 4 (some .int) [.ref x, .int p, .int c, .int n] w 1 6 (fun v w' => fltDrop f hd rs np p c n = 1000010 ∧ v = some (.int (sDropN ((f, g, sl, op, lo), hd, rs, np, (tp, av, lg, pl, tk)) c.toNatClampNeg n (nI p.toNatClampNeg))) ∧ CtTo w w' x (sDrop ((f, g, sl, op, lo), hd, rs, np, (tp, av, lg, pl, tk)) p.toNatClampNeg c.toNatClampNeg n) (push8 l ((f, g, sl, op, lo), hd, rs, np, tp, av, lg, pl, tk)) ea fa so tx ln) (fun E w' => E = exOf (fltDrop f hd rs np p c n) ∧ w' = w ∧ ¬ fltDrop f hd rs np p c n = 1000010) := by
  refine Sp.of (by decide +kernel) (Nat.le_of_ble_eq_true rfl) (fun X hC hnl hE hR hN => ?_)
  have hC : Cx X RX8 cX8_drop (d + 5) 1 6 := hC
  show Wp X 0 0 w [(0, .ref x), (1, .int p), (2, .int c), (3, .int n)] [] 0
  have hop : op = 0 ∨ op = 1 := hI.1.2.2.1
  have hnp : np ≤ 4 := hI.2.2
  have H9 := H
  obtain ⟨ol, hs, yb, ys, hx, q, qn, cn, ps, cs, ho, hY, hB, hS, hA, hT, hX, hL, hHs, hol, hll, hring, hsnap⟩ := id H
  have hy0 : w[x + 1]? = some (mO 7 [.ref (x + 2), .ref (x + 5), .ref (x + 6), .int (nI np), .int tp, .int av, .int lg, .int pl, .int tk]) := hY.1
  have hh : HillAt w (x + 2) (x + 3) (x + 4) (f, g, sl, op, lo) := hY.2.1
  have hy1 : w[x + 2]? = some (mO 6 [.ref (x + 3), .ref (x + 4), .int sl, .int op, .int lo]) := hh.1
  have hy2 : w[x + 3]? = some (mI 0 26 f) := hh.2.1
  have hy3 : w[x + 4]? = some (mI 0 25 g) := hh.2.2
  have hy4 : w[x + 5]? = some (mI 0 4 hd) := hY.2.2.1
  have hy5 : w[x + 6]? = some (mI 0 4 rs) := hY.2.2.2
  refine r_aload_n hC dX8_drop_0 rfl (j := 0) rfl ?_
  refine r_get hC gX8_drop_1 ho (v := .ref (x + 1)) rfl ?_
  refine r_iload_n hC dX8_drop_4 rfl (j := 1) rfl ?_
  refine r_iload_n hC dX8_drop_5 rfl (j := 2) rfl ?_
  refine r_iload_n hC dX8_drop_6 rfl (j := 3) rfl ?_
  refine r_callV hC (vs := [.int p, .int c, .int n]) vX8_drop_7 (sp_fltDrop (d := d) (q := p) (c := c) (x := n) hY hnp) hy0 rfl rfl (by omega) (by omega) (by omega) (Nat.le_of_ble_eq_true rfl) (fun v_1 w_1 hP_1 hlen_1 => ?_) (fun _ _ h => h.elim)
  rw [hP_1.1, hP_1.2]
  show Wp X 0 0 w [(0, .ref x), (1, .int p), (2, .int c), (3, .int n)] [.ref (fltDrop f hd rs np p c n)] 10
  refine r_callS hC (vs := [.ref (fltDrop f hd rs np p c n)]) vX8_drop_10 (sh_thr (d := d) fr_drop) rfl (by omega) (by omega) (by omega) (Nat.le_of_ble_eq_true rfl) (fun v_2 w_2 hP_2 hlen_2 => ?_) (fun E_2 w9_2 hX_2 hl9_2 => r_out hC hE hN (by omega) (by omega) (hl9_2.trans (rfl)) (hX_2))
  rw [hP_2.1, hP_2.2.1]
  have hf := hP_2.2.2
  show Wp X (0 + 1) (0 + 6) w [(0, .ref x), (1, .int p), (2, .int c), (3, .int n)] [] 13
  refine r_aload_n hC dX8_drop_13 rfl (j := 0) rfl ?_
  refine r_aload_n hC dX8_drop_14 rfl (j := 0) rfl ?_
  refine r_get hC gX8_drop_15 ho (v := .ref (x + 1)) rfl ?_
  refine r_callV hC (vs := [.ref (x + 1)]) vX8_drop_18 (sh_keep (d := d + 2) H9 (Or.inl rfl) hY hop) ho rfl rfl (by omega) (by omega) (by omega) (Nat.le_of_ble_eq_true rfl) (fun v_3 w_3 hP_3 hlen_3 => ?_) (fun _ _ h => h.elim)
  rw [hP_3.1]
  have hn_3 : w_3.length = w.length := hlen_3.trans (rfl)
  have KT_3 : CtTo w w_3 x ((f, g, sl, op, lo), hd, rs, np, tp, av, lg, pl, tk) (push8 l ((f, g, sl, op, lo), hd, rs, np, tp, av, lg, pl, tk)) ea fa so tx ln := ⟨hP_3.2.1, fun k hk => hP_3.2.2 k (by omega)⟩
  have K_3 := hP_3.2.1
  obtain ⟨ol, hs, yb, ys, hx, q, qn, cn, ps, cs, ho, hY, hB, hS, hA, hT, hX, hL, hHs, hol, hll, hring, hsnap⟩ := id K_3
  have hy0 : w_3[x + 1]? = some (mO 7 [.ref (x + 2), .ref (x + 5), .ref (x + 6), .int (nI np), .int tp, .int av, .int lg, .int pl, .int tk]) := hY.1
  have hh : HillAt w_3 (x + 2) (x + 3) (x + 4) (f, g, sl, op, lo) := hY.2.1
  have hy1 : w_3[x + 2]? = some (mO 6 [.ref (x + 3), .ref (x + 4), .int sl, .int op, .int lo]) := hh.1
  have hy2 : w_3[x + 3]? = some (mI 0 26 f) := hh.2.1
  have hy3 : w_3[x + 4]? = some (mI 0 25 g) := hh.2.2
  have hy4 : w_3[x + 5]? = some (mI 0 4 hd) := hY.2.2.1
  have hy5 : w_3[x + 6]? = some (mI 0 4 rs) := hY.2.2.2
  have hok := drop_ok hf
  obtain ⟨hc1, hc2⟩ := isC_lt (pile_ok hok.2.1).1
  obtain ⟨hq1, hq2⟩ := isP_lt hok.1 hnp
  show Wp X (0 + 1) (0 + 6) w_3 [(0, .ref x), (1, .int p), (2, .int c), (3, .int n)] [] 21
  refine r_aload_n hC dX8_drop_21 rfl (j := 0) rfl ?_
  refine r_get hC gX8_drop_22 ho (v := .ref (x + 1)) rfl ?_
  refine r_iload_n hC dX8_drop_25 rfl (j := 1) rfl ?_
  refine r_iload_n hC dX8_drop_26 rfl (j := 2) rfl ?_
  refine r_iload_n hC dX8_drop_27 rfl (j := 3) rfl ?_
  rw [show ([.int n, .int c, .int p, .ref (x + 1)] : List Value) = [.int n, .int (nI c.toNatClampNeg), .int (nI p.toNatClampNeg), .ref (x + 1)] from by rw [← hc2, ← hq2]]
  refine r_callV hC (vs := [.int (nI p.toNatClampNeg), .int (nI c.toNatClampNeg), .int n]) vX8_drop_28 (sp_drop (d := d) (x := n) hY hnp (by omega : p.toNatClampNeg < 4) hc1) hy0 rfl rfl (by omega) (by omega) (by omega) (Nat.le_of_ble_eq_true rfl) (fun v_4 w_4 hP_4 hlen_4 => ?_) (fun _ _ h => h.elim)
  rw [hP_4.1]
  have hn_4 : w_4.length = w.length := hlen_4.trans (hn_3)
  have T_4 := CtAt.now K_3 hP_4.2
  show Wp X (0 + 1) (0 + 6) w_4 [(0, .ref x), (1, .int p), (2, .int c), (3, .int n)] [.int (sDropN ((f, g, sl, op, lo), hd, rs, np, (tp, av, lg, pl, tk)) c.toNatClampNeg n (nI p.toNatClampNeg))] 31
  refine r_iret hC hE hR dX8_drop_31 (by omega) (by omega) (hn_4) ?_
  exact ⟨hf, rfl, CtTo.trans KT_3 T_4⟩
set_option maxRecDepth 100000 in
set_option maxHeartbeats 4000000 in
theorem sh_pile {d : Nat} {c : Int32} {n : Int32} {w : mW} {x : Nat} {f g : Nat → Int32} {sl op lo : Int32} {hd rs : Nat → Int32} {np : Nat} {tp av lg pl tk : Int32} {l : List sv} {ea fa : Int32} {so : Option sv} {tx ln : List Nat} (H : CtAt w x ((f, g, sl, op, lo), hd, rs, np, tp, av, lg, pl, tk) l ea fa so tx ln) (hI : SInv ((f, g, sl, op, lo), hd, rs, np, tp, av, lg, pl, tk))  : Sp (d + 5) yX8_pile cX8_pile 3 (some .int) [.ref x, .int c, .int n] w 1 6 (fun v w' => fltPile f c n = 1000010 ∧ v = some (.int (sDropN ((f, g, sl, op, lo), hd, rs, np, (tp, av, lg, pl, tk)) c.toNatClampNeg n (-1))) ∧ CtTo w w' x (sPile ((f, g, sl, op, lo), hd, rs, np, (tp, av, lg, pl, tk)) c.toNatClampNeg n) (push8 l ((f, g, sl, op, lo), hd, rs, np, tp, av, lg, pl, tk)) ea fa so tx ln) (fun E w' => E = exOf (fltPile f c n) ∧ w' = w ∧ ¬ fltPile f c n = 1000010) := by
  refine Sp.of (by decide +kernel) (Nat.le_of_ble_eq_true rfl) (fun X hC hnl hE hR hN => ?_)
  have hC : Cx X RX8 cX8_pile (d + 5) 1 6 := hC
  show Wp X 0 0 w [(0, .ref x), (1, .int c), (2, .int n)] [] 0
  have hop : op = 0 ∨ op = 1 := hI.1.2.2.1
  have hnp : np ≤ 4 := hI.2.2
  have H9 := H
  obtain ⟨ol, hs, yb, ys, hx, q, qn, cn, ps, cs, ho, hY, hB, hS, hA, hT, hX, hL, hHs, hol, hll, hring, hsnap⟩ := id H
  have hy0 : w[x + 1]? = some (mO 7 [.ref (x + 2), .ref (x + 5), .ref (x + 6), .int (nI np), .int tp, .int av, .int lg, .int pl, .int tk]) := hY.1
  have hh : HillAt w (x + 2) (x + 3) (x + 4) (f, g, sl, op, lo) := hY.2.1
  have hy1 : w[x + 2]? = some (mO 6 [.ref (x + 3), .ref (x + 4), .int sl, .int op, .int lo]) := hh.1
  have hy2 : w[x + 3]? = some (mI 0 26 f) := hh.2.1
  have hy3 : w[x + 4]? = some (mI 0 25 g) := hh.2.2
  have hy4 : w[x + 5]? = some (mI 0 4 hd) := hY.2.2.1
  have hy5 : w[x + 6]? = some (mI 0 4 rs) := hY.2.2.2
  refine r_aload_n hC dX8_pile_0 rfl (j := 0) rfl ?_
  refine r_get hC gX8_pile_1 ho (v := .ref (x + 1)) rfl ?_
  refine r_iload_n hC dX8_pile_4 rfl (j := 1) rfl ?_
  refine r_iload_n hC dX8_pile_5 rfl (j := 2) rfl ?_
  refine r_callV hC (vs := [.int c, .int n]) vX8_pile_6 (sp_fltPile (d := d) (c := c) (x := n) hY) hy0 rfl rfl (by omega) (by omega) (by omega) (Nat.le_of_ble_eq_true rfl) (fun v_1 w_1 hP_1 hlen_1 => ?_) (fun _ _ h => h.elim)
  rw [hP_1.1, hP_1.2]
  show Wp X 0 0 w [(0, .ref x), (1, .int c), (2, .int n)] [.ref (fltPile f c n)] 9
  refine r_callS hC (vs := [.ref (fltPile f c n)]) vX8_pile_9 (sh_thr (d := d) fr_pile) rfl (by omega) (by omega) (by omega) (Nat.le_of_ble_eq_true rfl) (fun v_2 w_2 hP_2 hlen_2 => ?_) (fun E_2 w9_2 hX_2 hl9_2 => r_out hC hE hN (by omega) (by omega) (hl9_2.trans (rfl)) (hX_2))
  rw [hP_2.1, hP_2.2.1]
  have hf := hP_2.2.2
  show Wp X (0 + 1) (0 + 6) w [(0, .ref x), (1, .int c), (2, .int n)] [] 12
  refine r_aload_n hC dX8_pile_12 rfl (j := 0) rfl ?_
  refine r_aload_n hC dX8_pile_13 rfl (j := 0) rfl ?_
  refine r_get hC gX8_pile_14 ho (v := .ref (x + 1)) rfl ?_
  refine r_callV hC (vs := [.ref (x + 1)]) vX8_pile_17 (sh_keep (d := d + 2) H9 (Or.inl rfl) hY hop) ho rfl rfl (by omega) (by omega) (by omega) (Nat.le_of_ble_eq_true rfl) (fun v_3 w_3 hP_3 hlen_3 => ?_) (fun _ _ h => h.elim)
  rw [hP_3.1]
  have hn_3 : w_3.length = w.length := hlen_3.trans (rfl)
  have KT_3 : CtTo w w_3 x ((f, g, sl, op, lo), hd, rs, np, tp, av, lg, pl, tk) (push8 l ((f, g, sl, op, lo), hd, rs, np, tp, av, lg, pl, tk)) ea fa so tx ln := ⟨hP_3.2.1, fun k hk => hP_3.2.2 k (by omega)⟩
  have K_3 := hP_3.2.1
  obtain ⟨ol, hs, yb, ys, hx, q, qn, cn, ps, cs, ho, hY, hB, hS, hA, hT, hX, hL, hHs, hol, hll, hring, hsnap⟩ := id K_3
  have hy0 : w_3[x + 1]? = some (mO 7 [.ref (x + 2), .ref (x + 5), .ref (x + 6), .int (nI np), .int tp, .int av, .int lg, .int pl, .int tk]) := hY.1
  have hh : HillAt w_3 (x + 2) (x + 3) (x + 4) (f, g, sl, op, lo) := hY.2.1
  have hy1 : w_3[x + 2]? = some (mO 6 [.ref (x + 3), .ref (x + 4), .int sl, .int op, .int lo]) := hh.1
  have hy2 : w_3[x + 3]? = some (mI 0 26 f) := hh.2.1
  have hy3 : w_3[x + 4]? = some (mI 0 25 g) := hh.2.2
  have hy4 : w_3[x + 5]? = some (mI 0 4 hd) := hY.2.2.1
  have hy5 : w_3[x + 6]? = some (mI 0 4 rs) := hY.2.2.2
  obtain ⟨hc1, hc2⟩ := isC_lt (pile_ok hf).1
  show Wp X (0 + 1) (0 + 6) w_3 [(0, .ref x), (1, .int c), (2, .int n)] [] 20
  refine r_aload_n hC dX8_pile_20 rfl (j := 0) rfl ?_
  refine r_get hC gX8_pile_21 ho (v := .ref (x + 1)) rfl ?_
  refine r_iload_n hC dX8_pile_24 rfl (j := 1) rfl ?_
  refine r_iload_n hC dX8_pile_25 rfl (j := 2) rfl ?_
  rw [show ([.int n, .int c, .ref (x + 1)] : List Value) = [.int n, .int (nI c.toNatClampNeg), .ref (x + 1)] from by rw [← hc2]]
  refine r_callV hC (vs := [.int (nI c.toNatClampNeg), .int n]) vX8_pile_26 (sp_pile (d := d) (x := n) hY hc1) hy0 rfl rfl (by omega) (by omega) (by omega) (Nat.le_of_ble_eq_true rfl) (fun v_4 w_4 hP_4 hlen_4 => ?_) (fun _ _ h => h.elim)
  rw [hP_4.1]
  have hn_4 : w_4.length = w.length := hlen_4.trans (hn_3)
  have T_4 := CtAt.now K_3 hP_4.2
  show Wp X (0 + 1) (0 + 6) w_4 [(0, .ref x), (1, .int c), (2, .int n)] [.int (sDropN ((f, g, sl, op, lo), hd, rs, np, (tp, av, lg, pl, tk)) c.toNatClampNeg n (-1))] 29
  refine r_iret hC hE hR dX8_pile_29 (by omega) (by omega) (hn_4) ?_
  exact ⟨hf, rfl, CtTo.trans KT_3 T_4⟩
set_option maxRecDepth 100000 in
set_option maxHeartbeats 4000000 in
theorem sh_take {d : Nat} {p : Int32} {c : Int32} {w : mW} {x : Nat} {f g : Nat → Int32} {sl op lo : Int32} {hd rs : Nat → Int32} {np : Nat} {tp av lg pl tk : Int32} {l : List sv} {ea fa : Int32} {so : Option sv} {tx ln : List Nat} (H : CtAt w x ((f, g, sl, op, lo), hd, rs, np, tp, av, lg, pl, tk) l ea fa so tx ln) (hI : SInv ((f, g, sl, op, lo), hd, rs, np, tp, av, lg, pl, tk))  : Sp (d + 5) yX8_take cX8_take 3 (some .int) [.ref x, .int p, .int c] w 1 6 (fun v w' => fltTake f g np p c = 1000010 ∧ v = some (.int (nI (hRestF (hRem (f, g, sl, op, lo) c.toNatClampNeg)).1)) ∧ CtTo w w' x (sTake ((f, g, sl, op, lo), hd, rs, np, (tp, av, lg, pl, tk)) p.toNatClampNeg c.toNatClampNeg) (push8 l ((f, g, sl, op, lo), hd, rs, np, tp, av, lg, pl, tk)) ea fa so tx ln) (fun E w' => E = exOf (fltTake f g np p c) ∧ w' = w ∧ ¬ fltTake f g np p c = 1000010) := by
  refine Sp.of (by decide +kernel) (Nat.le_of_ble_eq_true rfl) (fun X hC hnl hE hR hN => ?_)
  have hC : Cx X RX8 cX8_take (d + 5) 1 6 := hC
  show Wp X 0 0 w [(0, .ref x), (1, .int p), (2, .int c)] [] 0
  have hop : op = 0 ∨ op = 1 := hI.1.2.2.1
  have hnp : np ≤ 4 := hI.2.2
  have H9 := H
  obtain ⟨ol, hs, yb, ys, hx, q, qn, cn, ps, cs, ho, hY, hB, hS, hA, hT, hX, hL, hHs, hol, hll, hring, hsnap⟩ := id H
  have hy0 : w[x + 1]? = some (mO 7 [.ref (x + 2), .ref (x + 5), .ref (x + 6), .int (nI np), .int tp, .int av, .int lg, .int pl, .int tk]) := hY.1
  have hh : HillAt w (x + 2) (x + 3) (x + 4) (f, g, sl, op, lo) := hY.2.1
  have hy1 : w[x + 2]? = some (mO 6 [.ref (x + 3), .ref (x + 4), .int sl, .int op, .int lo]) := hh.1
  have hy2 : w[x + 3]? = some (mI 0 26 f) := hh.2.1
  have hy3 : w[x + 4]? = some (mI 0 25 g) := hh.2.2
  have hy4 : w[x + 5]? = some (mI 0 4 hd) := hY.2.2.1
  have hy5 : w[x + 6]? = some (mI 0 4 rs) := hY.2.2.2
  refine r_aload_n hC dX8_take_0 rfl (j := 0) rfl ?_
  refine r_get hC gX8_take_1 ho (v := .ref (x + 1)) rfl ?_
  refine r_iload_n hC dX8_take_4 rfl (j := 1) rfl ?_
  refine r_iload_n hC dX8_take_5 rfl (j := 2) rfl ?_
  refine r_callV hC (vs := [.int p, .int c]) vX8_take_6 (sp_fltTake (d := d) (q := p) (c := c) hY) hy0 rfl rfl (by omega) (by omega) (by omega) (Nat.le_of_ble_eq_true rfl) (fun v_1 w_1 hP_1 hlen_1 => ?_) (fun _ _ h => h.elim)
  rw [hP_1.1, hP_1.2]
  show Wp X 0 0 w [(0, .ref x), (1, .int p), (2, .int c)] [.ref (fltTake f g np p c)] 9
  refine r_callS hC (vs := [.ref (fltTake f g np p c)]) vX8_take_9 (sh_thr (d := d) fr_take) rfl (by omega) (by omega) (by omega) (Nat.le_of_ble_eq_true rfl) (fun v_2 w_2 hP_2 hlen_2 => ?_) (fun E_2 w9_2 hX_2 hl9_2 => r_out hC hE hN (by omega) (by omega) (hl9_2.trans (rfl)) (hX_2))
  rw [hP_2.1, hP_2.2.1]
  have hf := hP_2.2.2
  show Wp X (0 + 1) (0 + 6) w [(0, .ref x), (1, .int p), (2, .int c)] [] 12
  refine r_aload_n hC dX8_take_12 rfl (j := 0) rfl ?_
  refine r_aload_n hC dX8_take_13 rfl (j := 0) rfl ?_
  refine r_get hC gX8_take_14 ho (v := .ref (x + 1)) rfl ?_
  refine r_callV hC (vs := [.ref (x + 1)]) vX8_take_17 (sh_keep (d := d + 2) H9 (Or.inl rfl) hY hop) ho rfl rfl (by omega) (by omega) (by omega) (Nat.le_of_ble_eq_true rfl) (fun v_3 w_3 hP_3 hlen_3 => ?_) (fun _ _ h => h.elim)
  rw [hP_3.1]
  have hn_3 : w_3.length = w.length := hlen_3.trans (rfl)
  have KT_3 : CtTo w w_3 x ((f, g, sl, op, lo), hd, rs, np, tp, av, lg, pl, tk) (push8 l ((f, g, sl, op, lo), hd, rs, np, tp, av, lg, pl, tk)) ea fa so tx ln := ⟨hP_3.2.1, fun k hk => hP_3.2.2 k (by omega)⟩
  have K_3 := hP_3.2.1
  obtain ⟨ol, hs, yb, ys, hx, q, qn, cn, ps, cs, ho, hY, hB, hS, hA, hT, hX, hL, hHs, hol, hll, hring, hsnap⟩ := id K_3
  have hy0 : w_3[x + 1]? = some (mO 7 [.ref (x + 2), .ref (x + 5), .ref (x + 6), .int (nI np), .int tp, .int av, .int lg, .int pl, .int tk]) := hY.1
  have hh : HillAt w_3 (x + 2) (x + 3) (x + 4) (f, g, sl, op, lo) := hY.2.1
  have hy1 : w_3[x + 2]? = some (mO 6 [.ref (x + 3), .ref (x + 4), .int sl, .int op, .int lo]) := hh.1
  have hy2 : w_3[x + 3]? = some (mI 0 26 f) := hh.2.1
  have hy3 : w_3[x + 4]? = some (mI 0 25 g) := hh.2.2
  have hy4 : w_3[x + 5]? = some (mI 0 4 hd) := hY.2.2.1
  have hy5 : w_3[x + 6]? = some (mI 0 4 rs) := hY.2.2.2
  have hok := take_ok hf
  obtain ⟨hc1, hc2⟩ := isC_lt hok.2.1
  obtain ⟨hq1, hq2⟩ := isP_lt hok.1 hnp
  show Wp X (0 + 1) (0 + 6) w_3 [(0, .ref x), (1, .int p), (2, .int c)] [] 20
  refine r_aload_n hC dX8_take_20 rfl (j := 0) rfl ?_
  refine r_get hC gX8_take_21 ho (v := .ref (x + 1)) rfl ?_
  refine r_iload_n hC dX8_take_24 rfl (j := 1) rfl ?_
  refine r_iload_n hC dX8_take_25 rfl (j := 2) rfl ?_
  rw [show ([.int c, .int p, .ref (x + 1)] : List Value) = [.int (nI c.toNatClampNeg), .int (nI p.toNatClampNeg), .ref (x + 1)] from by rw [← hc2, ← hq2]]
  refine r_callV hC (vs := [.int (nI p.toNatClampNeg), .int (nI c.toNatClampNeg)]) vX8_take_26 (sp_take (d := d) hY (by omega : p.toNatClampNeg < 4) hc1) hy0 rfl rfl (by omega) (by omega) (by omega) (Nat.le_of_ble_eq_true rfl) (fun v_4 w_4 hP_4 hlen_4 => ?_) (fun _ _ h => h.elim)
  rw [hP_4.1]
  have hn_4 : w_4.length = w.length := hlen_4.trans (hn_3)
  have T_4 := CtAt.now K_3 hP_4.2
  show Wp X (0 + 1) (0 + 6) w_4 [(0, .ref x), (1, .int p), (2, .int c)] [.int (nI (hRestF (hRem (f, g, sl, op, lo) c.toNatClampNeg)).1)] 29
  refine r_iret hC hE hR dX8_take_29 (by omega) (by omega) (hn_4) ?_
  exact ⟨hf, rfl, CtTo.trans KT_3 T_4⟩
set_option maxRecDepth 100000 in
set_option maxHeartbeats 4000000 in
theorem sh_setSlope {d : Nat} {n : Int32} {w : mW} {x : Nat} {f g : Nat → Int32} {sl op lo : Int32} {hd rs : Nat → Int32} {np : Nat} {tp av lg pl tk : Int32} {l : List sv} {ea fa : Int32} {so : Option sv} {tx ln : List Nat} (H : CtAt w x ((f, g, sl, op, lo), hd, rs, np, tp, av, lg, pl, tk) l ea fa so tx ln) (hI : SInv ((f, g, sl, op, lo), hd, rs, np, tp, av, lg, pl, tk))  : Sp (d + 5) yX8_setSlope cX8_setSlope 2 (some .int) [.ref x, .int n] w 1 6 (fun v w' => fltSlope n = 1000010 ∧ v = some (.int (nI (hRestF (f, g, n, op, lo)).1)) ∧ CtTo w w' x (sSlope ((f, g, sl, op, lo), hd, rs, np, (tp, av, lg, pl, tk)) n) (push8 l ((f, g, sl, op, lo), hd, rs, np, tp, av, lg, pl, tk)) ea fa so tx ln) (fun E w' => E = exOf (fltSlope n) ∧ w' = w ∧ ¬ fltSlope n = 1000010) := by
  refine Sp.of (by decide +kernel) (Nat.le_of_ble_eq_true rfl) (fun X hC hnl hE hR hN => ?_)
  have hC : Cx X RX8 cX8_setSlope (d + 5) 1 6 := hC
  show Wp X 0 0 w [(0, .ref x), (1, .int n)] [] 0
  have hop : op = 0 ∨ op = 1 := hI.1.2.2.1
  have hnp : np ≤ 4 := hI.2.2
  have H9 := H
  obtain ⟨ol, hs, yb, ys, hx, q, qn, cn, ps, cs, ho, hY, hB, hS, hA, hT, hX, hL, hHs, hol, hll, hring, hsnap⟩ := id H
  have hy0 : w[x + 1]? = some (mO 7 [.ref (x + 2), .ref (x + 5), .ref (x + 6), .int (nI np), .int tp, .int av, .int lg, .int pl, .int tk]) := hY.1
  have hh : HillAt w (x + 2) (x + 3) (x + 4) (f, g, sl, op, lo) := hY.2.1
  have hy1 : w[x + 2]? = some (mO 6 [.ref (x + 3), .ref (x + 4), .int sl, .int op, .int lo]) := hh.1
  have hy2 : w[x + 3]? = some (mI 0 26 f) := hh.2.1
  have hy3 : w[x + 4]? = some (mI 0 25 g) := hh.2.2
  have hy4 : w[x + 5]? = some (mI 0 4 hd) := hY.2.2.1
  have hy5 : w[x + 6]? = some (mI 0 4 rs) := hY.2.2.2
  refine r_aload_n hC dX8_setSlope_0 rfl (j := 0) rfl ?_
  refine r_get hC gX8_setSlope_1 ho (v := .ref (x + 1)) rfl ?_
  refine r_iload_n hC dX8_setSlope_4 rfl (j := 1) rfl ?_
  refine r_callV hC (vs := [.int n]) vX8_setSlope_5 (sp_fltSlope (d := d) (x := n) hY) hy0 rfl rfl (by omega) (by omega) (by omega) (Nat.le_of_ble_eq_true rfl) (fun v_1 w_1 hP_1 hlen_1 => ?_) (fun _ _ h => h.elim)
  rw [hP_1.1, hP_1.2]
  show Wp X 0 0 w [(0, .ref x), (1, .int n)] [.ref (fltSlope n)] 8
  refine r_callS hC (vs := [.ref (fltSlope n)]) vX8_setSlope_8 (sh_thr (d := d) fr_slope) rfl (by omega) (by omega) (by omega) (Nat.le_of_ble_eq_true rfl) (fun v_2 w_2 hP_2 hlen_2 => ?_) (fun E_2 w9_2 hX_2 hl9_2 => r_out hC hE hN (by omega) (by omega) (hl9_2.trans (rfl)) (hX_2))
  rw [hP_2.1, hP_2.2.1]
  have hf := hP_2.2.2
  show Wp X (0 + 1) (0 + 6) w [(0, .ref x), (1, .int n)] [] 11
  refine r_aload_n hC dX8_setSlope_11 rfl (j := 0) rfl ?_
  refine r_aload_n hC dX8_setSlope_12 rfl (j := 0) rfl ?_
  refine r_get hC gX8_setSlope_13 ho (v := .ref (x + 1)) rfl ?_
  refine r_callV hC (vs := [.ref (x + 1)]) vX8_setSlope_16 (sh_keep (d := d + 2) H9 (Or.inl rfl) hY hop) ho rfl rfl (by omega) (by omega) (by omega) (Nat.le_of_ble_eq_true rfl) (fun v_3 w_3 hP_3 hlen_3 => ?_) (fun _ _ h => h.elim)
  rw [hP_3.1]
  have hn_3 : w_3.length = w.length := hlen_3.trans (rfl)
  have KT_3 : CtTo w w_3 x ((f, g, sl, op, lo), hd, rs, np, tp, av, lg, pl, tk) (push8 l ((f, g, sl, op, lo), hd, rs, np, tp, av, lg, pl, tk)) ea fa so tx ln := ⟨hP_3.2.1, fun k hk => hP_3.2.2 k (by omega)⟩
  have K_3 := hP_3.2.1
  obtain ⟨ol, hs, yb, ys, hx, q, qn, cn, ps, cs, ho, hY, hB, hS, hA, hT, hX, hL, hHs, hol, hll, hring, hsnap⟩ := id K_3
  have hy0 : w_3[x + 1]? = some (mO 7 [.ref (x + 2), .ref (x + 5), .ref (x + 6), .int (nI np), .int tp, .int av, .int lg, .int pl, .int tk]) := hY.1
  have hh : HillAt w_3 (x + 2) (x + 3) (x + 4) (f, g, sl, op, lo) := hY.2.1
  have hy1 : w_3[x + 2]? = some (mO 6 [.ref (x + 3), .ref (x + 4), .int sl, .int op, .int lo]) := hh.1
  have hy2 : w_3[x + 3]? = some (mI 0 26 f) := hh.2.1
  have hy3 : w_3[x + 4]? = some (mI 0 25 g) := hh.2.2
  have hy4 : w_3[x + 5]? = some (mI 0 4 hd) := hY.2.2.1
  have hy5 : w_3[x + 6]? = some (mI 0 4 rs) := hY.2.2.2
  show Wp X (0 + 1) (0 + 6) w_3 [(0, .ref x), (1, .int n)] [] 19
  refine r_aload_n hC dX8_setSlope_19 rfl (j := 0) rfl ?_
  refine r_get hC gX8_setSlope_20 ho (v := .ref (x + 1)) rfl ?_
  refine r_iload_n hC dX8_setSlope_23 rfl (j := 1) rfl ?_
  refine r_callV hC (vs := [.int n]) vX8_setSlope_24 (sp_slope (d := d) (x := n) hY) hy0 rfl rfl (by omega) (by omega) (by omega) (Nat.le_of_ble_eq_true rfl) (fun v_4 w_4 hP_4 hlen_4 => ?_) (fun _ _ h => h.elim)
  rw [hP_4.1]
  have hn_4 : w_4.length = w.length := hlen_4.trans (hn_3)
  have T_4 := CtAt.now K_3 hP_4.2
  show Wp X (0 + 1) (0 + 6) w_4 [(0, .ref x), (1, .int n)] [.int (nI (hRestF (f, g, n, op, lo)).1)] 27
  refine r_iret hC hE hR dX8_setSlope_27 (by omega) (by omega) (hn_4) ?_
  exact ⟨hf, rfl, CtTo.trans KT_3 T_4⟩
set_option maxRecDepth 100000 in
set_option maxHeartbeats 4000000 in
theorem sh_skip {d : Nat}  {w : mW} {x : Nat} {f g : Nat → Int32} {sl op lo : Int32} {hd rs : Nat → Int32} {np : Nat} {tp av lg pl tk : Int32} {l : List sv} {ea fa : Int32} {so : Option sv} {tx ln : List Nat} (H : CtAt w x ((f, g, sl, op, lo), hd, rs, np, tp, av, lg, pl, tk) l ea fa so tx ln) (hI : SInv ((f, g, sl, op, lo), hd, rs, np, tp, av, lg, pl, tk))  : Sp (d + 4) yX8_skip cX8_skip 1 (some .int) [.ref x] w 0 0 (fun v w' => v = some (.int (hCnt (fun j => !decide (sPass rs (-1) np j ≤ 0)) np)) ∧ CtTo w w' x ((f, g, sl, op, lo), hd, sPass rs (-1) np, np, (tp, av, lg, pl, tk)) (push8 l ((f, g, sl, op, lo), hd, rs, np, tp, av, lg, pl, tk)) ea fa so tx ln) noX := by
  refine Sp.of (by decide +kernel) (Nat.le_of_ble_eq_true rfl) (fun X hC hnl hE hR hN => ?_)
  have hC : Cx X RX8 cX8_skip (d + 4) 0 0 := hC
  show Wp X 0 0 w [(0, .ref x)] [] 0
  have hop : op = 0 ∨ op = 1 := hI.1.2.2.1
  have hnp : np ≤ 4 := hI.2.2
  have H9 := H
  obtain ⟨ol, hs, yb, ys, hx, q, qn, cn, ps, cs, ho, hY, hB, hS, hA, hT, hX, hL, hHs, hol, hll, hring, hsnap⟩ := id H
  have hy0 : w[x + 1]? = some (mO 7 [.ref (x + 2), .ref (x + 5), .ref (x + 6), .int (nI np), .int tp, .int av, .int lg, .int pl, .int tk]) := hY.1
  have hh : HillAt w (x + 2) (x + 3) (x + 4) (f, g, sl, op, lo) := hY.2.1
  have hy1 : w[x + 2]? = some (mO 6 [.ref (x + 3), .ref (x + 4), .int sl, .int op, .int lo]) := hh.1
  have hy2 : w[x + 3]? = some (mI 0 26 f) := hh.2.1
  have hy3 : w[x + 4]? = some (mI 0 25 g) := hh.2.2
  have hy4 : w[x + 5]? = some (mI 0 4 hd) := hY.2.2.1
  have hy5 : w[x + 6]? = some (mI 0 4 rs) := hY.2.2.2
  refine r_aload_n hC dX8_skip_0 rfl (j := 0) rfl ?_
  refine r_aload_n hC dX8_skip_1 rfl (j := 0) rfl ?_
  refine r_get hC gX8_skip_2 ho (v := .ref (x + 1)) rfl ?_
  refine r_callV hC (vs := [.ref (x + 1)]) vX8_skip_5 (sh_keep (d := d + 1) H9 (Or.inl rfl) hY hop) ho rfl rfl (by omega) (by omega) (by omega) (Nat.le_of_ble_eq_true rfl) (fun v_1 w_1 hP_1 hlen_1 => ?_) (fun _ _ h => h.elim)
  rw [hP_1.1]
  have hn_1 : w_1.length = w.length := hlen_1.trans (rfl)
  have KT_1 : CtTo w w_1 x ((f, g, sl, op, lo), hd, rs, np, tp, av, lg, pl, tk) (push8 l ((f, g, sl, op, lo), hd, rs, np, tp, av, lg, pl, tk)) ea fa so tx ln := ⟨hP_1.2.1, fun k hk => hP_1.2.2 k (by omega)⟩
  have K_1 := hP_1.2.1
  obtain ⟨ol, hs, yb, ys, hx, q, qn, cn, ps, cs, ho, hY, hB, hS, hA, hT, hX, hL, hHs, hol, hll, hring, hsnap⟩ := id K_1
  have hy0 : w_1[x + 1]? = some (mO 7 [.ref (x + 2), .ref (x + 5), .ref (x + 6), .int (nI np), .int tp, .int av, .int lg, .int pl, .int tk]) := hY.1
  have hh : HillAt w_1 (x + 2) (x + 3) (x + 4) (f, g, sl, op, lo) := hY.2.1
  have hy1 : w_1[x + 2]? = some (mO 6 [.ref (x + 3), .ref (x + 4), .int sl, .int op, .int lo]) := hh.1
  have hy2 : w_1[x + 3]? = some (mI 0 26 f) := hh.2.1
  have hy3 : w_1[x + 4]? = some (mI 0 25 g) := hh.2.2
  have hy4 : w_1[x + 5]? = some (mI 0 4 hd) := hY.2.2.1
  have hy5 : w_1[x + 6]? = some (mI 0 4 rs) := hY.2.2.2
  show Wp X 0 0 w_1 [(0, .ref x)] [] 8
  refine r_aload_n hC dX8_skip_8 rfl (j := 0) rfl ?_
  refine r_get hC gX8_skip_9 ho (v := .ref (x + 1)) rfl ?_
  refine r_iconst hC dX8_skip_12 (v := (-1)) (by decide) ?_
  refine r_callV hC (vs := [.int (-1)]) vX8_skip_13 (sp_pass (d := d) (ex := -1) hY hnp) hy0 rfl rfl (by omega) (by omega) (by omega) (Nat.le_of_ble_eq_true rfl) (fun v_2 w_2 hP_2 hlen_2 => ?_) (fun _ _ h => h.elim)
  rw [hP_2.1]
  have hn_2 : w_2.length = w.length := hlen_2.trans (hn_1)
  have T_2 := CtAt.now K_1 hP_2.2
  have hY9 := T_2.1
  obtain ⟨ol, hs, yb, ys, hx, q, qn, cn, ps, cs, ho, hY, -⟩ := id T_2.1
  show Wp X 0 0 w_2 [(0, .ref x)] [] 16
  refine r_aload_n hC dX8_skip_16 rfl (j := 0) rfl ?_
  refine r_get hC gX8_skip_17 ho (v := .ref (x + 1)) rfl ?_
  refine r_callV hC (vs := []) vX8_skip_20 (sp_resting (d := d) hY hnp) hY.1 rfl rfl (by omega) (by omega) (by omega) (Nat.le_of_ble_eq_true rfl) (fun v_3 w_3 hP_3 hlen_3 => ?_) (fun _ _ h => h.elim)
  rw [hP_3.1, hP_3.2]
  show Wp X 0 0 w_2 [(0, .ref x)] [.int (hCnt (fun j => !decide (sPass rs (-1) np j ≤ 0)) np)] 23
  refine r_iret hC hE hR dX8_skip_23 (by omega) (by omega) (hn_2) ?_
  exact ⟨rfl, CtTo.trans KT_1 T_2⟩
set_option maxRecDepth 100000 in
set_option maxHeartbeats 4000000 in
theorem sh_setBorder {d : Nat} {n : Int32} {w : mW} {x : Nat} {f g : Nat → Int32} {sl op lo : Int32} {hd rs : Nat → Int32} {np : Nat} {tp av lg pl tk : Int32} {l : List sv} {ea fa : Int32} {so : Option sv} {tx ln : List Nat} (H : CtAt w x ((f, g, sl, op, lo), hd, rs, np, tp, av, lg, pl, tk) l ea fa so tx ln) (hI : SInv ((f, g, sl, op, lo), hd, rs, np, tp, av, lg, pl, tk)) (hn : n = 0 ∨ n = 1) : Sp (d + 5) yX8_setBorder cX8_setBorder 3 (some .boolean) [.ref x, .int n] w 0 0 (fun v w' => v = some (.int op) ∧ CtTo w w' x (sBorder ((f, g, sl, op, lo), hd, rs, np, (tp, av, lg, pl, tk)) n) (push8 l ((f, g, sl, op, lo), hd, rs, np, tp, av, lg, pl, tk)) ea fa so tx ln) noX := by
  refine Sp.of (by decide +kernel) (Nat.le_of_ble_eq_true rfl) (fun X hC hnl hE hR hN => ?_)
  have hC : Cx X RX8 cX8_setBorder (d + 5) 0 0 := hC
  show Wp X 0 0 w [(0, .ref x), (1, .int n)] [] 0
  have hop : op = 0 ∨ op = 1 := hI.1.2.2.1
  have hnp : np ≤ 4 := hI.2.2
  have H9 := H
  obtain ⟨ol, hs, yb, ys, hx, q, qn, cn, ps, cs, ho, hY, hB, hS, hA, hT, hX, hL, hHs, hol, hll, hring, hsnap⟩ := id H
  have hy0 : w[x + 1]? = some (mO 7 [.ref (x + 2), .ref (x + 5), .ref (x + 6), .int (nI np), .int tp, .int av, .int lg, .int pl, .int tk]) := hY.1
  have hh : HillAt w (x + 2) (x + 3) (x + 4) (f, g, sl, op, lo) := hY.2.1
  have hy1 : w[x + 2]? = some (mO 6 [.ref (x + 3), .ref (x + 4), .int sl, .int op, .int lo]) := hh.1
  have hy2 : w[x + 3]? = some (mI 0 26 f) := hh.2.1
  have hy3 : w[x + 4]? = some (mI 0 25 g) := hh.2.2
  have hy4 : w[x + 5]? = some (mI 0 4 hd) := hY.2.2.1
  have hy5 : w[x + 6]? = some (mI 0 4 rs) := hY.2.2.2
  refine r_aload_n hC dX8_setBorder_0 rfl (j := 0) rfl ?_
  refine r_aload_n hC dX8_setBorder_1 rfl (j := 0) rfl ?_
  refine r_get hC gX8_setBorder_2 ho (v := .ref (x + 1)) rfl ?_
  refine r_callV hC (vs := [.ref (x + 1)]) vX8_setBorder_5 (sh_keep (d := d + 2) H9 (Or.inl rfl) hY hop) ho rfl rfl (by omega) (by omega) (by omega) (Nat.le_of_ble_eq_true rfl) (fun v_1 w_1 hP_1 hlen_1 => ?_) (fun _ _ h => h.elim)
  rw [hP_1.1]
  have hn_1 : w_1.length = w.length := hlen_1.trans (rfl)
  have KT_1 : CtTo w w_1 x ((f, g, sl, op, lo), hd, rs, np, tp, av, lg, pl, tk) (push8 l ((f, g, sl, op, lo), hd, rs, np, tp, av, lg, pl, tk)) ea fa so tx ln := ⟨hP_1.2.1, fun k hk => hP_1.2.2 k (by omega)⟩
  have K_1 := hP_1.2.1
  obtain ⟨ol, hs, yb, ys, hx, q, qn, cn, ps, cs, ho, hY, hB, hS, hA, hT, hX, hL, hHs, hol, hll, hring, hsnap⟩ := id K_1
  have hy0 : w_1[x + 1]? = some (mO 7 [.ref (x + 2), .ref (x + 5), .ref (x + 6), .int (nI np), .int tp, .int av, .int lg, .int pl, .int tk]) := hY.1
  have hh : HillAt w_1 (x + 2) (x + 3) (x + 4) (f, g, sl, op, lo) := hY.2.1
  have hy1 : w_1[x + 2]? = some (mO 6 [.ref (x + 3), .ref (x + 4), .int sl, .int op, .int lo]) := hh.1
  have hy2 : w_1[x + 3]? = some (mI 0 26 f) := hh.2.1
  have hy3 : w_1[x + 4]? = some (mI 0 25 g) := hh.2.2
  have hy4 : w_1[x + 5]? = some (mI 0 4 hd) := hY.2.2.1
  have hy5 : w_1[x + 6]? = some (mI 0 4 rs) := hY.2.2.2
  show Wp X 0 0 w_1 [(0, .ref x), (1, .int n)] [] 8
  refine r_aload_n hC dX8_setBorder_8 rfl (j := 0) rfl ?_
  refine r_get hC gX8_setBorder_9 ho (v := .ref (x + 1)) rfl ?_
  refine r_get hC gX8_setBorder_12 hy0 (v := .ref (x + 2)) rfl ?_
  refine r_get hC gX8_setBorder_15 hy1 (v := .int op) rfl ?_
  refine r_istore_n hC dX8_setBorder_18 rfl (by rw [hnl]; decide) (L' := [(2, .int op), (0, .ref x), (1, .int n)]) rfl ?_
  refine r_aload_n hC dX8_setBorder_19 rfl (j := 1) rfl ?_
  refine r_get hC gX8_setBorder_20 ho (v := .ref (x + 1)) rfl ?_
  refine r_iload_n hC dX8_setBorder_23 rfl (j := 2) rfl ?_
  refine r_callV hC (vs := [.int n]) vX8_setBorder_24 (sp_border (d := d) (x := n) hY hn) hy0 rfl rfl (by omega) (by omega) (by omega) (Nat.le_of_ble_eq_true rfl) (fun v_2 w_2 hP_2 hlen_2 => ?_) (fun _ _ h => h.elim)
  rw [hP_2.1]
  have hn_2 : w_2.length = w.length := hlen_2.trans (hn_1)
  have T_2 := CtAt.now K_1 hP_2.2
  show Wp X 0 0 w_2 [(2, .int op), (0, .ref x), (1, .int n)] [] 27
  refine r_iload_n hC dX8_setBorder_27 rfl (j := 0) rfl ?_
  refine r_nret hC hE hR dX8_setBorder_28 (by rcases hop with rfl | rfl <;> decide) (by omega) (by omega) (hn_2) ?_
  exact ⟨rfl, CtTo.trans KT_1 T_2⟩
end HC3
