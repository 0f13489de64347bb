section HC5
def ownT (v : Int32) : List Nat := if v = -1 then [] else [97 + v.toNatClampNeg]
def cellN (f g : Nat → Int32) (c : Nat) : List Nat := numT (cN f c) ++ (ownT (g c) ++ (if hPeak f c then [42] else []))
def rowN (f g : Nat → Int32) (r : Nat) : Nat → List Nat
  | 0 => []
  | c + 1 => rowN f g r c ++ ((if c = 0 then [] else [32]) ++ cellN f g (5 * r + c))
theorem rowN_s {f g : Nat → Int32} {r c : Nat} : rowN f g r (c + 1) = rowN f g r c ++ ((if c = 0 then [] else [32]) ++ cellN f g (5 * r + c)) := rfl
theorem cellN_len {f g : Nat → Int32} {c : Nat} : (cellN f g c).length ≤ 5 := by
  unfold cellN ownT
  have := (numT_len (v := cN f c)).2
  rw [List.length_append, List.length_append]
  split <;> split <;> simp <;> omega
theorem rowN_len {f g : Nat → Int32} {r : Nat} : ∀ {c : Nat}, (rowN f g r c).length ≤ 6 * c
  | 0 => Nat.le_refl 0
  | c + 1 => by
    unfold rowN
    have := rowN_len (f := f) (g := g) (r := r) (c := c)
    have h := cellN_len (f := f) (g := g) (c := 5 * r + c)
    rw [List.length_append, List.length_append]
    split <;> simp <;> omega
theorem CtAt.line {w w' : mW} {x : Nat} {y : sv} {l : List sv} {ea fa : Int32} {so : Option sv} {tx ln ln2 : List Nat} (H : CtAt w x y l ea fa so tx ln) (F : ∀ k, k ≠ x + 40 → w'[k]? = w[k]?) (h : w'[x + 40]? = some (mT ln2)) : CtTo w w' x y l ea fa so tx ln2 := by
  obtain ⟨ol, hs, yb, ys, hx, q, qn, cn, ps, cs, ho, hY, hB, hS, hA, hT, hX, hL, hHs, hol, hll, hring, hsnap⟩ := H
  exact ⟨⟨ol, hs, yb, ys, hx, q, qn, cn, ps, cs, (F _ (by omega)).trans ho, hY.mono (fun k _ _ => F k (by omega)), hB.mono (fun k _ _ => F k (by omega)), hS.mono (fun k _ _ => F k (by omega)), (F _ (by omega)).trans hA, hT.mono (fun k _ _ => F k (by omega)), hX.mono (fun k _ _ => F k (by omega)), h, fun i hi => (hHs i hi).mono (fun k _ _ => F k (by omega)), hol, hll, hring, hsnap⟩, fun k hk => F k (by omega)⟩
theorem own_ch : ∀ k, k < 4 → ((97 + nI k).toUInt32 % 65536).toInt32 = nI (97 + k) := by decide
theorem row_ix : ∀ r, r < 5 → ∀ c, c < 5 → nI r * 5 + nI c = nI (5 * r + c) := by decide
/-- what the line asks of a hill -/
def LnOK (f g : Nat → Int32) : Prop := (∀ j, j < 25 → ¬ f j < 0) ∧ (∀ j, j < 25 → cN f j < 400) ∧ ∀ j, j < 25 → g j = -1 ∨ ∃ k, k < 4 ∧ g j = nI k
theorem LnOK.of {y : sv} (hI : SInv y) : LnOK y.1.1 y.1.2.1 := ⟨hI.1.1.1, fun j hj => by
  have h1 := sN_le (F := cN y.1.1) hj
  have h2 : sN (cN y.1.1) 25 ≤ 300 := hI.1.1.2
  omega, hI.1.2.2.2.2.2⟩
set_option maxRecDepth 100000 in
set_option maxHeartbeats 4000000 in
theorem sh_writeCell {d c : Nat} {w : mW} {x : Nat} {f g : Nat → Int32} {sl op lo : Int32} {hd rs : Nat → Int32} {np : Nat} {tp av lg pl tk : Int32} {l : List sv} {ea fa : Int32} {so : Option sv} {tx ln : List Nat} (H : CtAt w x ((f, g, sl, op, lo), hd, rs, np, tp, av, lg, pl, tk) l ea fa so tx ln) (hG : LnOK f g) (hc : c < 25) (hll9 : ln.length ≤ 60) : Sp (d + 6) yX8_writeCell cX8_writeCell 2 none [.ref x, .int (nI c)] w 3 432 (fun v w' => v = none ∧ CtTo w w' x ((f, g, sl, op, lo), hd, rs, np, tp, av, lg, pl, tk) l ea fa so tx (ln ++ cellN f g c)) noX := by
  refine Sp.of (by decide +kernel) (Nat.le_of_ble_eq_true rfl) (fun X hC hnl hE hR hN => ?_)
  have hC : Cx X RX8 cX8_writeCell (d + 6) 3 432 := hC
  show Wp X 0 0 w [(0, .ref x), (1, .int (nI c))] [] 0
  have H9 := H
  have hce := cN_eq (hG.1 c hc)
  have hc4 := hG.2.1 c hc
  have hg4 := hG.2.2 c hc
  have hl3 := numT_len (v := cN f c)
  obtain ⟨ol, hs, yb, ys, hx, q, qn, cn, ps, cs, ho, hY, hB, hS, hA, hT, hX, hL, hHs, hol, hll, hring, hsnap⟩ := id H
  have hy0 : w[x + 1]? = some (mO 7 [.ref (x + 2), .ref (x + 5), .ref (x + 6), .int (nI np), .int tp, .int av, .int lg, .int pl, .int tk]) := hY.1
  have hh : HillAt w (x + 2) (x + 3) (x + 4) (f, g, sl, op, lo) := hY.2.1
  have hy1 : w[x + 2]? = some (mO 6 [.ref (x + 3), .ref (x + 4), .int sl, .int op, .int lo]) := hh.1
  have hy2 : w[x + 3]? = some (mI 0 26 f) := hh.2.1
  have hy3 : w[x + 4]? = some (mI 0 25 g) := hh.2.2
  have hy4 : w[x + 5]? = some (mI 0 4 hd) := hY.2.2.1
  have hy5 : w[x + 6]? = some (mI 0 4 rs) := hY.2.2.2
  refine r_aload_n hC dX8_writeCell_0 rfl (j := 0) rfl ?_
  refine r_get hC gX8_writeCell_1 ho (v := .ref (x + 40)) rfl ?_
  refine r_aload_n hC dX8_writeCell_4 rfl (j := 0) rfl ?_
  refine r_get hC gX8_writeCell_5 ho (v := .ref (x + 1)) rfl ?_
  refine r_get hC gX8_writeCell_8 hy0 (v := .ref (x + 2)) rfl ?_
  refine r_get hC gX8_writeCell_11 hy1 (v := .ref (x + 3)) rfl ?_
  refine r_iload_n hC dX8_writeCell_14 rfl (j := 1) rfl ?_
  refine r_iald hC dX8_writeCell_15 (j := c) hy2 (mIx_nI (by omega) (by decide)) ?_
  rw [hce.1]
  refine r_callXT hC (vs := [.int (nI (cN f c))]) vX8_writeCell_16.x (st_api (d := d) hL (by omega) (by omega)) hL rfl rfl (by omega) (by omega) (by omega) (Nat.le_of_ble_eq_true rfl) (fun v_1 w_1 hP_1 hlen_1 => ?_)
  rw [hP_1.1]
  have ew_1 := hP_1.2
  have hf1_x : w_1[x]? = some (mO 9 [.ref (x + 1), .ref (x + 7), .ref (x + 13), .int (bI so.isSome), .ref (x + 19), .int (nI ol), .int (nI l.length), .ref (x + 20), .ref (x + 25), .int ea, .int fa, .ref (x + 40)]) := by rw [ew_1, List.getElem?_set_ne (by omega)]; exact ho
  have hf1__x___1_ : w_1[(x + 1)]? = some (mO 7 [.ref (x + 2), .ref (x + 5), .ref (x + 6), .int (nI np), .int tp, .int av, .int lg, .int pl, .int tk]) := by rw [ew_1, List.getElem?_set_ne (by omega)]; exact hy0
  have hf1__x___2_ : w_1[(x + 2)]? = some (mO 6 [.ref (x + 3), .ref (x + 4), .int sl, .int op, .int lo]) := by rw [ew_1, List.getElem?_set_ne (by omega)]; exact hy1
  have hf1__x___3_ : w_1[(x + 3)]? = some (mI 0 26 f) := by rw [ew_1, List.getElem?_set_ne (by omega)]; exact hy2
  have hf1__x___4_ : w_1[(x + 4)]? = some (mI 0 25 g) := by rw [ew_1, List.getElem?_set_ne (by omega)]; exact hy3
  have hf1__x___40_ : w_1[(x + 40)]? = some (mT (ln ++ numT (cN f c))) := by rw [ew_1]; exact List.getElem?_set_self (lt_of_get hL)
  show Wp X (0 + 1) (0 + 144) w_1 [(0, .ref x), (1, .int (nI c))] [.ref (x + 40)] 19
  refine r_pop hC dX8_writeCell_19 rfl ?_
  refine r_aload_n hC dX8_writeCell_20 rfl (j := 0) rfl ?_
  refine r_get hC gX8_writeCell_21 hf1_x (v := .ref (x + 1)) rfl ?_
  refine r_get hC gX8_writeCell_24 hf1__x___1_ (v := .ref (x + 2)) rfl ?_
  refine r_get hC gX8_writeCell_27 hf1__x___2_ (v := .ref (x + 4)) rfl ?_
  refine r_iload_n hC dX8_writeCell_30 rfl (j := 1) rfl ?_
  refine r_iald hC dX8_writeCell_31 (j := c) hf1__x___4_ (mIx_nI (by omega) (by decide)) ?_
  refine r_iconst hC dX8_writeCell_32 (v := (-1)) (by decide) ?_
  refine r_icmp_eq hC dX8_writeCell_33 (tgt := 60) (by decide) (fun c33 => ?_) (fun c33 => ?_)
  · refine r_aload_n hC dX8_writeCell_60 rfl (j := 0) rfl ?_
    refine r_get hC gX8_writeCell_61 hf1_x (v := .ref (x + 1)) rfl ?_
    refine r_get hC gX8_writeCell_64 hf1__x___1_ (v := .ref (x + 2)) rfl ?_
    refine r_iload_n hC dX8_writeCell_67 rfl (j := 1) rfl ?_
    refine r_callV hC (vs := [.int (nI c)]) vX8_writeCell_68 (sp_peak (d := d + 5) (show HillAt w_1 (x + 2) (x + 3) (x + 4) (f, g, sl, op, lo) from ⟨hf1__x___2_, hf1__x___3_, hf1__x___4_⟩) hc) hf1__x___2_ rfl rfl (by omega) (by omega) (by omega) (Nat.le_of_ble_eq_true rfl) (fun v_2 w_2 hP_2 hlen_2 => ?_) (fun _ _ h => h.elim)
    rw [hP_2.1, hP_2.2]
    show Wp X (0 + 1) (0 + 144) w_1 [(0, .ref x), (1, .int (nI c))] [.int (bI (hPeak f c))] 71
    refine r_if_eq hC dX8_writeCell_71 (tgt := 84) (by decide) (fun c71 => ?_) (fun c71 => ?_)
    · refine r_vret hC hE hR dX8_writeCell_84 (by omega) (by omega) (by simp only [ew_1, List.length_set]) ?_
      have et : (ln ++ numT (cN f c)) = ln ++ cellN f g c := by
        unfold cellN
        rw [show ownT (g c) = [] from if_pos c33]
        rw [show hPeak f c = false from by
          cases z : hPeak f c with
          | true => rw [z] at c71; exact absurd c71 (by decide)
          | false => rfl]
        simp
      exact ⟨rfl, H9.line (fun k hk => by rw [ew_1, List.getElem?_set_ne (Ne.symm hk)]) (by rw [← et]; exact hf1__x___40_)⟩
    · refine r_aload_n hC dX8_writeCell_74 rfl (j := 0) rfl ?_
      refine r_get hC gX8_writeCell_75 hf1_x (v := .ref (x + 40)) rfl ?_
      refine r_bipush hC dX8_writeCell_78 (v := 42) (by decide) ?_
      refine r_callXT hC (vs := [.int 42]) vX8_writeCell_80.x (st_app (d := d) (c := 42) hf1__x___40_ (by omega) (by simp only [List.length_append, List.length_cons, List.length_nil]; omega)) hf1__x___40_ rfl rfl (by omega) (by omega) (by omega) (Nat.le_of_ble_eq_true rfl) (fun v_3 w_3 hP_3 hlen_3 => ?_)
      rw [hP_3.1]
      have ew_3 := hP_3.2
      have hf3_x : w_3[x]? = some (mO 9 [.ref (x + 1), .ref (x + 7), .ref (x + 13), .int (bI so.isSome), .ref (x + 19), .int (nI ol), .int (nI l.length), .ref (x + 20), .ref (x + 25), .int ea, .int fa, .ref (x + 40)]) := by rw [ew_3, List.getElem?_set_ne (by omega)]; exact hf1_x
      have hf3__x___1_ : w_3[(x + 1)]? = some (mO 7 [.ref (x + 2), .ref (x + 5), .ref (x + 6), .int (nI np), .int tp, .int av, .int lg, .int pl, .int tk]) := by rw [ew_3, List.getElem?_set_ne (by omega)]; exact hf1__x___1_
      have hf3__x___2_ : w_3[(x + 2)]? = some (mO 6 [.ref (x + 3), .ref (x + 4), .int sl, .int op, .int lo]) := by rw [ew_3, List.getElem?_set_ne (by omega)]; exact hf1__x___2_
      have hf3__x___3_ : w_3[(x + 3)]? = some (mI 0 26 f) := by rw [ew_3, List.getElem?_set_ne (by omega)]; exact hf1__x___3_
      have hf3__x___4_ : w_3[(x + 4)]? = some (mI 0 25 g) := by rw [ew_3, List.getElem?_set_ne (by omega)]; exact hf1__x___4_
      have hf3__x___40_ : w_3[(x + 40)]? = some (mT ((ln ++ numT (cN f c)) ++ [42])) := by rw [ew_3]; exact List.getElem?_set_self (lt_of_get hf1__x___40_)
      show Wp X ((0 + 1) + 1) ((0 + 144) + 144) w_3 [(0, .ref x), (1, .int (nI c))] [.ref (x + 40)] 83
      refine r_pop hC dX8_writeCell_83 rfl ?_
      refine r_vret hC hE hR dX8_writeCell_84 (by omega) (by omega) (by simp only [ew_3, ew_1, List.length_set]) ?_
      have et : ((ln ++ numT (cN f c)) ++ [42]) = ln ++ cellN f g c := by
        unfold cellN
        rw [show ownT (g c) = [] from if_pos c33]
        rw [bI_ne.mp c71]
        simp
      exact ⟨rfl, H9.line (fun k hk => by rw [ew_3, List.getElem?_set_ne (Ne.symm hk), ew_1, List.getElem?_set_ne (Ne.symm hk)]) (by rw [← et]; exact hf3__x___40_)⟩
  · obtain ⟨k9, hk9, ek9⟩ := hg4.resolve_left c33
    refine r_aload_n hC dX8_writeCell_36 rfl (j := 0) rfl ?_
    refine r_get hC gX8_writeCell_37 hf1_x (v := .ref (x + 40)) rfl ?_
    refine r_bipush hC dX8_writeCell_40 (v := 97) (by decide) ?_
    refine r_aload_n hC dX8_writeCell_42 rfl (j := 0) rfl ?_
    refine r_get hC gX8_writeCell_43 hf1_x (v := .ref (x + 1)) rfl ?_
    refine r_get hC gX8_writeCell_46 hf1__x___1_ (v := .ref (x + 2)) rfl ?_
    refine r_get hC gX8_writeCell_49 hf1__x___2_ (v := .ref (x + 4)) rfl ?_
    refine r_iload_n hC dX8_writeCell_52 rfl (j := 1) rfl ?_
    refine r_iald hC dX8_writeCell_53 (j := c) hf1__x___4_ (mIx_nI (by omega) (by decide)) ?_
    refine r_iadd hC dX8_writeCell_54 ?_
    refine r_i2c hC dX8_writeCell_55 rfl ?_
    rw [show ((97 + g c).toUInt32 % 65536).toInt32 = nI (97 + k9) from by rw [ek9]; exact own_ch k9 hk9]
    refine r_callXT hC (vs := [.int (nI (97 + k9))]) vX8_writeCell_56.x (st_app (d := d) (c := 97 + k9) hf1__x___40_ (by omega) (by simp only [List.length_append, List.length_cons, List.length_nil]; omega)) hf1__x___40_ rfl rfl (by omega) (by omega) (by omega) (Nat.le_of_ble_eq_true rfl) (fun v_4 w_4 hP_4 hlen_4 => ?_)
    rw [hP_4.1]
    have ew_4 := hP_4.2
    have hf4_x : w_4[x]? = some (mO 9 [.ref (x + 1), .ref (x + 7), .ref (x + 13), .int (bI so.isSome), .ref (x + 19), .int (nI ol), .int (nI l.length), .ref (x + 20), .ref (x + 25), .int ea, .int fa, .ref (x + 40)]) := by rw [ew_4, List.getElem?_set_ne (by omega)]; exact hf1_x
    have hf4__x___1_ : w_4[(x + 1)]? = some (mO 7 [.ref (x + 2), .ref (x + 5), .ref (x + 6), .int (nI np), .int tp, .int av, .int lg, .int pl, .int tk]) := by rw [ew_4, List.getElem?_set_ne (by omega)]; exact hf1__x___1_
    have hf4__x___2_ : w_4[(x + 2)]? = some (mO 6 [.ref (x + 3), .ref (x + 4), .int sl, .int op, .int lo]) := by rw [ew_4, List.getElem?_set_ne (by omega)]; exact hf1__x___2_
    have hf4__x___3_ : w_4[(x + 3)]? = some (mI 0 26 f) := by rw [ew_4, List.getElem?_set_ne (by omega)]; exact hf1__x___3_
    have hf4__x___4_ : w_4[(x + 4)]? = some (mI 0 25 g) := by rw [ew_4, List.getElem?_set_ne (by omega)]; exact hf1__x___4_
    have hf4__x___40_ : w_4[(x + 40)]? = some (mT ((ln ++ numT (cN f c)) ++ [97 + k9])) := by rw [ew_4]; exact List.getElem?_set_self (lt_of_get hf1__x___40_)
    show Wp X ((0 + 1) + 1) ((0 + 144) + 144) w_4 [(0, .ref x), (1, .int (nI c))] [.ref (x + 40)] 59
    refine r_pop hC dX8_writeCell_59 rfl ?_
    refine r_aload_n hC dX8_writeCell_60 rfl (j := 0) rfl ?_
    refine r_get hC gX8_writeCell_61 hf4_x (v := .ref (x + 1)) rfl ?_
    refine r_get hC gX8_writeCell_64 hf4__x___1_ (v := .ref (x + 2)) rfl ?_
    refine r_iload_n hC dX8_writeCell_67 rfl (j := 1) rfl ?_
    refine r_callV hC (vs := [.int (nI c)]) vX8_writeCell_68 (sp_peak (d := d + 5) (show HillAt w_4 (x + 2) (x + 3) (x + 4) (f, g, sl, op, lo) from ⟨hf4__x___2_, hf4__x___3_, hf4__x___4_⟩) hc) hf4__x___2_ rfl rfl (by omega) (by omega) (by omega) (Nat.le_of_ble_eq_true rfl) (fun v_5 w_5 hP_5 hlen_5 => ?_) (fun _ _ h => h.elim)
    rw [hP_5.1, hP_5.2]
    show Wp X ((0 + 1) + 1) ((0 + 144) + 144) w_4 [(0, .ref x), (1, .int (nI c))] [.int (bI (hPeak f c))] 71
    refine r_if_eq hC dX8_writeCell_71 (tgt := 84) (by decide) (fun c71 => ?_) (fun c71 => ?_)
    · refine r_vret hC hE hR dX8_writeCell_84 (by omega) (by omega) (by simp only [ew_4, ew_1, List.length_set]) ?_
      have et : ((ln ++ numT (cN f c)) ++ [97 + k9]) = ln ++ cellN f g c := by
        unfold cellN
        rw [show ownT (g c) = [97 + k9] from by unfold ownT; rw [if_neg c33, ek9, nI_clamp (by omega)]]
        rw [show hPeak f c = false from by
          cases z : hPeak f c with
          | true => rw [z] at c71; exact absurd c71 (by decide)
          | false => rfl]
        simp
      exact ⟨rfl, H9.line (fun k hk => by rw [ew_4, List.getElem?_set_ne (Ne.symm hk), ew_1, List.getElem?_set_ne (Ne.symm hk)]) (by rw [← et]; exact hf4__x___40_)⟩
    · refine r_aload_n hC dX8_writeCell_74 rfl (j := 0) rfl ?_
      refine r_get hC gX8_writeCell_75 hf4_x (v := .ref (x + 40)) rfl ?_
      refine r_bipush hC dX8_writeCell_78 (v := 42) (by decide) ?_
      refine r_callXT hC (vs := [.int 42]) vX8_writeCell_80.x (st_app (d := d) (c := 42) hf4__x___40_ (by omega) (by simp only [List.length_append, List.length_cons, List.length_nil]; omega)) hf4__x___40_ rfl rfl (by omega) (by omega) (by omega) (Nat.le_of_ble_eq_true rfl) (fun v_6 w_6 hP_6 hlen_6 => ?_)
      rw [hP_6.1]
      have ew_6 := hP_6.2
      have hf6_x : w_6[x]? = some (mO 9 [.ref (x + 1), .ref (x + 7), .ref (x + 13), .int (bI so.isSome), .ref (x + 19), .int (nI ol), .int (nI l.length), .ref (x + 20), .ref (x + 25), .int ea, .int fa, .ref (x + 40)]) := by rw [ew_6, List.getElem?_set_ne (by omega)]; exact hf4_x
      have hf6__x___1_ : w_6[(x + 1)]? = some (mO 7 [.ref (x + 2), .ref (x + 5), .ref (x + 6), .int (nI np), .int tp, .int av, .int lg, .int pl, .int tk]) := by rw [ew_6, List.getElem?_set_ne (by omega)]; exact hf4__x___1_
      have hf6__x___2_ : w_6[(x + 2)]? = some (mO 6 [.ref (x + 3), .ref (x + 4), .int sl, .int op, .int lo]) := by rw [ew_6, List.getElem?_set_ne (by omega)]; exact hf4__x___2_
      have hf6__x___3_ : w_6[(x + 3)]? = some (mI 0 26 f) := by rw [ew_6, List.getElem?_set_ne (by omega)]; exact hf4__x___3_
      have hf6__x___4_ : w_6[(x + 4)]? = some (mI 0 25 g) := by rw [ew_6, List.getElem?_set_ne (by omega)]; exact hf4__x___4_
      have hf6__x___40_ : w_6[(x + 40)]? = some (mT (((ln ++ numT (cN f c)) ++ [97 + k9]) ++ [42])) := by rw [ew_6]; exact List.getElem?_set_self (lt_of_get hf4__x___40_)
      show Wp X (((0 + 1) + 1) + 1) (((0 + 144) + 144) + 144) w_6 [(0, .ref x), (1, .int (nI c))] [.ref (x + 40)] 83
      refine r_pop hC dX8_writeCell_83 rfl ?_
      refine r_vret hC hE hR dX8_writeCell_84 (by omega) (by omega) (by simp only [ew_6, ew_4, ew_1, List.length_set]) ?_
      have et : (((ln ++ numT (cN f c)) ++ [97 + k9]) ++ [42]) = ln ++ cellN f g c := by
        unfold cellN
        rw [show ownT (g c) = [97 + k9] from by unfold ownT; rw [if_neg c33, ek9, nI_clamp (by omega)]]
        rw [bI_ne.mp c71]
        simp
      exact ⟨rfl, H9.line (fun k hk => by rw [ew_6, List.getElem?_set_ne (Ne.symm hk), ew_4, List.getElem?_set_ne (Ne.symm hk), ew_1, List.getElem?_set_ne (Ne.symm hk)]) (by rw [← et]; exact hf6__x___40_)⟩
set_option maxRecDepth 100000 in
set_option maxHeartbeats 4000000 in
theorem hdr_all {X : mC} {d n0 r : Nat} {i0 : Int32} {w : mW} {x : Nat} {f g : Nat → Int32} {sl op lo : Int32} {hd rs : Nat → Int32} {np : Nat} {tp av lg pl tk : Int32} {l : List sv} {ea fa : Int32} {so : Option sv} {tx : List Nat} (hG : LnOK f g) (hC : Cx X RX8 cX8_describeRow (d + 7) 21 3024) (hnl : mNL X = 3) (hE : mEnd X n0 21 3024 (fun v w' => isI i0 0 4 = true ∧ v = some (.int (nI (rowN f g i0.toNatClampNeg 5).length)) ∧ CtTo w w' x ((f, g, sl, op, lo), hd, rs, np, tp, av, lg, pl, tk) l ea fa so tx (rowN f g i0.toNatClampNeg 5)) (fun E w' => E = "java/lang/IndexOutOfBoundsException" ∧ w' = w ∧ isI i0 0 4 = false)) (hR : mRet X (some .int)) (hN : mNoTab X) (hn0 : w.length = n0) (hr : r < 5) (hi0 : i0 = nI r) (hI4 : isI i0 0 4 = true) : ∀ (i9 c k n : Nat) (w9 : mW), c + i9 = 5 → k + 4 * i9 ≤ 21 → n + 576 * i9 ≤ 3024 → w9.length = w.length → CtTo w w9 x ((f, g, sl, op, lo), hd, rs, np, tp, av, lg, pl, tk) l ea fa so tx (rowN f g r c) → Wp X k n w9 [(0, .ref x), (1, .int (nI r)), (2, .int (nI c))] [] 30 := by
  intro i9
  induction i9 with
  | zero =>
    intro c k n w9 h9 hk9 hn9 hl9 T
    obtain rfl : c = 5 := by omega
    have H9 := T.1
    obtain ⟨ol, hs, yb, ys, hx, q, qn, cn, ps, cs, ho, hY, hB, hS, hA, hT, hX, hL, hHs, hol, hll, hring, hsnap⟩ := id H9
    have hy0 : w9[x + 1]? = some (mO 7 [.ref (x + 2), .ref (x + 5), .ref (x + 6), .int (nI np), .int tp, .int av, .int lg, .int pl, .int tk]) := hY.1
    have hh : HillAt w9 (x + 2) (x + 3) (x + 4) (f, g, sl, op, lo) := hY.2.1
    have hy1 : w9[x + 2]? = some (mO 6 [.ref (x + 3), .ref (x + 4), .int sl, .int op, .int lo]) := hh.1
    have hy2 : w9[x + 3]? = some (mI 0 26 f) := hh.2.1
    have hy3 : w9[x + 4]? = some (mI 0 25 g) := hh.2.2
    have hy4 : w9[x + 5]? = some (mI 0 4 hd) := hY.2.2.1
    have hy5 : w9[x + 6]? = some (mI 0 4 rs) := hY.2.2.2
    refine r_iload_n hC dX8_describeRow_30 rfl (j := 2) rfl ?_
    refine r_iconst hC dX8_describeRow_31 (v := 5) (by decide) ?_
    refine r_icmp_ge hC dX8_describeRow_32 (tgt := 64) (by decide) (fun _ => ?_) (fun h => absurd (by decide) h)
    refine r_aload_n hC dX8_describeRow_64 rfl (j := 0) rfl ?_
    refine r_get hC gX8_describeRow_65 ho (v := .ref (x + 40)) rfl ?_
    refine r_callXT hC (vs := []) vX8_describeRow_68.x (st_len (d := d + 5) hL) hL rfl rfl (by omega) (by omega) (by omega) (Nat.le_of_ble_eq_true rfl) (fun v_1 w_1 hP_1 hlen_1 => ?_)
    rw [hP_1.1, hP_1.2]
    show Wp X k n w9 [(0, .ref x), (1, .int (nI r)), (2, .int (nI 5))] [.int (nI (rowN f g r 5).length)] 71
    refine r_iret hC hE hR dX8_describeRow_71 (by omega) (by omega) (hl9.trans hn0) ?_
    exact ⟨hI4, by rw [hi0, nI_clamp (by omega)], by rw [hi0, nI_clamp (by omega)]; exact T⟩
  | succ i9 ih =>
    intro c k n w9 h9 hk9 hn9 hl9 T
    have hc : c < 5 := by omega
    have hlr := rowN_len (f := f) (g := g) (r := r) (c := c)
    have H9 := T.1
    obtain ⟨ol, hs, yb, ys, hx, q, qn, cn, ps, cs, ho, hY, hB, hS, hA, hT, hX, hL, hHs, hol, hll, hring, hsnap⟩ := id H9
    have hy0 : w9[x + 1]? = some (mO 7 [.ref (x + 2), .ref (x + 5), .ref (x + 6), .int (nI np), .int tp, .int av, .int lg, .int pl, .int tk]) := hY.1
    have hh : HillAt w9 (x + 2) (x + 3) (x + 4) (f, g, sl, op, lo) := hY.2.1
    have hy1 : w9[x + 2]? = some (mO 6 [.ref (x + 3), .ref (x + 4), .int sl, .int op, .int lo]) := hh.1
    have hy2 : w9[x + 3]? = some (mI 0 26 f) := hh.2.1
    have hy3 : w9[x + 4]? = some (mI 0 25 g) := hh.2.2
    have hy4 : w9[x + 5]? = some (mI 0 4 hd) := hY.2.2.1
    have hy5 : w9[x + 6]? = some (mI 0 4 rs) := hY.2.2.2
    refine r_iload_n hC dX8_describeRow_30 rfl (j := 2) rfl ?_
    refine r_iconst hC dX8_describeRow_31 (v := 5) (by decide) ?_
    refine r_icmp_ge hC dX8_describeRow_32 (tgt := 64) (by decide) (fun h => absurd h (lit_ge (N := 5) rfl hc (by decide))) (fun _ => ?_)
    refine r_iload_n hC dX8_describeRow_35 rfl (j := 2) rfl ?_
    refine r_if_le hC dX8_describeRow_36 (tgt := 49) (by decide) (fun c36 => ?_) (fun c36 => ?_)
    · refine r_aload_n hC dX8_describeRow_49 rfl (j := 0) rfl ?_
      refine r_iload_n hC dX8_describeRow_50 rfl (j := 1) rfl ?_
      refine r_iconst hC dX8_describeRow_51 (v := 5) (by decide) ?_
      refine r_imul hC dX8_describeRow_52 ?_
      refine r_iload_n hC dX8_describeRow_53 rfl (j := 2) rfl ?_
      refine r_iadd hC dX8_describeRow_54 ?_
      rw [row_ix r hr c hc]
      refine r_callV hC (vs := [.int (nI (5 * r + c))]) vX8_describeRow_55 (sh_writeCell (d := d) H9 hG (by omega) (by omega)) ho rfl rfl (by omega) (by omega) (by omega) (Nat.le_of_ble_eq_true rfl) (fun v_1 w_1 hP_1 hlen_1 => ?_) (fun _ _ h => h.elim)
      rw [hP_1.1]
      have hn_1 : w_1.length = w9.length := hlen_1.trans (rfl)
      have T_1 := hP_1.2
      show Wp X (k + 3) (n + 432) w_1 [(0, .ref x), (1, .int (nI r)), (2, .int (nI c))] [] 58
      refine r_iinc hC dX8_describeRow_58 (j := 2) rfl (v := nI (c + 1)) (nI_succ c).symm (by rw [hnl]; decide) (L' := [(2, .int (nI (c + 1))), (0, .ref x), (1, .int (nI r))]) rfl ?_
      refine r_goto hC dX8_describeRow_61 (tgt := 30) (by decide) ?_
      refine r_locals [1, 2, 0] (L' := [(0, .ref x), (1, .int (nI r)), (2, .int (nI (c + 1)))]) rfl ?_
      have z9 : c = 0 := by
        have := (nI_leI (b := 0) (by omega) (by decide)).mp c36
        omega
      have e9 : rowN f g r (c + 1) = rowN f g r c ++ cellN f g (5 * r + c) := by
        rw [rowN_s, if_pos z9]
        rfl
      exact ih (c + 1) _ _ w_1 (by omega) (by omega) (by omega) (hn_1.trans hl9) (by rw [e9]; exact T.trans T_1)
    · refine r_aload_n hC dX8_describeRow_39 rfl (j := 0) rfl ?_
      refine r_get hC gX8_describeRow_40 ho (v := .ref (x + 40)) rfl ?_
      refine r_bipush hC dX8_describeRow_43 (v := 32) (by decide) ?_
      refine r_callXT hC (vs := [.int 32]) vX8_describeRow_45.x (st_app (d := d + 1) (c := 32) hL (by decide) (by omega)) hL rfl rfl (by omega) (by omega) (by omega) (Nat.le_of_ble_eq_true rfl) (fun v_2 w_2 hP_2 hlen_2 => ?_)
      rw [hP_2.1]
      have ew_2 := hP_2.2
      have hf2_x : w_2[x]? = some (mO 9 [.ref (x + 1), .ref (x + 7), .ref (x + 13), .int (bI so.isSome), .ref (x + 19), .int (nI ol), .int (nI l.length), .ref (x + 20), .ref (x + 25), .int ea, .int fa, .ref (x + 40)]) := by rw [ew_2, List.getElem?_set_ne (by omega)]; exact ho
      have hf2__x___40_ : w_2[(x + 40)]? = some (mT (rowN f g r c ++ [32])) := by rw [ew_2]; exact List.getElem?_set_self (lt_of_get hL)
      show Wp X (k + 1) (n + 144) w_2 [(0, .ref x), (1, .int (nI r)), (2, .int (nI c))] [.ref (x + 40)] 48
      refine r_pop hC dX8_describeRow_48 rfl ?_
      have T0 : CtTo w9 w_2 x ((f, g, sl, op, lo), hd, rs, np, tp, av, lg, pl, tk) l ea fa so tx (rowN f g r c ++ [32]) := H9.line (fun k hk => by rw [ew_2, List.getElem?_set_ne (Ne.symm hk)]) hf2__x___40_
      refine r_aload_n hC dX8_describeRow_49 rfl (j := 0) rfl ?_
      refine r_iload_n hC dX8_describeRow_50 rfl (j := 1) rfl ?_
      refine r_iconst hC dX8_describeRow_51 (v := 5) (by decide) ?_
      refine r_imul hC dX8_describeRow_52 ?_
      refine r_iload_n hC dX8_describeRow_53 rfl (j := 2) rfl ?_
      refine r_iadd hC dX8_describeRow_54 ?_
      rw [row_ix r hr c hc]
      refine r_callV hC (vs := [.int (nI (5 * r + c))]) vX8_describeRow_55 (sh_writeCell (d := d) T0.1 hG (by omega) (by rw [List.length_append]; simp; omega)) hf2_x rfl rfl (by omega) (by omega) (by omega) (Nat.le_of_ble_eq_true rfl) (fun v_3 w_3 hP_3 hlen_3 => ?_) (fun _ _ h => h.elim)
      rw [hP_3.1]
      have hn_3 : w_3.length = w9.length := hlen_3.trans (by simp only [ew_2, List.length_set])
      have T_3 := hP_3.2
      show Wp X ((k + 1) + 3) ((n + 144) + 432) w_3 [(0, .ref x), (1, .int (nI r)), (2, .int (nI c))] [] 58
      refine r_iinc hC dX8_describeRow_58 (j := 2) rfl (v := nI (c + 1)) (nI_succ c).symm (by rw [hnl]; decide) (L' := [(2, .int (nI (c + 1))), (0, .ref x), (1, .int (nI r))]) rfl ?_
      refine r_goto hC dX8_describeRow_61 (tgt := 30) (by decide) ?_
      refine r_locals [1, 2, 0] (L' := [(0, .ref x), (1, .int (nI r)), (2, .int (nI (c + 1)))]) rfl ?_
      have e9 : rowN f g r (c + 1) = (rowN f g r c ++ [32]) ++ cellN f g (5 * r + c) := by
        rw [rowN_s, if_neg (show ¬ c = 0 from fun z => c36 (by rw [z]; decide))]
        simp
      exact ih (c + 1) _ _ w_3 (by omega) (by omega) (by omega) (hn_3.trans hl9) (by rw [e9]; exact (T.trans T0).trans T_3)
set_option maxRecDepth 100000 in
set_option maxHeartbeats 4000000 in
theorem sh_describeRow {d : Nat} {i0 : Int32} {w : mW} {x : Nat} {f g : Nat → Int32} {sl op lo : Int32} {hd rs : Nat → Int32} {np : Nat} {tp av lg pl tk : Int32} {l : List sv} {ea fa : Int32} {so : Option sv} {tx ln : List Nat} (H : CtAt w x ((f, g, sl, op, lo), hd, rs, np, tp, av, lg, pl, tk) l ea fa so tx ln) (hG : LnOK f g) : Sp (d + 7) yX8_describeRow cX8_describeRow 3 (some .int) [.ref x, .int i0] w 21 3024 (fun v w' => isI i0 0 4 = true ∧ v = some (.int (nI (rowN f g i0.toNatClampNeg 5).length)) ∧ CtTo w w' x ((f, g, sl, op, lo), hd, rs, np, tp, av, lg, pl, tk) l ea fa so tx (rowN f g i0.toNatClampNeg 5)) (fun E w' => E = "java/lang/IndexOutOfBoundsException" ∧ w' = w ∧ isI i0 0 4 = false) := by
  refine Sp.of (by decide +kernel) (Nat.le_of_ble_eq_true rfl) (fun X hC hnl hE hR hN => ?_)
  have hC : Cx X RX8 cX8_describeRow (d + 7) 21 3024 := hC
  show Wp X 0 0 w [(0, .ref x), (1, .int i0)] [] 0
  have H9 := H
  obtain ⟨ol, hs, yb, ys, hx, q, qn, cn, ps, cs, ho, hY, hB, hS, hA, hT, hX, hL, hHs, hol, hll, hring, hsnap⟩ := id H
  have hy0 : w[x + 1]? = some (mO 7 [.ref (x + 2), .ref (x + 5), .ref (x + 6), .int (nI np), .int tp, .int av, .int lg, .int pl, .int tk]) := hY.1
  have hh : HillAt w (x + 2) (x + 3) (x + 4) (f, g, sl, op, lo) := hY.2.1
  have hy1 : w[x + 2]? = some (mO 6 [.ref (x + 3), .ref (x + 4), .int sl, .int op, .int lo]) := hh.1
  have hy2 : w[x + 3]? = some (mI 0 26 f) := hh.2.1
  have hy3 : w[x + 4]? = some (mI 0 25 g) := hh.2.2
  have hy4 : w[x + 5]? = some (mI 0 4 hd) := hY.2.2.1
  have hy5 : w[x + 6]? = some (mI 0 4 rs) := hY.2.2.2
  refine r_iload_n hC dX8_describeRow_0 rfl (j := 1) rfl ?_
  refine r_if_lt hC dX8_describeRow_1 (tgt := 9) (by decide) (fun c1 => ?_) (fun c1 => ?_)
  · refine r_throwW hC hE hN tX8_describeRow_9 (Nat.le_of_ble_eq_true rfl) (by omega) (by omega) (rfl) ?_
    exact ⟨rfl, rfl, Bool.eq_false_iff.mpr (fun z => (isIT_lt z).1 c1)⟩
  · refine r_iload_n hC dX8_describeRow_4 rfl (j := 1) rfl ?_
    refine r_iconst hC dX8_describeRow_5 (v := 5) (by decide) ?_
    refine r_icmp_lt hC dX8_describeRow_6 (tgt := 20) (by decide) (fun c6 => ?_) (fun c6 => ?_)
    · obtain ⟨r, hr9, er⟩ := nI_of c1
      have hr : r < 5 := (nI_ltS (b := 5) hr9 (by decide)).mp (er ▸ c6)
      have hI4 : isI i0 0 4 = true := by
        unfold isI
        simp only [Bool.and_eq_true, Bool.not_eq_true', decide_eq_false_iff_not]
        exact ⟨c1, by rw [er]; exact Int32.not_lt.mpr ((nI_leI (b := 4) hr9 (by decide)).mpr (by omega))⟩
      refine r_locals [0, 1] (L' := [(0, .ref x), (1, .int (nI r))]) (by rw [er]; rfl) ?_
      refine r_aload_n hC dX8_describeRow_20 rfl (j := 0) rfl ?_
      refine r_get hC gX8_describeRow_21 ho (v := .ref (x + 40)) rfl ?_
      refine r_iconst hC dX8_describeRow_24 (v := 0) (by decide) ?_
      refine r_callXT hC (vs := [.int 0]) vX8_describeRow_25.x (st_set0 (d := d + 4) hL) hL rfl rfl (by omega) (by omega) (by omega) (Nat.le_of_ble_eq_true rfl) (fun v_1 w_1 hP_1 hlen_1 => ?_)
      rw [hP_1.1]
      have ew_1 := hP_1.2
      have hf1_x : w_1[x]? = some (mO 9 [.ref (x + 1), .ref (x + 7), .ref (x + 13), .int (bI so.isSome), .ref (x + 19), .int (nI ol), .int (nI l.length), .ref (x + 20), .ref (x + 25), .int ea, .int fa, .ref (x + 40)]) := by rw [ew_1, List.getElem?_set_ne (by omega)]; exact ho
      have hf1__x___40_ : w_1[(x + 40)]? = some (mT []) := by rw [ew_1]; exact List.getElem?_set_self (lt_of_get hL)
      show Wp X 0 0 w_1 [(0, .ref x), (1, .int (nI r))] [] 28
      refine r_iconst hC dX8_describeRow_28 (v := 0) (by decide) ?_
      refine r_istore_n hC dX8_describeRow_29 rfl (by rw [hnl]; decide) (L' := [(2, .int 0), (0, .ref x), (1, .int (nI r))]) rfl ?_
      refine r_locals [1, 2, 0] (L' := [(0, .ref x), (1, .int (nI r)), (2, .int 0)]) rfl ?_
      exact hdr_all (d := d) (w := w) hG hC hnl hE hR hN rfl hr er hI4 5 0 _ _ w_1 rfl (by omega) (by omega) (by rw [ew_1, List.length_set]) (H9.line (fun k hk => by rw [ew_1, List.getElem?_set_ne (Ne.symm hk)]) hf1__x___40_)
    · refine r_throwW hC hE hN tX8_describeRow_9 (Nat.le_of_ble_eq_true rfl) (by omega) (by omega) (rfl) ?_
      exact ⟨rfl, rfl, Bool.eq_false_iff.mpr (fun z => c6 (by
        have h1 := (isIT_lt z).1
        have h2 := (isIT_lt z).2
        obtain ⟨j, hj, rfl⟩ := nI_of h1
        have := (nI_leI (b := 4) hj (by decide)).mp (Int32.not_lt.mp h2)
        exact (nI_ltS (b := 5) hj (by decide)).mpr (by omega)))⟩
theorem numTx_T : ∀ n, n < 400 → numTx n = (numT n).map nI := by decide +kernel
theorem cellTx_N {f g : Nat → Int32} (hG : LnOK f g) {c : Nat} (hc : c < 25) {b : Bool} : cellTx f g c b = ((if b then [] else [32]) ++ cellN f g c).map nI := by
  unfold cellTx cellN
  rw [numTx_T _ (hG.2.1 c hc)]
  have e1 : ownTx (g c) = (ownT (g c)).map nI := by
    unfold ownTx ownT
    rcases hG.2.2 c hc with z | ⟨k, hk, ek⟩
    · rw [if_pos z, if_pos z]; rfl
    · have hn : ¬ g c = -1 := by
        rw [ek]
        have : ∀ k, k < 4 → ¬ nI k = -1 := by decide
        exact this k hk
      rw [if_neg hn, if_neg hn, ek, nI_clamp (by omega)]
      have : ∀ k, k < 4 → (97 : Int32) + nI k = nI (97 + k) := by decide
      rw [this k hk]; rfl
  rw [e1]
  cases b <;> cases hPeak f c <;> simp <;> decide
theorem rowTx_N {f g : Nat → Int32} (hG : LnOK f g) {r : Nat} (hr : r < 5) : ∀ {c : Nat}, c ≤ 5 → rowTx f g r c = (rowN f g r c).map nI
  | 0, _ => rfl
  | c + 1, h => by
    show rowTx f g r c ++ cellTx f g (5 * r + c) (decide (c = 0)) = (rowN f g r c ++ ((if c = 0 then [] else [32]) ++ cellN f g (5 * r + c))).map nI
    rw [rowTx_N hG hr (by omega), cellTx_N hG (by omega), List.map_append]
    congr 2
    by_cases z : c = 0
    · rw [decide_eq_true z, if_pos z]; simp
    · rw [decide_eq_false z, if_neg z]; simp
theorem numT_ch : ∀ n, n < 400 → ∀ z ∈ numT n, z < 128 := by decide +kernel
theorem cellN_ch {f g : Nat → Int32} (hG : LnOK f g) {c : Nat} (hc : c < 25) : ∀ z ∈ cellN f g c, z < 128 := by
  intro z hz
  unfold cellN ownT at hz
  rcases List.mem_append.mp hz with h | h
  · exact numT_ch _ (hG.2.1 c hc) z h
  · rcases List.mem_append.mp h with h | h
    · rcases hG.2.2 c hc with q | ⟨k, hk, ek⟩
      · rw [if_pos q] at h; cases h
      · split at h
        · cases h
        · rw [ek, nI_clamp (by omega)] at h
          rcases List.mem_cons.mp h with h | h
          · omega
          · cases h
    · split at h
      · rcases List.mem_cons.mp h with h | h
        · omega
        · cases h
      · cases h
theorem rowN_ch {f g : Nat → Int32} (hG : LnOK f g) {r : Nat} (hr : r < 5) : ∀ {c : Nat}, c ≤ 5 → ∀ z ∈ rowN f g r c, z < 128
  | 0, _, z, hz => by cases hz
  | c + 1, h, z, hz => by
    unfold rowN at hz
    rcases List.mem_append.mp hz with q | q
    · exact rowN_ch hG hr (by omega) z q
    · rcases List.mem_append.mp q with q | q
      · split at q
        · cases q
        · rcases List.mem_cons.mp q with q | q
          · omega
          · cases q
      · exact cellN_ch hG (by omega) z q
end HC5
