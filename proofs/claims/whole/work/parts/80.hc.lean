section HC
def exOf (r : Nat) : String := if r = 1000011 then "java/lang/IndexOutOfBoundsException" else if r = 1000012 then "java/lang/IllegalArgumentException" else if r = 1000013 then "java/lang/IllegalStateException" else if r = 1000014 then "java/util/NoSuchElementException" else "java/lang/UnsupportedOperationException"
theorem flt_gi {r : Nat} (h : 1000010 ≤ r ∧ r ≤ 1000015) : r ∈ gIs := by
  have := flt_in (i := r - 1000010) (by omega)
  rwa [show 1000010 + (r - 1000010) = r by omega] at this
theorem fr_entry {np : Nat} {z : Int32} : 1000010 ≤ fltEntry np z ∧ fltEntry np z ≤ 1000015 := by
  unfold fltEntry; split
  · decide
  · split <;> decide
theorem fr_pile {f : Nat → Int32} {c z : Int32} : 1000010 ≤ fltPile f c z ∧ fltPile f c z ≤ 1000015 := by
  unfold fltPile; split
  · decide
  · split
    · decide
    · split <;> decide
theorem fr_drop {f hd rs : Nat → Int32} {np : Nat} {q c z : Int32} : 1000010 ≤ fltDrop f hd rs np q c z ∧ fltDrop f hd rs np q c z ≤ 1000015 := by
  unfold fltDrop; split
  · decide
  · split
    · exact fr_pile
    · split
      · decide
      · split <;> decide
theorem fr_take {f g : Nat → Int32} {np : Nat} {q c : Int32} : 1000010 ≤ fltTake f g np q c ∧ fltTake f g np q c ≤ 1000015 := by
  unfold fltTake; split
  · decide
  · split
    · decide
    · split <;> decide
theorem fr_slope {z : Int32} : 1000010 ≤ fltSlope z ∧ fltSlope z ≤ 1000015 := by
  unfold fltSlope; split <;> decide
set_option maxRecDepth 100000 in
set_option maxHeartbeats 4000000 in
theorem sh_thr {d r : Nat} {w : mW} (hr : 1000010 ≤ r ∧ r ≤ 1000015) : Sp d yX8_throwIfAny cX8_throwIfAny 1 none [.ref r] w 1 6 (fun v w' => v = none ∧ w' = w ∧ r = 1000010) (fun E w' => E = exOf r ∧ w' = w ∧ ¬ r = 1000010) := by
  refine Sp.of (by decide +kernel) (Nat.le_of_ble_eq_true rfl) (fun X hC hnl hE hR hN => ?_)
  have hC : Cx X RX8 cX8_throwIfAny d 1 6 := hC
  show Wp X 0 0 w [(0, .ref r)] [] 0
  refine r_aload_n hC dX8_throwIfAny_0 rfl (j := 0) rfl ?_
  refine r_gets hC sX8_throwIfAny_1 (v := .ref 1000011) gZ_f1 ?_
  refine r_acmp_ne hC dX8_throwIfAny_4 (tgt := 18) (by decide) (flt_gi hr) (by decide) (fun c4 => ?_) (fun c4 => ?_)
  · refine r_aload_n hC dX8_throwIfAny_18 rfl (j := 0) rfl ?_
    refine r_gets hC sX8_throwIfAny_19 (v := .ref 1000012) gZ_f2 ?_
    refine r_acmp_ne hC dX8_throwIfAny_22 (tgt := 36) (by decide) (flt_gi hr) (by decide) (fun c22 => ?_) (fun c22 => ?_)
    · refine r_aload_n hC dX8_throwIfAny_36 rfl (j := 0) rfl ?_
      refine r_gets hC sX8_throwIfAny_37 (v := .ref 1000013) gZ_f3 ?_
      refine r_acmp_ne hC dX8_throwIfAny_40 (tgt := 54) (by decide) (flt_gi hr) (by decide) (fun c40 => ?_) (fun c40 => ?_)
      · refine r_aload_n hC dX8_throwIfAny_54 rfl (j := 0) rfl ?_
        refine r_gets hC sX8_throwIfAny_55 (v := .ref 1000014) gZ_f4 ?_
        refine r_acmp_ne hC dX8_throwIfAny_58 (tgt := 72) (by decide) (flt_gi hr) (by decide) (fun c58 => ?_) (fun c58 => ?_)
        · refine r_aload_n hC dX8_throwIfAny_72 rfl (j := 0) rfl ?_
          refine r_gets hC sX8_throwIfAny_73 (v := .ref 1000015) gZ_f5 ?_
          refine r_acmp_ne hC dX8_throwIfAny_76 (tgt := 90) (by decide) (flt_gi hr) (by decide) (fun c76 => ?_) (fun c76 => ?_)
          · refine r_vret hC hE hR dX8_throwIfAny_90 (by omega) (by omega) (rfl) ?_
            exact ⟨rfl, rfl, by omega⟩
          · refine r_throwW hC hE hN tX8_throwIfAny_79 (Nat.le_of_ble_eq_true rfl) (by omega) (by omega) (rfl) ?_
            exact ⟨by rw [c76]; decide, rfl, by omega⟩
        · refine r_throwN hC hE hN tX8_throwIfAny_61 (Nat.le_of_ble_eq_true rfl) (by omega) (by omega) (rfl) ?_
          exact ⟨by rw [c58]; decide, rfl, by omega⟩
      · refine r_throwW hC hE hN tX8_throwIfAny_43 (Nat.le_of_ble_eq_true rfl) (by omega) (by omega) (rfl) ?_
        exact ⟨by rw [c40]; decide, rfl, by omega⟩
    · refine r_throwW hC hE hN tX8_throwIfAny_25 (Nat.le_of_ble_eq_true rfl) (by omega) (by omega) (rfl) ?_
      exact ⟨by rw [c22]; decide, rfl, by omega⟩
  · refine r_throwW hC hE hN tX8_throwIfAny_7 (Nat.le_of_ble_eq_true rfl) (by omega) (by omega) (rfl) ?_
    exact ⟨by rw [c4]; decide, rfl, by omega⟩
set_option maxRecDepth 100000 in
set_option maxHeartbeats 4000000 in
theorem sh_rp {d : Nat} {p : Int32} {w : mW} {x : Nat} {f g : Nat → Int32} {sl op lo : Int32} {hd rs : Nat → Int32} {np : Nat} {tp av lg pl tk : Int32} {l : List sv} {ea fa : Int32} {so : Option sv} {tx ln : List Nat} (H : CtAt w x ((f, g, sl, op, lo), hd, rs, np, tp, av, lg, pl, tk) l ea fa so tx ln) : Sp (d + 1) yX8_requirePlayer cX8_requirePlayer 2 none [.ref x, .int p] w 1 6 (fun v w' => v = none ∧ w' = w ∧ isP p np = true) (fun E w' => E = "java/lang/IndexOutOfBoundsException" ∧ w' = w ∧ isP p np = false) := by
  refine Sp.of (by decide +kernel) (Nat.le_of_ble_eq_true rfl) (fun X hC hnl hE hR hN => ?_)
  have hC : Cx X RX8 cX8_requirePlayer (d + 1) 1 6 := hC
  show Wp X 0 0 w [(0, .ref x), (1, .int p)] [] 0
  obtain ⟨ol, hs, yb, ys, hx, q, qn, cn, ps, cs, ho, hY, hB, hS, hA, hT, hX, hL, hHs, hol, hll, hring, hsnap⟩ := H
  have hy0 : w[x + 1]? = some (mO 7 [.ref (x + 2), .ref (x + 5), .ref (x + 6), .int (nI np), .int tp, .int av, .int lg, .int pl, .int tk]) := hY.1
  have hh : HillAt w (x + 2) (x + 3) (x + 4) (f, g, sl, op, lo) := hY.2.1
  have hy1 : w[x + 2]? = some (mO 6 [.ref (x + 3), .ref (x + 4), .int sl, .int op, .int lo]) := hh.1
  have hy2 : w[x + 3]? = some (mI 0 26 f) := hh.2.1
  have hy3 : w[x + 4]? = some (mI 0 25 g) := hh.2.2
  have hy4 : w[x + 5]? = some (mI 0 4 hd) := hY.2.2.1
  have hy5 : w[x + 6]? = some (mI 0 4 rs) := hY.2.2.2
  refine r_aload_n hC dX8_requirePlayer_0 rfl (j := 0) rfl ?_
  refine r_get hC gX8_requirePlayer_1 ho (v := .ref (x + 1)) rfl ?_
  refine r_iload_n hC dX8_requirePlayer_4 rfl (j := 1) rfl ?_
  refine r_callV hC (vs := [.int p]) vX8_requirePlayer_5 (sp_hasPlayer (d := d) (x := p) hY) hy0 rfl rfl (by omega) (by omega) (by omega) (Nat.le_of_ble_eq_true rfl) (fun v_1 w_1 hP_1 hlen_1 => ?_) (fun _ _ h => h.elim)
  rw [hP_1.1, hP_1.2]
  show Wp X 0 0 w [(0, .ref x), (1, .int p)] [.int (bI (isP p np))] 8
  refine r_if_ne hC dX8_requirePlayer_8 (tgt := 22) (by decide) (fun c8 => ?_) (fun c8 => ?_)
  · refine r_vret hC hE hR dX8_requirePlayer_22 (by omega) (by omega) (rfl) ?_
    exact ⟨rfl, rfl, bI_ne.mp c8⟩
  · refine r_throwW hC hE hN tX8_requirePlayer_11 (Nat.le_of_ble_eq_true rfl) (by omega) (by omega) (rfl) ?_
    exact ⟨rfl, rfl, (by cases h9 : isP p np with
      | true => rw [h9] at c8; exact absurd c8 (by decide)
      | false => rfl)⟩
set_option maxRecDepth 100000 in
set_option maxHeartbeats 4000000 in
theorem sh_rc {d : Nat} {c : Int32} {w : mW}  : Sp (d + 1) yX8_requireCell cX8_requireCell 1 none [.int c] w 1 6 (fun v w' => v = none ∧ w' = w ∧ isC c = true) (fun E w' => E = "java/lang/IndexOutOfBoundsException" ∧ w' = w ∧ isC c = false) := by
  refine Sp.of (by decide +kernel) (Nat.le_of_ble_eq_true rfl) (fun X hC hnl hE hR hN => ?_)
  have hC : Cx X RX8 cX8_requireCell (d + 1) 1 6 := hC
  show Wp X 0 0 w [(0, .int c)] [] 0
  refine r_iload_n hC dX8_requireCell_0 rfl (j := 0) rfl ?_
  refine r_callS hC (vs := [.int c]) vX8_requireCell_1 (sp_isCell (d := d) (x := c)) rfl (by omega) (by omega) (by omega) (Nat.le_of_ble_eq_true rfl) (fun v_1 w_1 hP_1 hlen_1 => ?_) (fun _ _ h => h.elim)
  rw [hP_1.1, hP_1.2]
  show Wp X 0 0 w [(0, .int c)] [.int (bI (isC c))] 4
  refine r_if_ne hC dX8_requireCell_4 (tgt := 18) (by decide) (fun c4 => ?_) (fun c4 => ?_)
  · refine r_vret hC hE hR dX8_requireCell_18 (by omega) (by omega) (rfl) ?_
    exact ⟨rfl, rfl, bI_ne.mp c4⟩
  · refine r_throwW hC hE hN tX8_requireCell_7 (Nat.le_of_ble_eq_true rfl) (by omega) (by omega) (rfl) ?_
    exact ⟨rfl, rfl, (by cases h9 : isC c with
      | true => rw [h9] at c4; exact absurd c4 (by decide)
      | false => rfl)⟩
set_option maxRecDepth 100000 in
set_option maxHeartbeats 4000000 in
theorem sh_rs {d : Nat} {c : Int32} {w : mW}  : Sp (d + 1) yX8_requireStones cX8_requireStones 1 none [.int c] w 1 6 (fun v w' => v = none ∧ w' = w ∧ isS c = true) (fun E w' => E = "java/lang/IllegalArgumentException" ∧ w' = w ∧ isS c = false) := by
  refine Sp.of (by decide +kernel) (Nat.le_of_ble_eq_true rfl) (fun X hC hnl hE hR hN => ?_)
  have hC : Cx X RX8 cX8_requireStones (d + 1) 1 6 := hC
  show Wp X 0 0 w [(0, .int c)] [] 0
  refine r_iload_n hC dX8_requireStones_0 rfl (j := 0) rfl ?_
  refine r_callS hC (vs := [.int c]) vX8_requireStones_1 (sp_isPlaceable (d := d) (x := c)) rfl (by omega) (by omega) (by omega) (Nat.le_of_ble_eq_true rfl) (fun v_1 w_1 hP_1 hlen_1 => ?_) (fun _ _ h => h.elim)
  rw [hP_1.1, hP_1.2]
  show Wp X 0 0 w [(0, .int c)] [.int (bI (isS c))] 4
  refine r_if_ne hC dX8_requireStones_4 (tgt := 18) (by decide) (fun c4 => ?_) (fun c4 => ?_)
  · refine r_vret hC hE hR dX8_requireStones_18 (by omega) (by omega) (rfl) ?_
    exact ⟨rfl, rfl, bI_ne.mp c4⟩
  · refine r_throwW hC hE hN tX8_requireStones_7 (Nat.le_of_ble_eq_true rfl) (by omega) (by omega) (rfl) ?_
    exact ⟨rfl, rfl, (by cases h9 : isS c with
      | true => rw [h9] at c4; exact absurd c4 (by decide)
      | false => rfl)⟩
set_option maxRecDepth 100000 in
set_option maxHeartbeats 4000000 in
theorem sh_playerCount {d : Nat} {w : mW} {x : Nat} {f g : Nat → Int32} {sl op lo : Int32} {hd rs : Nat → Int32} {np : Nat} {tp av lg pl tk : Int32} {l : List sv} {ea fa : Int32} {so : Option sv} {tx ln : List Nat} (H : CtAt w x ((f, g, sl, op, lo), hd, rs, np, tp, av, lg, pl, tk) l ea fa so tx ln)  : Sp d yX8_playerCount cX8_playerCount 1 (some .int) [.ref x] w 0 0 (fun v w' => v = some (.int (nI np)) ∧ w' = w) noX := by
  refine Sp.of (by decide +kernel) (Nat.le_of_ble_eq_true rfl) (fun X hC hnl hE hR hN => ?_)
  have hC : Cx X RX8 cX8_playerCount d 0 0 := hC
  show Wp X 0 0 w [(0, .ref x)] [] 0
  obtain ⟨ol, hs, yb, ys, hx, q, qn, cn, ps, cs, ho, hY, hB, hS, hA, hT, hX, hL, hHs, hol, hll, hring, hsnap⟩ := H
  have hy0 : w[x + 1]? = some (mO 7 [.ref (x + 2), .ref (x + 5), .ref (x + 6), .int (nI np), .int tp, .int av, .int lg, .int pl, .int tk]) := hY.1
  have hh : HillAt w (x + 2) (x + 3) (x + 4) (f, g, sl, op, lo) := hY.2.1
  have hy1 : w[x + 2]? = some (mO 6 [.ref (x + 3), .ref (x + 4), .int sl, .int op, .int lo]) := hh.1
  have hy2 : w[x + 3]? = some (mI 0 26 f) := hh.2.1
  have hy3 : w[x + 4]? = some (mI 0 25 g) := hh.2.2
  have hy4 : w[x + 5]? = some (mI 0 4 hd) := hY.2.2.1
  have hy5 : w[x + 6]? = some (mI 0 4 rs) := hY.2.2.2
  refine r_aload_n hC dX8_playerCount_0 rfl (j := 0) rfl ?_
  refine r_get hC gX8_playerCount_1 ho (v := .ref (x + 1)) rfl ?_
  refine r_get hC gX8_playerCount_4 hy0 (v := .int (nI np)) rfl ?_
  refine r_iret hC hE hR dX8_playerCount_7 (by omega) (by omega) (rfl) ?_
  exact ⟨rfl, rfl⟩
set_option maxRecDepth 100000 in
set_option maxHeartbeats 4000000 in
theorem sh_criticalSlope {d : Nat} {w : mW} {x : Nat} {f g : Nat → Int32} {sl op lo : Int32} {hd rs : Nat → Int32} {np : Nat} {tp av lg pl tk : Int32} {l : List sv} {ea fa : Int32} {so : Option sv} {tx ln : List Nat} (H : CtAt w x ((f, g, sl, op, lo), hd, rs, np, tp, av, lg, pl, tk) l ea fa so tx ln)  : Sp d yX8_criticalSlope cX8_criticalSlope 1 (some .int) [.ref x] w 0 0 (fun v w' => v = some (.int sl) ∧ w' = w) noX := by
  refine Sp.of (by decide +kernel) (Nat.le_of_ble_eq_true rfl) (fun X hC hnl hE hR hN => ?_)
  have hC : Cx X RX8 cX8_criticalSlope d 0 0 := hC
  show Wp X 0 0 w [(0, .ref x)] [] 0
  obtain ⟨ol, hs, yb, ys, hx, q, qn, cn, ps, cs, ho, hY, hB, hS, hA, hT, hX, hL, hHs, hol, hll, hring, hsnap⟩ := H
  have hy0 : w[x + 1]? = some (mO 7 [.ref (x + 2), .ref (x + 5), .ref (x + 6), .int (nI np), .int tp, .int av, .int lg, .int pl, .int tk]) := hY.1
  have hh : HillAt w (x + 2) (x + 3) (x + 4) (f, g, sl, op, lo) := hY.2.1
  have hy1 : w[x + 2]? = some (mO 6 [.ref (x + 3), .ref (x + 4), .int sl, .int op, .int lo]) := hh.1
  have hy2 : w[x + 3]? = some (mI 0 26 f) := hh.2.1
  have hy3 : w[x + 4]? = some (mI 0 25 g) := hh.2.2
  have hy4 : w[x + 5]? = some (mI 0 4 hd) := hY.2.2.1
  have hy5 : w[x + 6]? = some (mI 0 4 rs) := hY.2.2.2
  refine r_aload_n hC dX8_criticalSlope_0 rfl (j := 0) rfl ?_
  refine r_get hC gX8_criticalSlope_1 ho (v := .ref (x + 1)) rfl ?_
  refine r_get hC gX8_criticalSlope_4 hy0 (v := .ref (x + 2)) rfl ?_
  refine r_get hC gX8_criticalSlope_7 hy1 (v := .int sl) rfl ?_
  refine r_iret hC hE hR dX8_criticalSlope_10 (by omega) (by omega) (rfl) ?_
  exact ⟨rfl, rfl⟩
set_option maxRecDepth 100000 in
set_option maxHeartbeats 4000000 in
theorem sh_toppleTotal {d : Nat} {w : mW} {x : Nat} {f g : Nat → Int32} {sl op lo : Int32} {hd rs : Nat → Int32} {np : Nat} {tp av lg pl tk : Int32} {l : List sv} {ea fa : Int32} {so : Option sv} {tx ln : List Nat} (H : CtAt w x ((f, g, sl, op, lo), hd, rs, np, tp, av, lg, pl, tk) l ea fa so tx ln)  : Sp d yX8_toppleTotal cX8_toppleTotal 1 (some .int) [.ref x] w 0 0 (fun v w' => v = some (.int tp) ∧ w' = w) noX := by
  refine Sp.of (by decide +kernel) (Nat.le_of_ble_eq_true rfl) (fun X hC hnl hE hR hN => ?_)
  have hC : Cx X RX8 cX8_toppleTotal d 0 0 := hC
  show Wp X 0 0 w [(0, .ref x)] [] 0
  obtain ⟨ol, hs, yb, ys, hx, q, qn, cn, ps, cs, ho, hY, hB, hS, hA, hT, hX, hL, hHs, hol, hll, hring, hsnap⟩ := H
  have hy0 : w[x + 1]? = some (mO 7 [.ref (x + 2), .ref (x + 5), .ref (x + 6), .int (nI np), .int tp, .int av, .int lg, .int pl, .int tk]) := hY.1
  have hh : HillAt w (x + 2) (x + 3) (x + 4) (f, g, sl, op, lo) := hY.2.1
  have hy1 : w[x + 2]? = some (mO 6 [.ref (x + 3), .ref (x + 4), .int sl, .int op, .int lo]) := hh.1
  have hy2 : w[x + 3]? = some (mI 0 26 f) := hh.2.1
  have hy3 : w[x + 4]? = some (mI 0 25 g) := hh.2.2
  have hy4 : w[x + 5]? = some (mI 0 4 hd) := hY.2.2.1
  have hy5 : w[x + 6]? = some (mI 0 4 rs) := hY.2.2.2
  refine r_aload_n hC dX8_toppleTotal_0 rfl (j := 0) rfl ?_
  refine r_get hC gX8_toppleTotal_1 ho (v := .ref (x + 1)) rfl ?_
  refine r_get hC gX8_toppleTotal_4 hy0 (v := .int tp) rfl ?_
  refine r_iret hC hE hR dX8_toppleTotal_7 (by omega) (by omega) (rfl) ?_
  exact ⟨rfl, rfl⟩
set_option maxRecDepth 100000 in
set_option maxHeartbeats 4000000 in
theorem sh_avalancheCount {d : Nat} {w : mW} {x : Nat} {f g : Nat → Int32} {sl op lo : Int32} {hd rs : Nat → Int32} {np : Nat} {tp av lg pl tk : Int32} {l : List sv} {ea fa : Int32} {so : Option sv} {tx ln : List Nat} (H : CtAt w x ((f, g, sl, op, lo), hd, rs, np, tp, av, lg, pl, tk) l ea fa so tx ln)  : Sp d yX8_avalancheCount cX8_avalancheCount 1 (some .int) [.ref x] w 0 0 (fun v w' => v = some (.int av) ∧ w' = w) noX := by
  refine Sp.of (by decide +kernel) (Nat.le_of_ble_eq_true rfl) (fun X hC hnl hE hR hN => ?_)
  have hC : Cx X RX8 cX8_avalancheCount d 0 0 := hC
  show Wp X 0 0 w [(0, .ref x)] [] 0
  obtain ⟨ol, hs, yb, ys, hx, q, qn, cn, ps, cs, ho, hY, hB, hS, hA, hT, hX, hL, hHs, hol, hll, hring, hsnap⟩ := H
  have hy0 : w[x + 1]? = some (mO 7 [.ref (x + 2), .ref (x + 5), .ref (x + 6), .int (nI np), .int tp, .int av, .int lg, .int pl, .int tk]) := hY.1
  have hh : HillAt w (x + 2) (x + 3) (x + 4) (f, g, sl, op, lo) := hY.2.1
  have hy1 : w[x + 2]? = some (mO 6 [.ref (x + 3), .ref (x + 4), .int sl, .int op, .int lo]) := hh.1
  have hy2 : w[x + 3]? = some (mI 0 26 f) := hh.2.1
  have hy3 : w[x + 4]? = some (mI 0 25 g) := hh.2.2
  have hy4 : w[x + 5]? = some (mI 0 4 hd) := hY.2.2.1
  have hy5 : w[x + 6]? = some (mI 0 4 rs) := hY.2.2.2
  refine r_aload_n hC dX8_avalancheCount_0 rfl (j := 0) rfl ?_
  refine r_get hC gX8_avalancheCount_1 ho (v := .ref (x + 1)) rfl ?_
  refine r_get hC gX8_avalancheCount_4 hy0 (v := .int av) rfl ?_
  refine r_iret hC hE hR dX8_avalancheCount_7 (by omega) (by omega) (rfl) ?_
  exact ⟨rfl, rfl⟩
set_option maxRecDepth 100000 in
set_option maxHeartbeats 4000000 in
theorem sh_largestAvalanche {d : Nat} {w : mW} {x : Nat} {f g : Nat → Int32} {sl op lo : Int32} {hd rs : Nat → Int32} {np : Nat} {tp av lg pl tk : Int32} {l : List sv} {ea fa : Int32} {so : Option sv} {tx ln : List Nat} (H : CtAt w x ((f, g, sl, op, lo), hd, rs, np, tp, av, lg, pl, tk) l ea fa so tx ln)  : Sp d yX8_largestAvalanche cX8_largestAvalanche 1 (some .int) [.ref x] w 0 0 (fun v w' => v = some (.int lg) ∧ w' = w) noX := by
  refine Sp.of (by decide +kernel) (Nat.le_of_ble_eq_true rfl) (fun X hC hnl hE hR hN => ?_)
  have hC : Cx X RX8 cX8_largestAvalanche d 0 0 := hC
  show Wp X 0 0 w [(0, .ref x)] [] 0
  obtain ⟨ol, hs, yb, ys, hx, q, qn, cn, ps, cs, ho, hY, hB, hS, hA, hT, hX, hL, hHs, hol, hll, hring, hsnap⟩ := H
  have hy0 : w[x + 1]? = some (mO 7 [.ref (x + 2), .ref (x + 5), .ref (x + 6), .int (nI np), .int tp, .int av, .int lg, .int pl, .int tk]) := hY.1
  have hh : HillAt w (x + 2) (x + 3) (x + 4) (f, g, sl, op, lo) := hY.2.1
  have hy1 : w[x + 2]? = some (mO 6 [.ref (x + 3), .ref (x + 4), .int sl, .int op, .int lo]) := hh.1
  have hy2 : w[x + 3]? = some (mI 0 26 f) := hh.2.1
  have hy3 : w[x + 4]? = some (mI 0 25 g) := hh.2.2
  have hy4 : w[x + 5]? = some (mI 0 4 hd) := hY.2.2.1
  have hy5 : w[x + 6]? = some (mI 0 4 rs) := hY.2.2.2
  refine r_aload_n hC dX8_largestAvalanche_0 rfl (j := 0) rfl ?_
  refine r_get hC gX8_largestAvalanche_1 ho (v := .ref (x + 1)) rfl ?_
  refine r_get hC gX8_largestAvalanche_4 hy0 (v := .int lg) rfl ?_
  refine r_iret hC hE hR dX8_largestAvalanche_7 (by omega) (by omega) (rfl) ?_
  exact ⟨rfl, rfl⟩
set_option maxRecDepth 100000 in
set_option maxHeartbeats 4000000 in
theorem sh_placedTotal {d : Nat} {w : mW} {x : Nat} {f g : Nat → Int32} {sl op lo : Int32} {hd rs : Nat → Int32} {np : Nat} {tp av lg pl tk : Int32} {l : List sv} {ea fa : Int32} {so : Option sv} {tx ln : List Nat} (H : CtAt w x ((f, g, sl, op, lo), hd, rs, np, tp, av, lg, pl, tk) l ea fa so tx ln)  : Sp d yX8_placedTotal cX8_placedTotal 1 (some .int) [.ref x] w 0 0 (fun v w' => v = some (.int pl) ∧ w' = w) noX := by
  refine Sp.of (by decide +kernel) (Nat.le_of_ble_eq_true rfl) (fun X hC hnl hE hR hN => ?_)
  have hC : Cx X RX8 cX8_placedTotal d 0 0 := hC
  show Wp X 0 0 w [(0, .ref x)] [] 0
  obtain ⟨ol, hs, yb, ys, hx, q, qn, cn, ps, cs, ho, hY, hB, hS, hA, hT, hX, hL, hHs, hol, hll, hring, hsnap⟩ := H
  have hy0 : w[x + 1]? = some (mO 7 [.ref (x + 2), .ref (x + 5), .ref (x + 6), .int (nI np), .int tp, .int av, .int lg, .int pl, .int tk]) := hY.1
  have hh : HillAt w (x + 2) (x + 3) (x + 4) (f, g, sl, op, lo) := hY.2.1
  have hy1 : w[x + 2]? = some (mO 6 [.ref (x + 3), .ref (x + 4), .int sl, .int op, .int lo]) := hh.1
  have hy2 : w[x + 3]? = some (mI 0 26 f) := hh.2.1
  have hy3 : w[x + 4]? = some (mI 0 25 g) := hh.2.2
  have hy4 : w[x + 5]? = some (mI 0 4 hd) := hY.2.2.1
  have hy5 : w[x + 6]? = some (mI 0 4 rs) := hY.2.2.2
  refine r_aload_n hC dX8_placedTotal_0 rfl (j := 0) rfl ?_
  refine r_get hC gX8_placedTotal_1 ho (v := .ref (x + 1)) rfl ?_
  refine r_get hC gX8_placedTotal_4 hy0 (v := .int pl) rfl ?_
  refine r_iret hC hE hR dX8_placedTotal_7 (by omega) (by omega) (rfl) ?_
  exact ⟨rfl, rfl⟩
set_option maxRecDepth 100000 in
set_option maxHeartbeats 4000000 in
theorem sh_lostTotal {d : Nat} {w : mW} {x : Nat} {f g : Nat → Int32} {sl op lo : Int32} {hd rs : Nat → Int32} {np : Nat} {tp av lg pl tk : Int32} {l : List sv} {ea fa : Int32} {so : Option sv} {tx ln : List Nat} (H : CtAt w x ((f, g, sl, op, lo), hd, rs, np, tp, av, lg, pl, tk) l ea fa so tx ln)  : Sp d yX8_lostTotal cX8_lostTotal 1 (some .int) [.ref x] w 0 0 (fun v w' => v = some (.int lo) ∧ w' = w) noX := by
  refine Sp.of (by decide +kernel) (Nat.le_of_ble_eq_true rfl) (fun X hC hnl hE hR hN => ?_)
  have hC : Cx X RX8 cX8_lostTotal d 0 0 := hC
  show Wp X 0 0 w [(0, .ref x)] [] 0
  obtain ⟨ol, hs, yb, ys, hx, q, qn, cn, ps, cs, ho, hY, hB, hS, hA, hT, hX, hL, hHs, hol, hll, hring, hsnap⟩ := H
  have hy0 : w[x + 1]? = some (mO 7 [.ref (x + 2), .ref (x + 5), .ref (x + 6), .int (nI np), .int tp, .int av, .int lg, .int pl, .int tk]) := hY.1
  have hh : HillAt w (x + 2) (x + 3) (x + 4) (f, g, sl, op, lo) := hY.2.1
  have hy1 : w[x + 2]? = some (mO 6 [.ref (x + 3), .ref (x + 4), .int sl, .int op, .int lo]) := hh.1
  have hy2 : w[x + 3]? = some (mI 0 26 f) := hh.2.1
  have hy3 : w[x + 4]? = some (mI 0 25 g) := hh.2.2
  have hy4 : w[x + 5]? = some (mI 0 4 hd) := hY.2.2.1
  have hy5 : w[x + 6]? = some (mI 0 4 rs) := hY.2.2.2
  refine r_aload_n hC dX8_lostTotal_0 rfl (j := 0) rfl ?_
  refine r_get hC gX8_lostTotal_1 ho (v := .ref (x + 1)) rfl ?_
  refine r_get hC gX8_lostTotal_4 hy0 (v := .ref (x + 2)) rfl ?_
  refine r_get hC gX8_lostTotal_7 hy1 (v := .int lo) rfl ?_
  refine r_iret hC hE hR dX8_lostTotal_10 (by omega) (by omega) (rfl) ?_
  exact ⟨rfl, rfl⟩
set_option maxRecDepth 100000 in
set_option maxHeartbeats 4000000 in
theorem sh_takenTotal {d : Nat} {w : mW} {x : Nat} {f g : Nat → Int32} {sl op lo : Int32} {hd rs : Nat → Int32} {np : Nat} {tp av lg pl tk : Int32} {l : List sv} {ea fa : Int32} {so : Option sv} {tx ln : List Nat} (H : CtAt w x ((f, g, sl, op, lo), hd, rs, np, tp, av, lg, pl, tk) l ea fa so tx ln)  : Sp d yX8_takenTotal cX8_takenTotal 1 (some .int) [.ref x] w 0 0 (fun v w' => v = some (.int tk) ∧ w' = w) noX := by
  refine Sp.of (by decide +kernel) (Nat.le_of_ble_eq_true rfl) (fun X hC hnl hE hR hN => ?_)
  have hC : Cx X RX8 cX8_takenTotal d 0 0 := hC
  show Wp X 0 0 w [(0, .ref x)] [] 0
  obtain ⟨ol, hs, yb, ys, hx, q, qn, cn, ps, cs, ho, hY, hB, hS, hA, hT, hX, hL, hHs, hol, hll, hring, hsnap⟩ := H
  have hy0 : w[x + 1]? = some (mO 7 [.ref (x + 2), .ref (x + 5), .ref (x + 6), .int (nI np), .int tp, .int av, .int lg, .int pl, .int tk]) := hY.1
  have hh : HillAt w (x + 2) (x + 3) (x + 4) (f, g, sl, op, lo) := hY.2.1
  have hy1 : w[x + 2]? = some (mO 6 [.ref (x + 3), .ref (x + 4), .int sl, .int op, .int lo]) := hh.1
  have hy2 : w[x + 3]? = some (mI 0 26 f) := hh.2.1
  have hy3 : w[x + 4]? = some (mI 0 25 g) := hh.2.2
  have hy4 : w[x + 5]? = some (mI 0 4 hd) := hY.2.2.1
  have hy5 : w[x + 6]? = some (mI 0 4 rs) := hY.2.2.2
  refine r_aload_n hC dX8_takenTotal_0 rfl (j := 0) rfl ?_
  refine r_get hC gX8_takenTotal_1 ho (v := .ref (x + 1)) rfl ?_
  refine r_get hC gX8_takenTotal_4 hy0 (v := .int tk) rfl ?_
  refine r_iret hC hE hR dX8_takenTotal_7 (by omega) (by omega) (rfl) ?_
  exact ⟨rfl, rfl⟩
set_option maxRecDepth 100000 in
set_option maxHeartbeats 4000000 in
theorem sh_isBorderOpen {d : Nat} {w : mW} {x : Nat} {f g : Nat → Int32} {sl op lo : Int32} {hd rs : Nat → Int32} {np : Nat} {tp av lg pl tk : Int32} {l : List sv} {ea fa : Int32} {so : Option sv} {tx ln : List Nat} (H : CtAt w x ((f, g, sl, op, lo), hd, rs, np, tp, av, lg, pl, tk) l ea fa so tx ln) (hop : op = 0 ∨ op = 1) : Sp d yX8_isBorderOpen cX8_isBorderOpen 1 (some .boolean) [.ref x] w 0 0 (fun v w' => v = some (.int op) ∧ w' = w) noX := by
  refine Sp.of (by decide +kernel) (Nat.le_of_ble_eq_true rfl) (fun X hC hnl hE hR hN => ?_)
  have hC : Cx X RX8 cX8_isBorderOpen d 0 0 := hC
  show Wp X 0 0 w [(0, .ref x)] [] 0
  obtain ⟨ol, hs, yb, ys, hx, q, qn, cn, ps, cs, ho, hY, hB, hS, hA, hT, hX, hL, hHs, hol, hll, hring, hsnap⟩ := H
  have hy0 : w[x + 1]? = some (mO 7 [.ref (x + 2), .ref (x + 5), .ref (x + 6), .int (nI np), .int tp, .int av, .int lg, .int pl, .int tk]) := hY.1
  have hh : HillAt w (x + 2) (x + 3) (x + 4) (f, g, sl, op, lo) := hY.2.1
  have hy1 : w[x + 2]? = some (mO 6 [.ref (x + 3), .ref (x + 4), .int sl, .int op, .int lo]) := hh.1
  have hy2 : w[x + 3]? = some (mI 0 26 f) := hh.2.1
  have hy3 : w[x + 4]? = some (mI 0 25 g) := hh.2.2
  have hy4 : w[x + 5]? = some (mI 0 4 hd) := hY.2.2.1
  have hy5 : w[x + 6]? = some (mI 0 4 rs) := hY.2.2.2
  refine r_aload_n hC dX8_isBorderOpen_0 rfl (j := 0) rfl ?_
  refine r_get hC gX8_isBorderOpen_1 ho (v := .ref (x + 1)) rfl ?_
  refine r_get hC gX8_isBorderOpen_4 hy0 (v := .ref (x + 2)) rfl ?_
  refine r_get hC gX8_isBorderOpen_7 hy1 (v := .int op) rfl ?_
  refine r_nret hC hE hR dX8_isBorderOpen_10 (by rcases hop with rfl | rfl <;> decide) (by omega) (by omega) (rfl) ?_
  exact ⟨rfl, rfl⟩
set_option maxRecDepth 100000 in
set_option maxHeartbeats 4000000 in
theorem sh_stonesOnHill {d : Nat} {w : mW} {x : Nat} {f g : Nat → Int32} {sl op lo : Int32} {hd rs : Nat → Int32} {np : Nat} {tp av lg pl tk : Int32} {l : List sv} {ea fa : Int32} {so : Option sv} {tx ln : List Nat} (H : CtAt w x ((f, g, sl, op, lo), hd, rs, np, tp, av, lg, pl, tk) l ea fa so tx ln)  : Sp (d + 1) yX8_stonesOnHill cX8_stonesOnHill 1 (some .int) [.ref x] w 0 0 (fun v w' => v = some (.int (hSum f 25)) ∧ w' = w) noX := by
  refine Sp.of (by decide +kernel) (Nat.le_of_ble_eq_true rfl) (fun X hC hnl hE hR hN => ?_)
  have hC : Cx X RX8 cX8_stonesOnHill (d + 1) 0 0 := hC
  show Wp X 0 0 w [(0, .ref x)] [] 0
  obtain ⟨ol, hs, yb, ys, hx, q, qn, cn, ps, cs, ho, hY, hB, hS, hA, hT, hX, hL, hHs, hol, hll, hring, hsnap⟩ := H
  have hy0 : w[x + 1]? = some (mO 7 [.ref (x + 2), .ref (x + 5), .ref (x + 6), .int (nI np), .int tp, .int av, .int lg, .int pl, .int tk]) := hY.1
  have hh : HillAt w (x + 2) (x + 3) (x + 4) (f, g, sl, op, lo) := hY.2.1
  have hy1 : w[x + 2]? = some (mO 6 [.ref (x + 3), .ref (x + 4), .int sl, .int op, .int lo]) := hh.1
  have hy2 : w[x + 3]? = some (mI 0 26 f) := hh.2.1
  have hy3 : w[x + 4]? = some (mI 0 25 g) := hh.2.2
  have hy4 : w[x + 5]? = some (mI 0 4 hd) := hY.2.2.1
  have hy5 : w[x + 6]? = some (mI 0 4 rs) := hY.2.2.2
  refine r_aload_n hC dX8_stonesOnHill_0 rfl (j := 0) rfl ?_
  refine r_get hC gX8_stonesOnHill_1 ho (v := .ref (x + 1)) rfl ?_
  refine r_get hC gX8_stonesOnHill_4 hy0 (v := .ref (x + 2)) rfl ?_
  refine r_callV hC (vs := []) vX8_stonesOnHill_7 (sp_cells (d := d) hh) hy1 rfl rfl (by omega) (by omega) (by omega) (Nat.le_of_ble_eq_true rfl) (fun v_1 w_1 hP_1 hlen_1 => ?_) (fun _ _ h => h.elim)
  rw [hP_1.1, hP_1.2]
  show Wp X 0 0 w [(0, .ref x)] [.int (hSum f 25)] 10
  refine r_iret hC hE hR dX8_stonesOnHill_10 (by omega) (by omega) (rfl) ?_
  exact ⟨rfl, rfl⟩
set_option maxRecDepth 100000 in
set_option maxHeartbeats 4000000 in
theorem sh_stonesByLevels {d : Nat} {w : mW} {x : Nat} {f g : Nat → Int32} {sl op lo : Int32} {hd rs : Nat → Int32} {np : Nat} {tp av lg pl tk : Int32} {l : List sv} {ea fa : Int32} {so : Option sv} {tx ln : List Nat} (H : CtAt w x ((f, g, sl, op, lo), hd, rs, np, tp, av, lg, pl, tk) l ea fa so tx ln) (hpos : ∀ j, j < 25 → ¬ f j < 0) (h400 : ∀ j, j < 25 → cN f j < 400) : Sp (d + 2) yX8_stonesByLevels cX8_stonesByLevels 1 (some .int) [.ref x] w 0 0 (fun v w' => v = some (.int (hSum f 25)) ∧ w' = w) noX := by
  refine Sp.of (by decide +kernel) (Nat.le_of_ble_eq_true rfl) (fun X hC hnl hE hR hN => ?_)
  have hC : Cx X RX8 cX8_stonesByLevels (d + 2) 0 0 := hC
  show Wp X 0 0 w [(0, .ref x)] [] 0
  obtain ⟨ol, hs, yb, ys, hx, q, qn, cn, ps, cs, ho, hY, hB, hS, hA, hT, hX, hL, hHs, hol, hll, hring, hsnap⟩ := H
  have hy0 : w[x + 1]? = some (mO 7 [.ref (x + 2), .ref (x + 5), .ref (x + 6), .int (nI np), .int tp, .int av, .int lg, .int pl, .int tk]) := hY.1
  have hh : HillAt w (x + 2) (x + 3) (x + 4) (f, g, sl, op, lo) := hY.2.1
  have hy1 : w[x + 2]? = some (mO 6 [.ref (x + 3), .ref (x + 4), .int sl, .int op, .int lo]) := hh.1
  have hy2 : w[x + 3]? = some (mI 0 26 f) := hh.2.1
  have hy3 : w[x + 4]? = some (mI 0 25 g) := hh.2.2
  have hy4 : w[x + 5]? = some (mI 0 4 hd) := hY.2.2.1
  have hy5 : w[x + 6]? = some (mI 0 4 rs) := hY.2.2.2
  refine r_aload_n hC dX8_stonesByLevels_0 rfl (j := 0) rfl ?_
  refine r_get hC gX8_stonesByLevels_1 ho (v := .ref (x + 1)) rfl ?_
  refine r_get hC gX8_stonesByLevels_4 hy0 (v := .ref (x + 2)) rfl ?_
  refine r_callV hC (vs := []) vX8_stonesByLevels_7 (sp_levels (d := d) hh hpos h400) hy1 rfl rfl (by omega) (by omega) (by omega) (Nat.le_of_ble_eq_true rfl) (fun v_1 w_1 hP_1 hlen_1 => ?_) (fun _ _ h => h.elim)
  rw [hP_1.1, hP_1.2]
  show Wp X 0 0 w [(0, .ref x)] [.int (hSum f 25)] 10
  refine r_iret hC hE hR dX8_stonesByLevels_10 (by omega) (by omega) (rfl) ?_
  exact ⟨rfl, rfl⟩
set_option maxRecDepth 100000 in
set_option maxHeartbeats 4000000 in
theorem sh_highestCell {d : Nat} {w : mW} {x : Nat} {f g : Nat → Int32} {sl op lo : Int32} {hd rs : Nat → Int32} {np : Nat} {tp av lg pl tk : Int32} {l : List sv} {ea fa : Int32} {so : Option sv} {tx ln : List Nat} (H : CtAt w x ((f, g, sl, op, lo), hd, rs, np, tp, av, lg, pl, tk) l ea fa so tx ln)  : Sp (d + 1) yX8_highestCell cX8_highestCell 1 (some .int) [.ref x] w 0 0 (fun v w' => v = some (.int (nI (hMax f 25))) ∧ w' = w) noX := by
  refine Sp.of (by decide +kernel) (Nat.le_of_ble_eq_true rfl) (fun X hC hnl hE hR hN => ?_)
  have hC : Cx X RX8 cX8_highestCell (d + 1) 0 0 := hC
  show Wp X 0 0 w [(0, .ref x)] [] 0
  obtain ⟨ol, hs, yb, ys, hx, q, qn, cn, ps, cs, ho, hY, hB, hS, hA, hT, hX, hL, hHs, hol, hll, hring, hsnap⟩ := H
  have hy0 : w[x + 1]? = some (mO 7 [.ref (x + 2), .ref (x + 5), .ref (x + 6), .int (nI np), .int tp, .int av, .int lg, .int pl, .int tk]) := hY.1
  have hh : HillAt w (x + 2) (x + 3) (x + 4) (f, g, sl, op, lo) := hY.2.1
  have hy1 : w[x + 2]? = some (mO 6 [.ref (x + 3), .ref (x + 4), .int sl, .int op, .int lo]) := hh.1
  have hy2 : w[x + 3]? = some (mI 0 26 f) := hh.2.1
  have hy3 : w[x + 4]? = some (mI 0 25 g) := hh.2.2
  have hy4 : w[x + 5]? = some (mI 0 4 hd) := hY.2.2.1
  have hy5 : w[x + 6]? = some (mI 0 4 rs) := hY.2.2.2
  refine r_aload_n hC dX8_highestCell_0 rfl (j := 0) rfl ?_
  refine r_get hC gX8_highestCell_1 ho (v := .ref (x + 1)) rfl ?_
  refine r_get hC gX8_highestCell_4 hy0 (v := .ref (x + 2)) rfl ?_
  refine r_callV hC (vs := []) vX8_highestCell_7 (sp_highest (d := d) hh) hy1 rfl rfl (by omega) (by omega) (by omega) (Nat.le_of_ble_eq_true rfl) (fun v_1 w_1 hP_1 hlen_1 => ?_) (fun _ _ h => h.elim)
  rw [hP_1.1, hP_1.2]
  show Wp X 0 0 w [(0, .ref x)] [.int (nI (hMax f 25))] 10
  refine r_iret hC hE hR dX8_highestCell_10 (by omega) (by omega) (rfl) ?_
  exact ⟨rfl, rfl⟩
set_option maxRecDepth 100000 in
set_option maxHeartbeats 4000000 in
theorem sh_peakCount {d : Nat} {w : mW} {x : Nat} {f g : Nat → Int32} {sl op lo : Int32} {hd rs : Nat → Int32} {np : Nat} {tp av lg pl tk : Int32} {l : List sv} {ea fa : Int32} {so : Option sv} {tx ln : List Nat} (H : CtAt w x ((f, g, sl, op, lo), hd, rs, np, tp, av, lg, pl, tk) l ea fa so tx ln)  : Sp (d + 2) yX8_peakCount cX8_peakCount 1 (some .int) [.ref x] w 0 0 (fun v w' => v = some (.int (hCnt (hPeak f) 25)) ∧ w' = w) noX := by
  refine Sp.of (by decide +kernel) (Nat.le_of_ble_eq_true rfl) (fun X hC hnl hE hR hN => ?_)
  have hC : Cx X RX8 cX8_peakCount (d + 2) 0 0 := hC
  show Wp X 0 0 w [(0, .ref x)] [] 0
  obtain ⟨ol, hs, yb, ys, hx, q, qn, cn, ps, cs, ho, hY, hB, hS, hA, hT, hX, hL, hHs, hol, hll, hring, hsnap⟩ := H
  have hy0 : w[x + 1]? = some (mO 7 [.ref (x + 2), .ref (x + 5), .ref (x + 6), .int (nI np), .int tp, .int av, .int lg, .int pl, .int tk]) := hY.1
  have hh : HillAt w (x + 2) (x + 3) (x + 4) (f, g, sl, op, lo) := hY.2.1
  have hy1 : w[x + 2]? = some (mO 6 [.ref (x + 3), .ref (x + 4), .int sl, .int op, .int lo]) := hh.1
  have hy2 : w[x + 3]? = some (mI 0 26 f) := hh.2.1
  have hy3 : w[x + 4]? = some (mI 0 25 g) := hh.2.2
  have hy4 : w[x + 5]? = some (mI 0 4 hd) := hY.2.2.1
  have hy5 : w[x + 6]? = some (mI 0 4 rs) := hY.2.2.2
  refine r_aload_n hC dX8_peakCount_0 rfl (j := 0) rfl ?_
  refine r_get hC gX8_peakCount_1 ho (v := .ref (x + 1)) rfl ?_
  refine r_get hC gX8_peakCount_4 hy0 (v := .ref (x + 2)) rfl ?_
  refine r_callV hC (vs := []) vX8_peakCount_7 (sp_peaks (d := d) hh) hy1 rfl rfl (by omega) (by omega) (by omega) (Nat.le_of_ble_eq_true rfl) (fun v_1 w_1 hP_1 hlen_1 => ?_) (fun _ _ h => h.elim)
  rw [hP_1.1, hP_1.2]
  show Wp X 0 0 w [(0, .ref x)] [.int (hCnt (hPeak f) 25)] 10
  refine r_iret hC hE hR dX8_peakCount_10 (by omega) (by omega) (rfl) ?_
  exact ⟨rfl, rfl⟩
set_option maxRecDepth 100000 in
set_option maxHeartbeats 4000000 in
theorem sh_hand {d : Nat} {p : Int32} {w : mW} {x : Nat} {f g : Nat → Int32} {sl op lo : Int32} {hd rs : Nat → Int32} {np : Nat} {tp av lg pl tk : Int32} {l : List sv} {ea fa : Int32} {so : Option sv} {tx ln : List Nat} (H : CtAt w x ((f, g, sl, op, lo), hd, rs, np, tp, av, lg, pl, tk) l ea fa so tx ln) (hnp : np ≤ 4) : Sp (d + 2) yX8_hand cX8_hand 2 (some .int) [.ref x, .int p] w 1 6 (fun v w' => isP p np = true ∧ v = some (.int (hd p.toNatClampNeg)) ∧ w' = w) (fun E w' => E = "java/lang/IndexOutOfBoundsException" ∧ w' = w ∧ isP p np = false) := by
  refine Sp.of (by decide +kernel) (Nat.le_of_ble_eq_true rfl) (fun X hC hnl hE hR hN => ?_)
  have hC : Cx X RX8 cX8_hand (d + 2) 1 6 := hC
  show Wp X 0 0 w [(0, .ref x), (1, .int p)] [] 0
  have H9 := H
  obtain ⟨ol, hs, yb, ys, hx, q, qn, cn, ps, cs, ho, hY, hB, hS, hA, hT, hX, hL, hHs, hol, hll, hring, hsnap⟩ := H
  have hy0 : w[x + 1]? = some (mO 7 [.ref (x + 2), .ref (x + 5), .ref (x + 6), .int (nI np), .int tp, .int av, .int lg, .int pl, .int tk]) := hY.1
  have hh : HillAt w (x + 2) (x + 3) (x + 4) (f, g, sl, op, lo) := hY.2.1
  have hy1 : w[x + 2]? = some (mO 6 [.ref (x + 3), .ref (x + 4), .int sl, .int op, .int lo]) := hh.1
  have hy2 : w[x + 3]? = some (mI 0 26 f) := hh.2.1
  have hy3 : w[x + 4]? = some (mI 0 25 g) := hh.2.2
  have hy4 : w[x + 5]? = some (mI 0 4 hd) := hY.2.2.1
  have hy5 : w[x + 6]? = some (mI 0 4 rs) := hY.2.2.2
  refine r_aload_n hC dX8_hand_0 rfl (j := 0) rfl ?_
  refine r_iload_n hC dX8_hand_1 rfl (j := 1) rfl ?_
  refine r_callV hC (vs := [.int p]) vX8_hand_2 (sh_rp (d := d) (p := p) H9) ho rfl rfl (by omega) (by omega) (by omega) (Nat.le_of_ble_eq_true rfl) (fun v_1 w_1 hP_1 hlen_1 => ?_) (fun E_1 w9_1 hX_1 hl9_1 => r_out hC hE hN (by omega) (by omega) (hl9_1.trans (rfl)) (hX_1))
  rw [hP_1.1, hP_1.2.1]
  have hp := hP_1.2.2
  show Wp X (0 + 1) (0 + 6) w [(0, .ref x), (1, .int p)] [] 5
  refine r_aload_n hC dX8_hand_5 rfl (j := 0) rfl ?_
  refine r_get hC gX8_hand_6 ho (v := .ref (x + 1)) rfl ?_
  refine r_get hC gX8_hand_9 hy0 (v := .ref (x + 5)) rfl ?_
  refine r_iload_n hC dX8_hand_12 rfl (j := 1) rfl ?_
  refine r_iald hC dX8_hand_13 (j := p.toNatClampNeg) hy4 (isP_ix hp hnp) ?_
  refine r_iret hC hE hR dX8_hand_14 (by omega) (by omega) (rfl) ?_
  exact ⟨hp, rfl, rfl⟩
set_option maxRecDepth 100000 in
set_option maxHeartbeats 4000000 in
theorem sh_rest {d : Nat} {p : Int32} {w : mW} {x : Nat} {f g : Nat → Int32} {sl op lo : Int32} {hd rs : Nat → Int32} {np : Nat} {tp av lg pl tk : Int32} {l : List sv} {ea fa : Int32} {so : Option sv} {tx ln : List Nat} (H : CtAt w x ((f, g, sl, op, lo), hd, rs, np, tp, av, lg, pl, tk) l ea fa so tx ln) (hnp : np ≤ 4) : Sp (d + 2) yX8_rest cX8_rest 2 (some .int) [.ref x, .int p] w 1 6 (fun v w' => isP p np = true ∧ v = some (.int (rs p.toNatClampNeg)) ∧ w' = w) (fun E w' => E = "java/lang/IndexOutOfBoundsException" ∧ w' = w ∧ isP p np = false) := by
  refine Sp.of (by decide +kernel) (Nat.le_of_ble_eq_true rfl) (fun X hC hnl hE hR hN => ?_)
  have hC : Cx X RX8 cX8_rest (d + 2) 1 6 := hC
  show Wp X 0 0 w [(0, .ref x), (1, .int p)] [] 0
  have H9 := H
  obtain ⟨ol, hs, yb, ys, hx, q, qn, cn, ps, cs, ho, hY, hB, hS, hA, hT, hX, hL, hHs, hol, hll, hring, hsnap⟩ := H
  have hy0 : w[x + 1]? = some (mO 7 [.ref (x + 2), .ref (x + 5), .ref (x + 6), .int (nI np), .int tp, .int av, .int lg, .int pl, .int tk]) := hY.1
  have hh : HillAt w (x + 2) (x + 3) (x + 4) (f, g, sl, op, lo) := hY.2.1
  have hy1 : w[x + 2]? = some (mO 6 [.ref (x + 3), .ref (x + 4), .int sl, .int op, .int lo]) := hh.1
  have hy2 : w[x + 3]? = some (mI 0 26 f) := hh.2.1
  have hy3 : w[x + 4]? = some (mI 0 25 g) := hh.2.2
  have hy4 : w[x + 5]? = some (mI 0 4 hd) := hY.2.2.1
  have hy5 : w[x + 6]? = some (mI 0 4 rs) := hY.2.2.2
  refine r_aload_n hC dX8_rest_0 rfl (j := 0) rfl ?_
  refine r_iload_n hC dX8_rest_1 rfl (j := 1) rfl ?_
  refine r_callV hC (vs := [.int p]) vX8_rest_2 (sh_rp (d := d) (p := p) H9) ho rfl rfl (by omega) (by omega) (by omega) (Nat.le_of_ble_eq_true rfl) (fun v_1 w_1 hP_1 hlen_1 => ?_) (fun E_1 w9_1 hX_1 hl9_1 => r_out hC hE hN (by omega) (by omega) (hl9_1.trans (rfl)) (hX_1))
  rw [hP_1.1, hP_1.2.1]
  have hp := hP_1.2.2
  show Wp X (0 + 1) (0 + 6) w [(0, .ref x), (1, .int p)] [] 5
  refine r_aload_n hC dX8_rest_5 rfl (j := 0) rfl ?_
  refine r_get hC gX8_rest_6 ho (v := .ref (x + 1)) rfl ?_
  refine r_get hC gX8_rest_9 hy0 (v := .ref (x + 6)) rfl ?_
  refine r_iload_n hC dX8_rest_12 rfl (j := 1) rfl ?_
  refine r_iald hC dX8_rest_13 (j := p.toNatClampNeg) hy5 (isP_ix hp hnp) ?_
  refine r_iret hC hE hR dX8_rest_14 (by omega) (by omega) (rfl) ?_
  exact ⟨hp, rfl, rfl⟩
set_option maxRecDepth 100000 in
set_option maxHeartbeats 4000000 in
theorem sh_crowns {d : Nat} {p : Int32} {w : mW} {x : Nat} {f g : Nat → Int32} {sl op lo : Int32} {hd rs : Nat → Int32} {np : Nat} {tp av lg pl tk : Int32} {l : List sv} {ea fa : Int32} {so : Option sv} {tx ln : List Nat} (H : CtAt w x ((f, g, sl, op, lo), hd, rs, np, tp, av, lg, pl, tk) l ea fa so tx ln) (hnp : np ≤ 4) : Sp (d + 2) yX8_crowns cX8_crowns 2 (some .int) [.ref x, .int p] w 1 6 (fun v w' => isP p np = true ∧ v = some (.int (hCnt (hOwnP f g p) 25)) ∧ w' = w) (fun E w' => E = "java/lang/IndexOutOfBoundsException" ∧ w' = w ∧ isP p np = false) := by
  refine Sp.of (by decide +kernel) (Nat.le_of_ble_eq_true rfl) (fun X hC hnl hE hR hN => ?_)
  have hC : Cx X RX8 cX8_crowns (d + 2) 1 6 := hC
  show Wp X 0 0 w [(0, .ref x), (1, .int p)] [] 0
  have H9 := H
  obtain ⟨ol, hs, yb, ys, hx, q, qn, cn, ps, cs, ho, hY, hB, hS, hA, hT, hX, hL, hHs, hol, hll, hring, hsnap⟩ := H
  have hy0 : w[x + 1]? = some (mO 7 [.ref (x + 2), .ref (x + 5), .ref (x + 6), .int (nI np), .int tp, .int av, .int lg, .int pl, .int tk]) := hY.1
  have hh : HillAt w (x + 2) (x + 3) (x + 4) (f, g, sl, op, lo) := hY.2.1
  have hy1 : w[x + 2]? = some (mO 6 [.ref (x + 3), .ref (x + 4), .int sl, .int op, .int lo]) := hh.1
  have hy2 : w[x + 3]? = some (mI 0 26 f) := hh.2.1
  have hy3 : w[x + 4]? = some (mI 0 25 g) := hh.2.2
  have hy4 : w[x + 5]? = some (mI 0 4 hd) := hY.2.2.1
  have hy5 : w[x + 6]? = some (mI 0 4 rs) := hY.2.2.2
  refine r_aload_n hC dX8_crowns_0 rfl (j := 0) rfl ?_
  refine r_iload_n hC dX8_crowns_1 rfl (j := 1) rfl ?_
  refine r_callV hC (vs := [.int p]) vX8_crowns_2 (sh_rp (d := d) (p := p) H9) ho rfl rfl (by omega) (by omega) (by omega) (Nat.le_of_ble_eq_true rfl) (fun v_1 w_1 hP_1 hlen_1 => ?_) (fun E_1 w9_1 hX_1 hl9_1 => r_out hC hE hN (by omega) (by omega) (hl9_1.trans (rfl)) (hX_1))
  rw [hP_1.1, hP_1.2.1]
  have hp := hP_1.2.2
  show Wp X (0 + 1) (0 + 6) w [(0, .ref x), (1, .int p)] [] 5
  refine r_aload_n hC dX8_crowns_5 rfl (j := 0) rfl ?_
  refine r_get hC gX8_crowns_6 ho (v := .ref (x + 1)) rfl ?_
  refine r_get hC gX8_crowns_9 hy0 (v := .ref (x + 2)) rfl ?_
  refine r_iload_n hC dX8_crowns_12 rfl (j := 1) rfl ?_
  refine r_callV hC (vs := [.int p]) vX8_crowns_13 (sp_peaksOf (d := d) (t := p) hh) hy1 rfl rfl (by omega) (by omega) (by omega) (Nat.le_of_ble_eq_true rfl) (fun v_2 w_2 hP_2 hlen_2 => ?_) (fun _ _ h => h.elim)
  rw [hP_2.1, hP_2.2]
  show Wp X (0 + 1) (0 + 6) w [(0, .ref x), (1, .int p)] [.int (hCnt (hOwnP f g p) 25)] 16
  refine r_iret hC hE hR dX8_crowns_16 (by omega) (by omega) (rfl) ?_
  exact ⟨hp, rfl, rfl⟩
set_option maxRecDepth 100000 in
set_option maxHeartbeats 4000000 in
theorem sh_score {d : Nat} {p : Int32} {w : mW} {x : Nat} {f g : Nat → Int32} {sl op lo : Int32} {hd rs : Nat → Int32} {np : Nat} {tp av lg pl tk : Int32} {l : List sv} {ea fa : Int32} {so : Option sv} {tx ln : List Nat} (H : CtAt w x ((f, g, sl, op, lo), hd, rs, np, tp, av, lg, pl, tk) l ea fa so tx ln) (hnp : np ≤ 4) : Sp (d + 2) yX8_score cX8_score 2 (some .int) [.ref x, .int p] w 1 6 (fun v w' => isP p np = true ∧ v = some (.int (hSumIf (hOwnP f g p) f 25)) ∧ w' = w) (fun E w' => E = "java/lang/IndexOutOfBoundsException" ∧ w' = w ∧ isP p np = false) := by
  refine Sp.of (by decide +kernel) (Nat.le_of_ble_eq_true rfl) (fun X hC hnl hE hR hN => ?_)
  have hC : Cx X RX8 cX8_score (d + 2) 1 6 := hC
  show Wp X 0 0 w [(0, .ref x), (1, .int p)] [] 0
  have H9 := H
  obtain ⟨ol, hs, yb, ys, hx, q, qn, cn, ps, cs, ho, hY, hB, hS, hA, hT, hX, hL, hHs, hol, hll, hring, hsnap⟩ := H
  have hy0 : w[x + 1]? = some (mO 7 [.ref (x + 2), .ref (x + 5), .ref (x + 6), .int (nI np), .int tp, .int av, .int lg, .int pl, .int tk]) := hY.1
  have hh : HillAt w (x + 2) (x + 3) (x + 4) (f, g, sl, op, lo) := hY.2.1
  have hy1 : w[x + 2]? = some (mO 6 [.ref (x + 3), .ref (x + 4), .int sl, .int op, .int lo]) := hh.1
  have hy2 : w[x + 3]? = some (mI 0 26 f) := hh.2.1
  have hy3 : w[x + 4]? = some (mI 0 25 g) := hh.2.2
  have hy4 : w[x + 5]? = some (mI 0 4 hd) := hY.2.2.1
  have hy5 : w[x + 6]? = some (mI 0 4 rs) := hY.2.2.2
  refine r_aload_n hC dX8_score_0 rfl (j := 0) rfl ?_
  refine r_iload_n hC dX8_score_1 rfl (j := 1) rfl ?_
  refine r_callV hC (vs := [.int p]) vX8_score_2 (sh_rp (d := d) (p := p) H9) ho rfl rfl (by omega) (by omega) (by omega) (Nat.le_of_ble_eq_true rfl) (fun v_1 w_1 hP_1 hlen_1 => ?_) (fun E_1 w9_1 hX_1 hl9_1 => r_out hC hE hN (by omega) (by omega) (hl9_1.trans (rfl)) (hX_1))
  rw [hP_1.1, hP_1.2.1]
  have hp := hP_1.2.2
  show Wp X (0 + 1) (0 + 6) w [(0, .ref x), (1, .int p)] [] 5
  refine r_aload_n hC dX8_score_5 rfl (j := 0) rfl ?_
  refine r_get hC gX8_score_6 ho (v := .ref (x + 1)) rfl ?_
  refine r_get hC gX8_score_9 hy0 (v := .ref (x + 2)) rfl ?_
  refine r_iload_n hC dX8_score_12 rfl (j := 1) rfl ?_
  refine r_callV hC (vs := [.int p]) vX8_score_13 (sp_sumOf (d := d) (t := p) hh) hy1 rfl rfl (by omega) (by omega) (by omega) (Nat.le_of_ble_eq_true rfl) (fun v_2 w_2 hP_2 hlen_2 => ?_) (fun _ _ h => h.elim)
  rw [hP_2.1, hP_2.2]
  show Wp X (0 + 1) (0 + 6) w [(0, .ref x), (1, .int p)] [.int (hSumIf (hOwnP f g p) f 25)] 16
  refine r_iret hC hE hR dX8_score_16 (by omega) (by omega) (rfl) ?_
  exact ⟨hp, rfl, rfl⟩
set_option maxRecDepth 100000 in
set_option maxHeartbeats 4000000 in
theorem sh_height {d : Nat} {c : Int32} {w : mW} {x : Nat} {f g : Nat → Int32} {sl op lo : Int32} {hd rs : Nat → Int32} {np : Nat} {tp av lg pl tk : Int32} {l : List sv} {ea fa : Int32} {so : Option sv} {tx ln : List Nat} (H : CtAt w x ((f, g, sl, op, lo), hd, rs, np, tp, av, lg, pl, tk) l ea fa so tx ln)  : Sp (d + 2) yX8_height cX8_height 2 (some .int) [.ref x, .int c] w 1 6 (fun v w' => isC c = true ∧ v = some (.int (f c.toNatClampNeg)) ∧ w' = w) (fun E w' => E = "java/lang/IndexOutOfBoundsException" ∧ w' = w ∧ isC c = false) := by
  refine Sp.of (by decide +kernel) (Nat.le_of_ble_eq_true rfl) (fun X hC hnl hE hR hN => ?_)
  have hC : Cx X RX8 cX8_height (d + 2) 1 6 := hC
  show Wp X 0 0 w [(0, .ref x), (1, .int c)] [] 0
  obtain ⟨ol, hs, yb, ys, hx, q, qn, cn, ps, cs, ho, hY, hB, hS, hA, hT, hX, hL, hHs, hol, hll, hring, hsnap⟩ := H
  have hy0 : w[x + 1]? = some (mO 7 [.ref (x + 2), .ref (x + 5), .ref (x + 6), .int (nI np), .int tp, .int av, .int lg, .int pl, .int tk]) := hY.1
  have hh : HillAt w (x + 2) (x + 3) (x + 4) (f, g, sl, op, lo) := hY.2.1
  have hy1 : w[x + 2]? = some (mO 6 [.ref (x + 3), .ref (x + 4), .int sl, .int op, .int lo]) := hh.1
  have hy2 : w[x + 3]? = some (mI 0 26 f) := hh.2.1
  have hy3 : w[x + 4]? = some (mI 0 25 g) := hh.2.2
  have hy4 : w[x + 5]? = some (mI 0 4 hd) := hY.2.2.1
  have hy5 : w[x + 6]? = some (mI 0 4 rs) := hY.2.2.2
  refine r_iload_n hC dX8_height_0 rfl (j := 1) rfl ?_
  refine r_callS hC (vs := [.int c]) vX8_height_1 (sh_rc (d := d) (c := c)) rfl (by omega) (by omega) (by omega) (Nat.le_of_ble_eq_true rfl) (fun v_1 w_1 hP_1 hlen_1 => ?_) (fun E_1 w9_1 hX_1 hl9_1 => r_out hC hE hN (by omega) (by omega) (hl9_1.trans (rfl)) (hX_1))
  rw [hP_1.1, hP_1.2.1]
  have hc := hP_1.2.2
  show Wp X (0 + 1) (0 + 6) w [(0, .ref x), (1, .int c)] [] 4
  have hc25 := isC_lt hc
  refine r_aload_n hC dX8_height_4 rfl (j := 0) rfl ?_
  refine r_get hC gX8_height_5 ho (v := .ref (x + 1)) rfl ?_
  refine r_get hC gX8_height_8 hy0 (v := .ref (x + 2)) rfl ?_
  refine r_get hC gX8_height_11 hy1 (v := .ref (x + 3)) rfl ?_
  refine r_iload_n hC dX8_height_14 rfl (j := 1) rfl ?_
  refine r_iald hC dX8_height_15 (j := c.toNatClampNeg) hy2 (isC_ix hc (by decide) (by decide)) ?_
  refine r_iret hC hE hR dX8_height_16 (by omega) (by omega) (rfl) ?_
  exact ⟨hc, rfl, rfl⟩
set_option maxRecDepth 100000 in
set_option maxHeartbeats 4000000 in
theorem sh_steepness {d : Nat} {c : Int32} {w : mW} {x : Nat} {f g : Nat → Int32} {sl op lo : Int32} {hd rs : Nat → Int32} {np : Nat} {tp av lg pl tk : Int32} {l : List sv} {ea fa : Int32} {so : Option sv} {tx ln : List Nat} (H : CtAt w x ((f, g, sl, op, lo), hd, rs, np, tp, av, lg, pl, tk) l ea fa so tx ln)  : Sp (d + 2) yX8_steepness cX8_steepness 2 (some .int) [.ref x, .int c] w 1 6 (fun v w' => isC c = true ∧ v = some (.int (hSteep f op c.toNatClampNeg)) ∧ w' = w) (fun E w' => E = "java/lang/IndexOutOfBoundsException" ∧ w' = w ∧ isC c = false) := by
  refine Sp.of (by decide +kernel) (Nat.le_of_ble_eq_true rfl) (fun X hC hnl hE hR hN => ?_)
  have hC : Cx X RX8 cX8_steepness (d + 2) 1 6 := hC
  show Wp X 0 0 w [(0, .ref x), (1, .int c)] [] 0
  obtain ⟨ol, hs, yb, ys, hx, q, qn, cn, ps, cs, ho, hY, hB, hS, hA, hT, hX, hL, hHs, hol, hll, hring, hsnap⟩ := H
  have hy0 : w[x + 1]? = some (mO 7 [.ref (x + 2), .ref (x + 5), .ref (x + 6), .int (nI np), .int tp, .int av, .int lg, .int pl, .int tk]) := hY.1
  have hh : HillAt w (x + 2) (x + 3) (x + 4) (f, g, sl, op, lo) := hY.2.1
  have hy1 : w[x + 2]? = some (mO 6 [.ref (x + 3), .ref (x + 4), .int sl, .int op, .int lo]) := hh.1
  have hy2 : w[x + 3]? = some (mI 0 26 f) := hh.2.1
  have hy3 : w[x + 4]? = some (mI 0 25 g) := hh.2.2
  have hy4 : w[x + 5]? = some (mI 0 4 hd) := hY.2.2.1
  have hy5 : w[x + 6]? = some (mI 0 4 rs) := hY.2.2.2
  refine r_iload_n hC dX8_steepness_0 rfl (j := 1) rfl ?_
  refine r_callS hC (vs := [.int c]) vX8_steepness_1 (sh_rc (d := d) (c := c)) rfl (by omega) (by omega) (by omega) (Nat.le_of_ble_eq_true rfl) (fun v_1 w_1 hP_1 hlen_1 => ?_) (fun E_1 w9_1 hX_1 hl9_1 => r_out hC hE hN (by omega) (by omega) (hl9_1.trans (rfl)) (hX_1))
  rw [hP_1.1, hP_1.2.1]
  have hc := hP_1.2.2
  show Wp X (0 + 1) (0 + 6) w [(0, .ref x), (1, .int c)] [] 4
  have hc25 := isC_lt hc
  refine r_aload_n hC dX8_steepness_4 rfl (j := 0) rfl ?_
  refine r_get hC gX8_steepness_5 ho (v := .ref (x + 1)) rfl ?_
  refine r_get hC gX8_steepness_8 hy0 (v := .ref (x + 2)) rfl ?_
  refine r_iload_n hC dX8_steepness_11 rfl (j := 1) rfl ?_
  rw [show ([.int c, .ref (x + 2)] : List Value) = [.int (nI c.toNatClampNeg), .ref (x + 2)] from by rw [← hc25.2]]
  refine r_callV hC (vs := [.int (nI c.toNatClampNeg)]) vX8_steepness_12 (sp_steep (d := d) hh hc25.1) hy1 rfl rfl (by omega) (by omega) (by omega) (Nat.le_of_ble_eq_true rfl) (fun v_2 w_2 hP_2 hlen_2 => ?_) (fun _ _ h => h.elim)
  rw [hP_2.1, hP_2.2]
  show Wp X (0 + 1) (0 + 6) w [(0, .ref x), (1, .int c)] [.int (hSteep f op c.toNatClampNeg)] 15
  refine r_iret hC hE hR dX8_steepness_15 (by omega) (by omega) (rfl) ?_
  exact ⟨hc, rfl, rfl⟩
set_option maxRecDepth 100000 in
set_option maxHeartbeats 4000000 in
theorem sh_lowestNeighbour {d : Nat} {c : Int32} {w : mW} {x : Nat} {f g : Nat → Int32} {sl op lo : Int32} {hd rs : Nat → Int32} {np : Nat} {tp av lg pl tk : Int32} {l : List sv} {ea fa : Int32} {so : Option sv} {tx ln : List Nat} (H : CtAt w x ((f, g, sl, op, lo), hd, rs, np, tp, av, lg, pl, tk) l ea fa so tx ln)  : Sp (d + 2) yX8_lowestNeighbour cX8_lowestNeighbour 2 (some .int) [.ref x, .int c] w 1 6 (fun v w' => isC c = true ∧ v = some (.int (nI (hLow f op c.toNatClampNeg))) ∧ w' = w) (fun E w' => E = "java/lang/IndexOutOfBoundsException" ∧ w' = w ∧ isC c = false) := by
  refine Sp.of (by decide +kernel) (Nat.le_of_ble_eq_true rfl) (fun X hC hnl hE hR hN => ?_)
  have hC : Cx X RX8 cX8_lowestNeighbour (d + 2) 1 6 := hC
  show Wp X 0 0 w [(0, .ref x), (1, .int c)] [] 0
  obtain ⟨ol, hs, yb, ys, hx, q, qn, cn, ps, cs, ho, hY, hB, hS, hA, hT, hX, hL, hHs, hol, hll, hring, hsnap⟩ := H
  have hy0 : w[x + 1]? = some (mO 7 [.ref (x + 2), .ref (x + 5), .ref (x + 6), .int (nI np), .int tp, .int av, .int lg, .int pl, .int tk]) := hY.1
  have hh : HillAt w (x + 2) (x + 3) (x + 4) (f, g, sl, op, lo) := hY.2.1
  have hy1 : w[x + 2]? = some (mO 6 [.ref (x + 3), .ref (x + 4), .int sl, .int op, .int lo]) := hh.1
  have hy2 : w[x + 3]? = some (mI 0 26 f) := hh.2.1
  have hy3 : w[x + 4]? = some (mI 0 25 g) := hh.2.2
  have hy4 : w[x + 5]? = some (mI 0 4 hd) := hY.2.2.1
  have hy5 : w[x + 6]? = some (mI 0 4 rs) := hY.2.2.2
  refine r_iload_n hC dX8_lowestNeighbour_0 rfl (j := 1) rfl ?_
  refine r_callS hC (vs := [.int c]) vX8_lowestNeighbour_1 (sh_rc (d := d) (c := c)) rfl (by omega) (by omega) (by omega) (Nat.le_of_ble_eq_true rfl) (fun v_1 w_1 hP_1 hlen_1 => ?_) (fun E_1 w9_1 hX_1 hl9_1 => r_out hC hE hN (by omega) (by omega) (hl9_1.trans (rfl)) (hX_1))
  rw [hP_1.1, hP_1.2.1]
  have hc := hP_1.2.2
  show Wp X (0 + 1) (0 + 6) w [(0, .ref x), (1, .int c)] [] 4
  have hc25 := isC_lt hc
  refine r_aload_n hC dX8_lowestNeighbour_4 rfl (j := 0) rfl ?_
  refine r_get hC gX8_lowestNeighbour_5 ho (v := .ref (x + 1)) rfl ?_
  refine r_get hC gX8_lowestNeighbour_8 hy0 (v := .ref (x + 2)) rfl ?_
  refine r_iload_n hC dX8_lowestNeighbour_11 rfl (j := 1) rfl ?_
  rw [show ([.int c, .ref (x + 2)] : List Value) = [.int (nI c.toNatClampNeg), .ref (x + 2)] from by rw [← hc25.2]]
  refine r_callV hC (vs := [.int (nI c.toNatClampNeg)]) vX8_lowestNeighbour_12 (sp_low (d := d) hh hc25.1) hy1 rfl rfl (by omega) (by omega) (by omega) (Nat.le_of_ble_eq_true rfl) (fun v_2 w_2 hP_2 hlen_2 => ?_) (fun _ _ h => h.elim)
  rw [hP_2.1, hP_2.2]
  show Wp X (0 + 1) (0 + 6) w [(0, .ref x), (1, .int c)] [.int (nI (hLow f op c.toNatClampNeg))] 15
  refine r_iret hC hE hR dX8_lowestNeighbour_15 (by omega) (by omega) (rfl) ?_
  exact ⟨hc, rfl, rfl⟩
set_option maxRecDepth 100000 in
set_option maxHeartbeats 4000000 in
theorem sh_isPeak {d : Nat} {c : Int32} {w : mW} {x : Nat} {f g : Nat → Int32} {sl op lo : Int32} {hd rs : Nat → Int32} {np : Nat} {tp av lg pl tk : Int32} {l : List sv} {ea fa : Int32} {so : Option sv} {tx ln : List Nat} (H : CtAt w x ((f, g, sl, op, lo), hd, rs, np, tp, av, lg, pl, tk) l ea fa so tx ln)  : Sp (d + 2) yX8_isPeak cX8_isPeak 2 (some .boolean) [.ref x, .int c] w 1 6 (fun v w' => isC c = true ∧ v = some (.int (bI (hPeak f c.toNatClampNeg))) ∧ w' = w) (fun E w' => E = "java/lang/IndexOutOfBoundsException" ∧ w' = w ∧ isC c = false) := by
  refine Sp.of (by decide +kernel) (Nat.le_of_ble_eq_true rfl) (fun X hC hnl hE hR hN => ?_)
  have hC : Cx X RX8 cX8_isPeak (d + 2) 1 6 := hC
  show Wp X 0 0 w [(0, .ref x), (1, .int c)] [] 0
  obtain ⟨ol, hs, yb, ys, hx, q, qn, cn, ps, cs, ho, hY, hB, hS, hA, hT, hX, hL, hHs, hol, hll, hring, hsnap⟩ := H
  have hy0 : w[x + 1]? = some (mO 7 [.ref (x + 2), .ref (x + 5), .ref (x + 6), .int (nI np), .int tp, .int av, .int lg, .int pl, .int tk]) := hY.1
  have hh : HillAt w (x + 2) (x + 3) (x + 4) (f, g, sl, op, lo) := hY.2.1
  have hy1 : w[x + 2]? = some (mO 6 [.ref (x + 3), .ref (x + 4), .int sl, .int op, .int lo]) := hh.1
  have hy2 : w[x + 3]? = some (mI 0 26 f) := hh.2.1
  have hy3 : w[x + 4]? = some (mI 0 25 g) := hh.2.2
  have hy4 : w[x + 5]? = some (mI 0 4 hd) := hY.2.2.1
  have hy5 : w[x + 6]? = some (mI 0 4 rs) := hY.2.2.2
  refine r_iload_n hC dX8_isPeak_0 rfl (j := 1) rfl ?_
  refine r_callS hC (vs := [.int c]) vX8_isPeak_1 (sh_rc (d := d) (c := c)) rfl (by omega) (by omega) (by omega) (Nat.le_of_ble_eq_true rfl) (fun v_1 w_1 hP_1 hlen_1 => ?_) (fun E_1 w9_1 hX_1 hl9_1 => r_out hC hE hN (by omega) (by omega) (hl9_1.trans (rfl)) (hX_1))
  rw [hP_1.1, hP_1.2.1]
  have hc := hP_1.2.2
  show Wp X (0 + 1) (0 + 6) w [(0, .ref x), (1, .int c)] [] 4
  have hc25 := isC_lt hc
  refine r_aload_n hC dX8_isPeak_4 rfl (j := 0) rfl ?_
  refine r_get hC gX8_isPeak_5 ho (v := .ref (x + 1)) rfl ?_
  refine r_get hC gX8_isPeak_8 hy0 (v := .ref (x + 2)) rfl ?_
  refine r_iload_n hC dX8_isPeak_11 rfl (j := 1) rfl ?_
  rw [show ([.int c, .ref (x + 2)] : List Value) = [.int (nI c.toNatClampNeg), .ref (x + 2)] from by rw [← hc25.2]]
  refine r_callV hC (vs := [.int (nI c.toNatClampNeg)]) vX8_isPeak_12 (sp_peak (d := d) hh hc25.1) hy1 rfl rfl (by omega) (by omega) (by omega) (Nat.le_of_ble_eq_true rfl) (fun v_2 w_2 hP_2 hlen_2 => ?_) (fun _ _ h => h.elim)
  rw [hP_2.1, hP_2.2]
  show Wp X (0 + 1) (0 + 6) w [(0, .ref x), (1, .int c)] [.int (bI (hPeak f c.toNatClampNeg))] 15
  refine r_nret hC hE hR dX8_isPeak_15 (by cases hPeak f c.toNatClampNeg <;> rfl) (by omega) (by omega) (rfl) ?_
  exact ⟨hc, rfl, rfl⟩
end HC
