section HC6
theorem gZ_k6 : ("HillContest$Keyword", "OPEN", "LHillContest$Keyword;", Value.ref 1000026) ∈ gZs := List.mem_of_getElem? (i := 17) rfl
set_option maxRecDepth 100000 in
set_option maxHeartbeats 4000000 in
theorem sh_flt0 {d b : Nat} {a1 a2 a3 : Int32} {w : mW} {x : Nat} {f g : Nat → Int32} {sl op lo : Int32} {hd rs : Nat → Int32} {np : Nat} {tp av lg pl tk : Int32} {l : List sv} {ea fa : Int32} {so : Option sv} {tx ln : List Nat} (H : CtAt w x ((f, g, sl, op, lo), hd, rs, np, tp, av, lg, pl, tk) l ea fa so tx ln) (hI : SInv ((f, g, sl, op, lo), hd, rs, np, tp, av, lg, pl, tk)) (hc : w[b]? = some (mO 4 [.ref 1000020, .int a1, .int a2, .int a3])) : Sp (d + 4) yX8_faultOf cX8_faultOf 2 (some (.object "HillContest$Fault")) [.ref x, .ref b] w 0 0 (fun v w' => v = some (.ref (cmdFlt ((f, g, sl, op, lo), hd, rs, np, tp, av, lg, pl, tk) (0, a1, a2, a3))) ∧ w' = w) noX := by
  refine Sp.of (by decide +kernel) (Nat.le_of_ble_eq_true rfl) (fun X hC hnl hE hR hN => ?_)
  have hC : Cx X RX8 cX8_faultOf (d + 4) 0 0 := hC
  show Wp X 0 0 w [(0, .ref x), (1, .ref b)] [] 0
  have hnp : np ≤ 4 := hI.2.2
  obtain ⟨ol, hs, yb, ys, hx, q, qn, cn, ps, cs, ho, hY, hB, hS, hA, hT, hX, hL, hHs, hol, hll, hring, hsnap⟩ := id H
  have hy0 : w[x + 1]? = some (mO 7 [.ref (x + 2), .ref (x + 5), .ref (x + 6), .int (nI np), .int tp, .int av, .int lg, .int pl, .int tk]) := hY.1
  have hh : HillAt w (x + 2) (x + 3) (x + 4) (f, g, sl, op, lo) := hY.2.1
  have hy1 : w[x + 2]? = some (mO 6 [.ref (x + 3), .ref (x + 4), .int sl, .int op, .int lo]) := hh.1
  have hy2 : w[x + 3]? = some (mI 0 26 f) := hh.2.1
  have hy3 : w[x + 4]? = some (mI 0 25 g) := hh.2.2
  have hy4 : w[x + 5]? = some (mI 0 4 hd) := hY.2.2.1
  have hy5 : w[x + 6]? = some (mI 0 4 rs) := hY.2.2.2
  refine r_gets hC sX8_faultOf_0 (v := .ref 1000002) gZ_sm ?_
  refine r_aload_n hC dX8_faultOf_3 rfl (j := 1) rfl ?_
  refine r_get hC gX8_faultOf_4 hc (v := .ref 1000020) rfl ?_
  refine r_callU hC (vs := []) vX8_faultOf_7 (by decide) (sk_ord (d := d) (x := 0) (List.mem_of_getElem? (i := 0) rfl)) rfl (by omega) (by omega) (by omega) (Nat.le_of_ble_eq_true rfl) (fun v_1 w_1 hP_1 hlen_1 => ?_)
  rw [hP_1.1, hP_1.2]
  show Wp X 0 0 w [(0, .ref x), (1, .ref b)] [.int 0, .ref 1000002] 10
  refine r_ialdS hC dX8_faultOf_10 (j := 0) gT_sm ⟨by decide, by decide, by decide⟩ ?_
  rw [show tArr mSM 0 = .int 1 from rfl]
  refine r_tableIn (off := 33) (tgt := 44) hC dX8_faultOf_11 (by decide) (by decide) (by decide) (by decide) ?_
  refine r_aload_n hC dX8_faultOf_44 rfl (j := 0) rfl ?_
  refine r_get hC gX8_faultOf_45 ho (v := .ref (x + 1)) rfl ?_
  refine r_aload_n hC dX8_faultOf_48 rfl (j := 1) rfl ?_
  refine r_get hC gX8_faultOf_49 hc (v := .int a1) rfl ?_
  refine r_callV hC (vs := [.int a1]) vX8_faultOf_52 (sp_fltEntry (d := d + 3) (x := a1) hY) hy0 rfl rfl (by omega) (by omega) (by omega) (Nat.le_of_ble_eq_true rfl) (fun v_2 w_2 hP_2 hlen_2 => ?_) (fun _ _ h => h.elim)
  rw [hP_2.1, hP_2.2]
  show Wp X 0 0 w [(0, .ref x), (1, .ref b)] [.ref (fltEntry np a1)] 55
  refine r_aret hC hE hR dX8_faultOf_55 (by omega) (by omega) (rfl) ?_
  exact ⟨rfl, rfl⟩
set_option maxRecDepth 100000 in
set_option maxHeartbeats 4000000 in
theorem sh_flt1 {d b : Nat} {a1 a2 a3 : Int32} {w : mW} {x : Nat} {f g : Nat → Int32} {sl op lo : Int32} {hd rs : Nat → Int32} {np : Nat} {tp av lg pl tk : Int32} {l : List sv} {ea fa : Int32} {so : Option sv} {tx ln : List Nat} (H : CtAt w x ((f, g, sl, op, lo), hd, rs, np, tp, av, lg, pl, tk) l ea fa so tx ln) (hI : SInv ((f, g, sl, op, lo), hd, rs, np, tp, av, lg, pl, tk)) (hc : w[b]? = some (mO 4 [.ref 1000021, .int a1, .int a2, .int a3])) : Sp (d + 4) yX8_faultOf cX8_faultOf 2 (some (.object "HillContest$Fault")) [.ref x, .ref b] w 0 0 (fun v w' => v = some (.ref (cmdFlt ((f, g, sl, op, lo), hd, rs, np, tp, av, lg, pl, tk) (1, a1, a2, a3))) ∧ w' = w) noX := by
  refine Sp.of (by decide +kernel) (Nat.le_of_ble_eq_true rfl) (fun X hC hnl hE hR hN => ?_)
  have hC : Cx X RX8 cX8_faultOf (d + 4) 0 0 := hC
  show Wp X 0 0 w [(0, .ref x), (1, .ref b)] [] 0
  have hnp : np ≤ 4 := hI.2.2
  obtain ⟨ol, hs, yb, ys, hx, q, qn, cn, ps, cs, ho, hY, hB, hS, hA, hT, hX, hL, hHs, hol, hll, hring, hsnap⟩ := id H
  have hy0 : w[x + 1]? = some (mO 7 [.ref (x + 2), .ref (x + 5), .ref (x + 6), .int (nI np), .int tp, .int av, .int lg, .int pl, .int tk]) := hY.1
  have hh : HillAt w (x + 2) (x + 3) (x + 4) (f, g, sl, op, lo) := hY.2.1
  have hy1 : w[x + 2]? = some (mO 6 [.ref (x + 3), .ref (x + 4), .int sl, .int op, .int lo]) := hh.1
  have hy2 : w[x + 3]? = some (mI 0 26 f) := hh.2.1
  have hy3 : w[x + 4]? = some (mI 0 25 g) := hh.2.2
  have hy4 : w[x + 5]? = some (mI 0 4 hd) := hY.2.2.1
  have hy5 : w[x + 6]? = some (mI 0 4 rs) := hY.2.2.2
  refine r_gets hC sX8_faultOf_0 (v := .ref 1000002) gZ_sm ?_
  refine r_aload_n hC dX8_faultOf_3 rfl (j := 1) rfl ?_
  refine r_get hC gX8_faultOf_4 hc (v := .ref 1000021) rfl ?_
  refine r_callU hC (vs := []) vX8_faultOf_7 (by decide) (sk_ord (d := d) (x := 1) (List.mem_of_getElem? (i := 3) rfl)) rfl (by omega) (by omega) (by omega) (Nat.le_of_ble_eq_true rfl) (fun v_1 w_1 hP_1 hlen_1 => ?_)
  rw [hP_1.1, hP_1.2]
  show Wp X 0 0 w [(0, .ref x), (1, .ref b)] [.int 1, .ref 1000002] 10
  refine r_ialdS hC dX8_faultOf_10 (j := 1) gT_sm ⟨by decide, by decide, by decide⟩ ?_
  rw [show tArr mSM 1 = .int 2 from rfl]
  refine r_tableIn (off := 45) (tgt := 56) hC dX8_faultOf_11 (by decide) (by decide) (by decide) (by decide) ?_
  refine r_aload_n hC dX8_faultOf_56 rfl (j := 0) rfl ?_
  refine r_get hC gX8_faultOf_57 ho (v := .ref (x + 1)) rfl ?_
  refine r_aload_n hC dX8_faultOf_60 rfl (j := 1) rfl ?_
  refine r_get hC gX8_faultOf_61 hc (v := .int a1) rfl ?_
  refine r_aload_n hC dX8_faultOf_64 rfl (j := 1) rfl ?_
  refine r_get hC gX8_faultOf_65 hc (v := .int a2) rfl ?_
  refine r_aload_n hC dX8_faultOf_68 rfl (j := 1) rfl ?_
  refine r_get hC gX8_faultOf_69 hc (v := .int a3) rfl ?_
  refine r_callV hC (vs := [.int a1, .int a2, .int a3]) vX8_faultOf_72 (sp_fltDrop (d := d + 1) (q := a1) (c := a2) (x := a3) hY hnp) hy0 rfl rfl (by omega) (by omega) (by omega) (Nat.le_of_ble_eq_true rfl) (fun v_2 w_2 hP_2 hlen_2 => ?_) (fun _ _ h => h.elim)
  rw [hP_2.1, hP_2.2]
  show Wp X 0 0 w [(0, .ref x), (1, .ref b)] [.ref (fltDrop f hd rs np a1 a2 a3)] 75
  refine r_aret hC hE hR dX8_faultOf_75 (by omega) (by omega) (rfl) ?_
  exact ⟨rfl, rfl⟩
set_option maxRecDepth 100000 in
set_option maxHeartbeats 4000000 in
theorem sh_flt2 {d b : Nat} {a1 a2 a3 : Int32} {w : mW} {x : Nat} {f g : Nat → Int32} {sl op lo : Int32} {hd rs : Nat → Int32} {np : Nat} {tp av lg pl tk : Int32} {l : List sv} {ea fa : Int32} {so : Option sv} {tx ln : List Nat} (H : CtAt w x ((f, g, sl, op, lo), hd, rs, np, tp, av, lg, pl, tk) l ea fa so tx ln) (hI : SInv ((f, g, sl, op, lo), hd, rs, np, tp, av, lg, pl, tk)) (hc : w[b]? = some (mO 4 [.ref 1000022, .int a1, .int a2, .int a3])) : Sp (d + 4) yX8_faultOf cX8_faultOf 2 (some (.object "HillContest$Fault")) [.ref x, .ref b] w 0 0 (fun v w' => v = some (.ref (cmdFlt ((f, g, sl, op, lo), hd, rs, np, tp, av, lg, pl, tk) (2, a1, a2, a3))) ∧ w' = w) noX := by
  refine Sp.of (by decide +kernel) (Nat.le_of_ble_eq_true rfl) (fun X hC hnl hE hR hN => ?_)
  have hC : Cx X RX8 cX8_faultOf (d + 4) 0 0 := hC
  show Wp X 0 0 w [(0, .ref x), (1, .ref b)] [] 0
  have hnp : np ≤ 4 := hI.2.2
  obtain ⟨ol, hs, yb, ys, hx, q, qn, cn, ps, cs, ho, hY, hB, hS, hA, hT, hX, hL, hHs, hol, hll, hring, hsnap⟩ := id H
  have hy0 : w[x + 1]? = some (mO 7 [.ref (x + 2), .ref (x + 5), .ref (x + 6), .int (nI np), .int tp, .int av, .int lg, .int pl, .int tk]) := hY.1
  have hh : HillAt w (x + 2) (x + 3) (x + 4) (f, g, sl, op, lo) := hY.2.1
  have hy1 : w[x + 2]? = some (mO 6 [.ref (x + 3), .ref (x + 4), .int sl, .int op, .int lo]) := hh.1
  have hy2 : w[x + 3]? = some (mI 0 26 f) := hh.2.1
  have hy3 : w[x + 4]? = some (mI 0 25 g) := hh.2.2
  have hy4 : w[x + 5]? = some (mI 0 4 hd) := hY.2.2.1
  have hy5 : w[x + 6]? = some (mI 0 4 rs) := hY.2.2.2
  refine r_gets hC sX8_faultOf_0 (v := .ref 1000002) gZ_sm ?_
  refine r_aload_n hC dX8_faultOf_3 rfl (j := 1) rfl ?_
  refine r_get hC gX8_faultOf_4 hc (v := .ref 1000022) rfl ?_
  refine r_callU hC (vs := []) vX8_faultOf_7 (by decide) (sk_ord (d := d) (x := 2) (List.mem_of_getElem? (i := 6) rfl)) rfl (by omega) (by omega) (by omega) (Nat.le_of_ble_eq_true rfl) (fun v_1 w_1 hP_1 hlen_1 => ?_)
  rw [hP_1.1, hP_1.2]
  show Wp X 0 0 w [(0, .ref x), (1, .ref b)] [.int 2, .ref 1000002] 10
  refine r_ialdS hC dX8_faultOf_10 (j := 2) gT_sm ⟨by decide, by decide, by decide⟩ ?_
  rw [show tArr mSM 2 = .int 3 from rfl]
  refine r_tableIn (off := 65) (tgt := 76) hC dX8_faultOf_11 (by decide) (by decide) (by decide) (by decide) ?_
  refine r_aload_n hC dX8_faultOf_76 rfl (j := 0) rfl ?_
  refine r_get hC gX8_faultOf_77 ho (v := .ref (x + 1)) rfl ?_
  refine r_aload_n hC dX8_faultOf_80 rfl (j := 1) rfl ?_
  refine r_get hC gX8_faultOf_81 hc (v := .int a1) rfl ?_
  refine r_aload_n hC dX8_faultOf_84 rfl (j := 1) rfl ?_
  refine r_get hC gX8_faultOf_85 hc (v := .int a2) rfl ?_
  refine r_callV hC (vs := [.int a1, .int a2]) vX8_faultOf_88 (sp_fltPile (d := d + 2) (c := a1) (x := a2) hY) hy0 rfl rfl (by omega) (by omega) (by omega) (Nat.le_of_ble_eq_true rfl) (fun v_2 w_2 hP_2 hlen_2 => ?_) (fun _ _ h => h.elim)
  rw [hP_2.1, hP_2.2]
  show Wp X 0 0 w [(0, .ref x), (1, .ref b)] [.ref (fltPile f a1 a2)] 91
  refine r_aret hC hE hR dX8_faultOf_91 (by omega) (by omega) (rfl) ?_
  exact ⟨rfl, rfl⟩
set_option maxRecDepth 100000 in
set_option maxHeartbeats 4000000 in
theorem sh_flt3 {d b : Nat} {a1 a2 a3 : Int32} {w : mW} {x : Nat} {f g : Nat → Int32} {sl op lo : Int32} {hd rs : Nat → Int32} {np : Nat} {tp av lg pl tk : Int32} {l : List sv} {ea fa : Int32} {so : Option sv} {tx ln : List Nat} (H : CtAt w x ((f, g, sl, op, lo), hd, rs, np, tp, av, lg, pl, tk) l ea fa so tx ln) (hI : SInv ((f, g, sl, op, lo), hd, rs, np, tp, av, lg, pl, tk)) (hc : w[b]? = some (mO 4 [.ref 1000023, .int a1, .int a2, .int a3])) : Sp (d + 4) yX8_faultOf cX8_faultOf 2 (some (.object "HillContest$Fault")) [.ref x, .ref b] w 0 0 (fun v w' => v = some (.ref (cmdFlt ((f, g, sl, op, lo), hd, rs, np, tp, av, lg, pl, tk) (3, a1, a2, a3))) ∧ w' = w) noX := by
  refine Sp.of (by decide +kernel) (Nat.le_of_ble_eq_true rfl) (fun X hC hnl hE hR hN => ?_)
  have hC : Cx X RX8 cX8_faultOf (d + 4) 0 0 := hC
  show Wp X 0 0 w [(0, .ref x), (1, .ref b)] [] 0
  have hnp : np ≤ 4 := hI.2.2
  obtain ⟨ol, hs, yb, ys, hx, q, qn, cn, ps, cs, ho, hY, hB, hS, hA, hT, hX, hL, hHs, hol, hll, hring, hsnap⟩ := id H
  have hy0 : w[x + 1]? = some (mO 7 [.ref (x + 2), .ref (x + 5), .ref (x + 6), .int (nI np), .int tp, .int av, .int lg, .int pl, .int tk]) := hY.1
  have hh : HillAt w (x + 2) (x + 3) (x + 4) (f, g, sl, op, lo) := hY.2.1
  have hy1 : w[x + 2]? = some (mO 6 [.ref (x + 3), .ref (x + 4), .int sl, .int op, .int lo]) := hh.1
  have hy2 : w[x + 3]? = some (mI 0 26 f) := hh.2.1
  have hy3 : w[x + 4]? = some (mI 0 25 g) := hh.2.2
  have hy4 : w[x + 5]? = some (mI 0 4 hd) := hY.2.2.1
  have hy5 : w[x + 6]? = some (mI 0 4 rs) := hY.2.2.2
  refine r_gets hC sX8_faultOf_0 (v := .ref 1000002) gZ_sm ?_
  refine r_aload_n hC dX8_faultOf_3 rfl (j := 1) rfl ?_
  refine r_get hC gX8_faultOf_4 hc (v := .ref 1000023) rfl ?_
  refine r_callU hC (vs := []) vX8_faultOf_7 (by decide) (sk_ord (d := d) (x := 3) (List.mem_of_getElem? (i := 9) rfl)) rfl (by omega) (by omega) (by omega) (Nat.le_of_ble_eq_true rfl) (fun v_1 w_1 hP_1 hlen_1 => ?_)
  rw [hP_1.1, hP_1.2]
  show Wp X 0 0 w [(0, .ref x), (1, .ref b)] [.int 3, .ref 1000002] 10
  refine r_ialdS hC dX8_faultOf_10 (j := 3) gT_sm ⟨by decide, by decide, by decide⟩ ?_
  rw [show tArr mSM 3 = .int 4 from rfl]
  refine r_tableIn (off := 81) (tgt := 92) hC dX8_faultOf_11 (by decide) (by decide) (by decide) (by decide) ?_
  refine r_aload_n hC dX8_faultOf_92 rfl (j := 0) rfl ?_
  refine r_get hC gX8_faultOf_93 ho (v := .ref (x + 1)) rfl ?_
  refine r_aload_n hC dX8_faultOf_96 rfl (j := 1) rfl ?_
  refine r_get hC gX8_faultOf_97 hc (v := .int a1) rfl ?_
  refine r_aload_n hC dX8_faultOf_100 rfl (j := 1) rfl ?_
  refine r_get hC gX8_faultOf_101 hc (v := .int a2) rfl ?_
  refine r_callV hC (vs := [.int a1, .int a2]) vX8_faultOf_104 (sp_fltTake (d := d + 2) (q := a1) (c := a2) hY) hy0 rfl rfl (by omega) (by omega) (by omega) (Nat.le_of_ble_eq_true rfl) (fun v_2 w_2 hP_2 hlen_2 => ?_) (fun _ _ h => h.elim)
  rw [hP_2.1, hP_2.2]
  show Wp X 0 0 w [(0, .ref x), (1, .ref b)] [.ref (fltTake f g np a1 a2)] 107
  refine r_aret hC hE hR dX8_faultOf_107 (by omega) (by omega) (rfl) ?_
  exact ⟨rfl, rfl⟩
set_option maxRecDepth 100000 in
set_option maxHeartbeats 4000000 in
theorem sh_flt4 {d b : Nat} {a1 a2 a3 : Int32} {w : mW} {x : Nat} {f g : Nat → Int32} {sl op lo : Int32} {hd rs : Nat → Int32} {np : Nat} {tp av lg pl tk : Int32} {l : List sv} {ea fa : Int32} {so : Option sv} {tx ln : List Nat} (H : CtAt w x ((f, g, sl, op, lo), hd, rs, np, tp, av, lg, pl, tk) l ea fa so tx ln) (hI : SInv ((f, g, sl, op, lo), hd, rs, np, tp, av, lg, pl, tk)) (hc : w[b]? = some (mO 4 [.ref 1000024, .int a1, .int a2, .int a3])) : Sp (d + 4) yX8_faultOf cX8_faultOf 2 (some (.object "HillContest$Fault")) [.ref x, .ref b] w 0 0 (fun v w' => v = some (.ref (cmdFlt ((f, g, sl, op, lo), hd, rs, np, tp, av, lg, pl, tk) (4, a1, a2, a3))) ∧ w' = w) noX := by
  refine Sp.of (by decide +kernel) (Nat.le_of_ble_eq_true rfl) (fun X hC hnl hE hR hN => ?_)
  have hC : Cx X RX8 cX8_faultOf (d + 4) 0 0 := hC
  show Wp X 0 0 w [(0, .ref x), (1, .ref b)] [] 0
  have hnp : np ≤ 4 := hI.2.2
  obtain ⟨ol, hs, yb, ys, hx, q, qn, cn, ps, cs, ho, hY, hB, hS, hA, hT, hX, hL, hHs, hol, hll, hring, hsnap⟩ := id H
  have hy0 : w[x + 1]? = some (mO 7 [.ref (x + 2), .ref (x + 5), .ref (x + 6), .int (nI np), .int tp, .int av, .int lg, .int pl, .int tk]) := hY.1
  have hh : HillAt w (x + 2) (x + 3) (x + 4) (f, g, sl, op, lo) := hY.2.1
  have hy1 : w[x + 2]? = some (mO 6 [.ref (x + 3), .ref (x + 4), .int sl, .int op, .int lo]) := hh.1
  have hy2 : w[x + 3]? = some (mI 0 26 f) := hh.2.1
  have hy3 : w[x + 4]? = some (mI 0 25 g) := hh.2.2
  have hy4 : w[x + 5]? = some (mI 0 4 hd) := hY.2.2.1
  have hy5 : w[x + 6]? = some (mI 0 4 rs) := hY.2.2.2
  refine r_gets hC sX8_faultOf_0 (v := .ref 1000002) gZ_sm ?_
  refine r_aload_n hC dX8_faultOf_3 rfl (j := 1) rfl ?_
  refine r_get hC gX8_faultOf_4 hc (v := .ref 1000024) rfl ?_
  refine r_callU hC (vs := []) vX8_faultOf_7 (by decide) (sk_ord (d := d) (x := 4) (List.mem_of_getElem? (i := 12) rfl)) rfl (by omega) (by omega) (by omega) (Nat.le_of_ble_eq_true rfl) (fun v_1 w_1 hP_1 hlen_1 => ?_)
  rw [hP_1.1, hP_1.2]
  show Wp X 0 0 w [(0, .ref x), (1, .ref b)] [.int 4, .ref 1000002] 10
  refine r_ialdS hC dX8_faultOf_10 (j := 4) gT_sm ⟨by decide, by decide, by decide⟩ ?_
  rw [show tArr mSM 4 = .int 6 from rfl]
  refine r_tableOut (tgt := 120) hC dX8_faultOf_11 (by decide) (by decide) ?_
  refine r_gets hC sX8_faultOf_120 (v := .ref 1000010) gZ_f0 ?_
  refine r_aret hC hE hR dX8_faultOf_123 (by omega) (by omega) (rfl) ?_
  exact ⟨rfl, rfl⟩
set_option maxRecDepth 100000 in
set_option maxHeartbeats 4000000 in
theorem sh_flt5 {d b : Nat} {a1 a2 a3 : Int32} {w : mW} {x : Nat} {f g : Nat → Int32} {sl op lo : Int32} {hd rs : Nat → Int32} {np : Nat} {tp av lg pl tk : Int32} {l : List sv} {ea fa : Int32} {so : Option sv} {tx ln : List Nat} (H : CtAt w x ((f, g, sl, op, lo), hd, rs, np, tp, av, lg, pl, tk) l ea fa so tx ln) (hI : SInv ((f, g, sl, op, lo), hd, rs, np, tp, av, lg, pl, tk)) (hc : w[b]? = some (mO 4 [.ref 1000025, .int a1, .int a2, .int a3])) : Sp (d + 4) yX8_faultOf cX8_faultOf 2 (some (.object "HillContest$Fault")) [.ref x, .ref b] w 0 0 (fun v w' => v = some (.ref (cmdFlt ((f, g, sl, op, lo), hd, rs, np, tp, av, lg, pl, tk) (5, a1, a2, a3))) ∧ w' = w) noX := by
  refine Sp.of (by decide +kernel) (Nat.le_of_ble_eq_true rfl) (fun X hC hnl hE hR hN => ?_)
  have hC : Cx X RX8 cX8_faultOf (d + 4) 0 0 := hC
  show Wp X 0 0 w [(0, .ref x), (1, .ref b)] [] 0
  have hnp : np ≤ 4 := hI.2.2
  obtain ⟨ol, hs, yb, ys, hx, q, qn, cn, ps, cs, ho, hY, hB, hS, hA, hT, hX, hL, hHs, hol, hll, hring, hsnap⟩ := id H
  have hy0 : w[x + 1]? = some (mO 7 [.ref (x + 2), .ref (x + 5), .ref (x + 6), .int (nI np), .int tp, .int av, .int lg, .int pl, .int tk]) := hY.1
  have hh : HillAt w (x + 2) (x + 3) (x + 4) (f, g, sl, op, lo) := hY.2.1
  have hy1 : w[x + 2]? = some (mO 6 [.ref (x + 3), .ref (x + 4), .int sl, .int op, .int lo]) := hh.1
  have hy2 : w[x + 3]? = some (mI 0 26 f) := hh.2.1
  have hy3 : w[x + 4]? = some (mI 0 25 g) := hh.2.2
  have hy4 : w[x + 5]? = some (mI 0 4 hd) := hY.2.2.1
  have hy5 : w[x + 6]? = some (mI 0 4 rs) := hY.2.2.2
  refine r_gets hC sX8_faultOf_0 (v := .ref 1000002) gZ_sm ?_
  refine r_aload_n hC dX8_faultOf_3 rfl (j := 1) rfl ?_
  refine r_get hC gX8_faultOf_4 hc (v := .ref 1000025) rfl ?_
  refine r_callU hC (vs := []) vX8_faultOf_7 (by decide) (sk_ord (d := d) (x := 5) (List.mem_of_getElem? (i := 15) rfl)) rfl (by omega) (by omega) (by omega) (Nat.le_of_ble_eq_true rfl) (fun v_1 w_1 hP_1 hlen_1 => ?_)
  rw [hP_1.1, hP_1.2]
  show Wp X 0 0 w [(0, .ref x), (1, .ref b)] [.int 5, .ref 1000002] 10
  refine r_ialdS hC dX8_faultOf_10 (j := 5) gT_sm ⟨by decide, by decide, by decide⟩ ?_
  rw [show tArr mSM 5 = .int 5 from rfl]
  refine r_tableIn (off := 97) (tgt := 108) hC dX8_faultOf_11 (by decide) (by decide) (by decide) (by decide) ?_
  refine r_aload_n hC dX8_faultOf_108 rfl (j := 0) rfl ?_
  refine r_get hC gX8_faultOf_109 ho (v := .ref (x + 1)) rfl ?_
  refine r_aload_n hC dX8_faultOf_112 rfl (j := 1) rfl ?_
  refine r_get hC gX8_faultOf_113 hc (v := .int a1) rfl ?_
  refine r_callV hC (vs := [.int a1]) vX8_faultOf_116 (sp_fltSlope (d := d + 3) (x := a1) hY) hy0 rfl rfl (by omega) (by omega) (by omega) (Nat.le_of_ble_eq_true rfl) (fun v_2 w_2 hP_2 hlen_2 => ?_) (fun _ _ h => h.elim)
  rw [hP_2.1, hP_2.2]
  show Wp X 0 0 w [(0, .ref x), (1, .ref b)] [.ref (fltSlope a1)] 119
  refine r_aret hC hE hR dX8_faultOf_119 (by omega) (by omega) (rfl) ?_
  exact ⟨rfl, rfl⟩
set_option maxRecDepth 100000 in
set_option maxHeartbeats 4000000 in
theorem sh_flt6 {d b : Nat} {a1 a2 a3 : Int32} {w : mW} {x : Nat} {f g : Nat → Int32} {sl op lo : Int32} {hd rs : Nat → Int32} {np : Nat} {tp av lg pl tk : Int32} {l : List sv} {ea fa : Int32} {so : Option sv} {tx ln : List Nat} (H : CtAt w x ((f, g, sl, op, lo), hd, rs, np, tp, av, lg, pl, tk) l ea fa so tx ln) (hI : SInv ((f, g, sl, op, lo), hd, rs, np, tp, av, lg, pl, tk)) (hc : w[b]? = some (mO 4 [.ref 1000026, .int a1, .int a2, .int a3])) : Sp (d + 4) yX8_faultOf cX8_faultOf 2 (some (.object "HillContest$Fault")) [.ref x, .ref b] w 0 0 (fun v w' => v = some (.ref (cmdFlt ((f, g, sl, op, lo), hd, rs, np, tp, av, lg, pl, tk) (6, a1, a2, a3))) ∧ w' = w) noX := by
  refine Sp.of (by decide +kernel) (Nat.le_of_ble_eq_true rfl) (fun X hC hnl hE hR hN => ?_)
  have hC : Cx X RX8 cX8_faultOf (d + 4) 0 0 := hC
  show Wp X 0 0 w [(0, .ref x), (1, .ref b)] [] 0
  have hnp : np ≤ 4 := hI.2.2
  obtain ⟨ol, hs, yb, ys, hx, q, qn, cn, ps, cs, ho, hY, hB, hS, hA, hT, hX, hL, hHs, hol, hll, hring, hsnap⟩ := id H
  have hy0 : w[x + 1]? = some (mO 7 [.ref (x + 2), .ref (x + 5), .ref (x + 6), .int (nI np), .int tp, .int av, .int lg, .int pl, .int tk]) := hY.1
  have hh : HillAt w (x + 2) (x + 3) (x + 4) (f, g, sl, op, lo) := hY.2.1
  have hy1 : w[x + 2]? = some (mO 6 [.ref (x + 3), .ref (x + 4), .int sl, .int op, .int lo]) := hh.1
  have hy2 : w[x + 3]? = some (mI 0 26 f) := hh.2.1
  have hy3 : w[x + 4]? = some (mI 0 25 g) := hh.2.2
  have hy4 : w[x + 5]? = some (mI 0 4 hd) := hY.2.2.1
  have hy5 : w[x + 6]? = some (mI 0 4 rs) := hY.2.2.2
  refine r_gets hC sX8_faultOf_0 (v := .ref 1000002) gZ_sm ?_
  refine r_aload_n hC dX8_faultOf_3 rfl (j := 1) rfl ?_
  refine r_get hC gX8_faultOf_4 hc (v := .ref 1000026) rfl ?_
  refine r_callU hC (vs := []) vX8_faultOf_7 (by decide) (sk_ord (d := d) (x := 6) (List.mem_of_getElem? (i := 18) rfl)) rfl (by omega) (by omega) (by omega) (Nat.le_of_ble_eq_true rfl) (fun v_1 w_1 hP_1 hlen_1 => ?_)
  rw [hP_1.1, hP_1.2]
  show Wp X 0 0 w [(0, .ref x), (1, .ref b)] [.int 6, .ref 1000002] 10
  refine r_ialdS hC dX8_faultOf_10 (j := 6) gT_sm ⟨by decide, by decide, by decide⟩ ?_
  rw [show tArr mSM 6 = .int 0 from rfl]
  refine r_tableOut (tgt := 120) hC dX8_faultOf_11 (by decide) (by decide) ?_
  refine r_gets hC sX8_faultOf_120 (v := .ref 1000010) gZ_f0 ?_
  refine r_aret hC hE hR dX8_faultOf_123 (by omega) (by omega) (rfl) ?_
  exact ⟨rfl, rfl⟩
set_option maxRecDepth 100000 in
set_option maxHeartbeats 4000000 in
theorem sh_flt7 {d b : Nat} {a1 a2 a3 : Int32} {w : mW} {x : Nat} {f g : Nat → Int32} {sl op lo : Int32} {hd rs : Nat → Int32} {np : Nat} {tp av lg pl tk : Int32} {l : List sv} {ea fa : Int32} {so : Option sv} {tx ln : List Nat} (H : CtAt w x ((f, g, sl, op, lo), hd, rs, np, tp, av, lg, pl, tk) l ea fa so tx ln) (hI : SInv ((f, g, sl, op, lo), hd, rs, np, tp, av, lg, pl, tk)) (hc : w[b]? = some (mO 4 [.ref 1000027, .int a1, .int a2, .int a3])) : Sp (d + 4) yX8_faultOf cX8_faultOf 2 (some (.object "HillContest$Fault")) [.ref x, .ref b] w 0 0 (fun v w' => v = some (.ref (cmdFlt ((f, g, sl, op, lo), hd, rs, np, tp, av, lg, pl, tk) (7, a1, a2, a3))) ∧ w' = w) noX := by
  refine Sp.of (by decide +kernel) (Nat.le_of_ble_eq_true rfl) (fun X hC hnl hE hR hN => ?_)
  have hC : Cx X RX8 cX8_faultOf (d + 4) 0 0 := hC
  show Wp X 0 0 w [(0, .ref x), (1, .ref b)] [] 0
  have hnp : np ≤ 4 := hI.2.2
  obtain ⟨ol, hs, yb, ys, hx, q, qn, cn, ps, cs, ho, hY, hB, hS, hA, hT, hX, hL, hHs, hol, hll, hring, hsnap⟩ := id H
  have hy0 : w[x + 1]? = some (mO 7 [.ref (x + 2), .ref (x + 5), .ref (x + 6), .int (nI np), .int tp, .int av, .int lg, .int pl, .int tk]) := hY.1
  have hh : HillAt w (x + 2) (x + 3) (x + 4) (f, g, sl, op, lo) := hY.2.1
  have hy1 : w[x + 2]? = some (mO 6 [.ref (x + 3), .ref (x + 4), .int sl, .int op, .int lo]) := hh.1
  have hy2 : w[x + 3]? = some (mI 0 26 f) := hh.2.1
  have hy3 : w[x + 4]? = some (mI 0 25 g) := hh.2.2
  have hy4 : w[x + 5]? = some (mI 0 4 hd) := hY.2.2.1
  have hy5 : w[x + 6]? = some (mI 0 4 rs) := hY.2.2.2
  refine r_gets hC sX8_faultOf_0 (v := .ref 1000002) gZ_sm ?_
  refine r_aload_n hC dX8_faultOf_3 rfl (j := 1) rfl ?_
  refine r_get hC gX8_faultOf_4 hc (v := .ref 1000027) rfl ?_
  refine r_callU hC (vs := []) vX8_faultOf_7 (by decide) (sk_ord (d := d) (x := 7) (List.mem_of_getElem? (i := 21) rfl)) rfl (by omega) (by omega) (by omega) (Nat.le_of_ble_eq_true rfl) (fun v_1 w_1 hP_1 hlen_1 => ?_)
  rw [hP_1.1, hP_1.2]
  show Wp X 0 0 w [(0, .ref x), (1, .ref b)] [.int 7, .ref 1000002] 10
  refine r_ialdS hC dX8_faultOf_10 (j := 7) gT_sm ⟨by decide, by decide, by decide⟩ ?_
  rw [show tArr mSM 7 = .int 0 from rfl]
  refine r_tableOut (tgt := 120) hC dX8_faultOf_11 (by decide) (by decide) ?_
  refine r_gets hC sX8_faultOf_120 (v := .ref 1000010) gZ_f0 ?_
  refine r_aret hC hE hR dX8_faultOf_123 (by omega) (by omega) (rfl) ?_
  exact ⟨rfl, rfl⟩
theorem sh_flt {C : cmdT} {d b : Nat} {w : mW} {x : Nat} {f g : Nat → Int32} {sl op lo : Int32} {hd rs : Nat → Int32} {np : Nat} {tp av lg pl tk : Int32} {l : List sv} {ea fa : Int32} {so : Option sv} {tx ln : List Nat} (H : CtAt w x ((f, g, sl, op, lo), hd, rs, np, tp, av, lg, pl, tk) l ea fa so tx ln) (hI : SInv ((f, g, sl, op, lo), hd, rs, np, tp, av, lg, pl, tk)) (h8 : C.1 < 8) (hc : w[b]? = some (cmC C)) : Sp (d + 4) yX8_faultOf cX8_faultOf 2 (some (.object "HillContest$Fault")) [.ref x, .ref b] w 0 0 (fun v w' => v = some (.ref (cmdFlt ((f, g, sl, op, lo), hd, rs, np, tp, av, lg, pl, tk) C)) ∧ w' = w) noX := by
  obtain ⟨k, a1, a2, a3⟩ := C
  match k, h8 with
  | 0, _ => exact sh_flt0 H hI hc
  | 1, _ => exact sh_flt1 H hI hc
  | 2, _ => exact sh_flt2 H hI hc
  | 3, _ => exact sh_flt3 H hI hc
  | 4, _ => exact sh_flt4 H hI hc
  | 5, _ => exact sh_flt5 H hI hc
  | 6, _ => exact sh_flt6 H hI hc
  | 7, _ => exact sh_flt7 H hI hc
set_option maxRecDepth 100000 in
set_option maxHeartbeats 4000000 in
theorem sh_do0 {d b : Nat} {a1 a2 a3 : Int32} {w : mW} {x : Nat} {f g : Nat → Int32} {sl op lo : Int32} {hd rs : Nat → Int32} {np : Nat} {tp av lg pl tk : Int32} {l : List sv} {ea fa : Int32} {so : Option sv} {tx ln : List Nat} (H : CtAt w x ((f, g, sl, op, lo), hd, rs, np, tp, av, lg, pl, tk) l ea fa so tx ln) (hI : SInv ((f, g, sl, op, lo), hd, rs, np, tp, av, lg, pl, tk)) (hc : w[b]? = some (mO 4 [.ref 1000020, .int a1, .int a2, .int a3])) (hf : cmdFlt ((f, g, sl, op, lo), hd, rs, np, tp, av, lg, pl, tk) (0, a1, a2, a3) = 1000010) : Sp (d + 5) yX8_carryOut cX8_carryOut 2 none [.ref x, .ref b] w 0 0 (fun v w' => v = none ∧ StTo w (x + 1) (cmdDo ((f, g, sl, op, lo), hd, rs, np, tp, av, lg, pl, tk) (0, a1, a2, a3)) w') noX := by
  refine Sp.of (by decide +kernel) (Nat.le_of_ble_eq_true rfl) (fun X hC hnl hE hR hN => ?_)
  have hC : Cx X RX8 cX8_carryOut (d + 5) 0 0 := hC
  show Wp X 0 0 w [(0, .ref x), (1, .ref b)] [] 0
  have hnp : np ≤ 4 := hI.2.2
  have hf : fltEntry np a1 = 1000010 := hf
  have hnp4 : np < 4 := by
    have := hf
    unfold fltEntry at this
    split at this
    · cases this
    · split at this
      · rename_i z
        exact (nI_ltS (by omega) (by decide)).mp z
      · cases this
  obtain ⟨ol, hs, yb, ys, hx, q, qn, cn, ps, cs, ho, hY, hB, hS, hA, hT, hX, hL, hHs, hol, hll, hring, hsnap⟩ := id H
  have hy0 : w[x + 1]? = some (mO 7 [.ref (x + 2), .ref (x + 5), .ref (x + 6), .int (nI np), .int tp, .int av, .int lg, .int pl, .int tk]) := hY.1
  have hh : HillAt w (x + 2) (x + 3) (x + 4) (f, g, sl, op, lo) := hY.2.1
  have hy1 : w[x + 2]? = some (mO 6 [.ref (x + 3), .ref (x + 4), .int sl, .int op, .int lo]) := hh.1
  have hy2 : w[x + 3]? = some (mI 0 26 f) := hh.2.1
  have hy3 : w[x + 4]? = some (mI 0 25 g) := hh.2.2
  have hy4 : w[x + 5]? = some (mI 0 4 hd) := hY.2.2.1
  have hy5 : w[x + 6]? = some (mI 0 4 rs) := hY.2.2.2
  refine r_gets hC sX8_carryOut_0 (v := .ref 1000002) gZ_sm ?_
  refine r_aload_n hC dX8_carryOut_3 rfl (j := 1) rfl ?_
  refine r_get hC gX8_carryOut_4 hc (v := .ref 1000020) rfl ?_
  refine r_callU hC (vs := []) vX8_carryOut_7 (by decide) (sk_ord (d := d) (x := 0) (List.mem_of_getElem? (i := 0) rfl)) rfl (by omega) (by omega) (by omega) (Nat.le_of_ble_eq_true rfl) (fun v_1 w_1 hP_1 hlen_1 => ?_)
  rw [hP_1.1, hP_1.2]
  show Wp X 0 0 w [(0, .ref x), (1, .ref b)] [.int 0, .ref 1000002] 10
  refine r_ialdS hC dX8_carryOut_10 (j := 0) gT_sm ⟨by decide, by decide, by decide⟩ ?_
  rw [show tArr mSM 0 = .int 1 from rfl]
  refine r_tableIn (off := 37) (tgt := 48) hC dX8_carryOut_11 (by decide) (by decide) (by decide) (by decide) ?_
  refine r_aload_n hC dX8_carryOut_48 rfl (j := 0) rfl ?_
  refine r_get hC gX8_carryOut_49 ho (v := .ref (x + 1)) rfl ?_
  refine r_aload_n hC dX8_carryOut_52 rfl (j := 1) rfl ?_
  refine r_get hC gX8_carryOut_53 hc (v := .int a1) rfl ?_
  refine r_callV hC (vs := [.int a1]) vX8_carryOut_56 (sp_enter (d := d + 4) (x := a1) hY hnp4) hy0 rfl rfl (by omega) (by omega) (by omega) (Nat.le_of_ble_eq_true rfl) (fun v_2 w_2 hP_2 hlen_2 => ?_) (fun _ _ h => h.elim)
  rw [hP_2.1]
  have hn_2 : w_2.length = w.length := hlen_2.trans (rfl)
  have T_2 := hP_2.2
  show Wp X 0 0 w_2 [(0, .ref x), (1, .ref b)] [.int (nI np)] 59
  refine r_pop hC dX8_carryOut_59 rfl ?_
  refine r_goto hC dX8_carryOut_60 (tgt := 172) (by decide) ?_
  refine r_vret hC hE hR dX8_carryOut_172 (by omega) (by omega) (hn_2) ?_
  exact ⟨rfl, T_2⟩
set_option maxRecDepth 100000 in
set_option maxHeartbeats 4000000 in
theorem sh_do1 {d b : Nat} {a1 a2 a3 : Int32} {w : mW} {x : Nat} {f g : Nat → Int32} {sl op lo : Int32} {hd rs : Nat → Int32} {np : Nat} {tp av lg pl tk : Int32} {l : List sv} {ea fa : Int32} {so : Option sv} {tx ln : List Nat} (H : CtAt w x ((f, g, sl, op, lo), hd, rs, np, tp, av, lg, pl, tk) l ea fa so tx ln) (hI : SInv ((f, g, sl, op, lo), hd, rs, np, tp, av, lg, pl, tk)) (hc : w[b]? = some (mO 4 [.ref 1000021, .int a1, .int a2, .int a3])) (hf : cmdFlt ((f, g, sl, op, lo), hd, rs, np, tp, av, lg, pl, tk) (1, a1, a2, a3) = 1000010) : Sp (d + 5) yX8_carryOut cX8_carryOut 2 none [.ref x, .ref b] w 0 0 (fun v w' => v = none ∧ StTo w (x + 1) (cmdDo ((f, g, sl, op, lo), hd, rs, np, tp, av, lg, pl, tk) (1, a1, a2, a3)) w') noX := by
  refine Sp.of (by decide +kernel) (Nat.le_of_ble_eq_true rfl) (fun X hC hnl hE hR hN => ?_)
  have hC : Cx X RX8 cX8_carryOut (d + 5) 0 0 := hC
  show Wp X 0 0 w [(0, .ref x), (1, .ref b)] [] 0
  have hnp : np ≤ 4 := hI.2.2
  have hf : fltDrop f hd rs np a1 a2 a3 = 1000010 := hf
  have hok := drop_ok hf
  obtain ⟨hc1, hc2⟩ := isC_lt (pile_ok hok.2.1).1
  obtain ⟨hq1, hq2⟩ := isP_lt hok.1 hnp
  obtain ⟨ol, hs, yb, ys, hx, q, qn, cn, ps, cs, ho, hY, hB, hS, hA, hT, hX, hL, hHs, hol, hll, hring, hsnap⟩ := id H
  have hy0 : w[x + 1]? = some (mO 7 [.ref (x + 2), .ref (x + 5), .ref (x + 6), .int (nI np), .int tp, .int av, .int lg, .int pl, .int tk]) := hY.1
  have hh : HillAt w (x + 2) (x + 3) (x + 4) (f, g, sl, op, lo) := hY.2.1
  have hy1 : w[x + 2]? = some (mO 6 [.ref (x + 3), .ref (x + 4), .int sl, .int op, .int lo]) := hh.1
  have hy2 : w[x + 3]? = some (mI 0 26 f) := hh.2.1
  have hy3 : w[x + 4]? = some (mI 0 25 g) := hh.2.2
  have hy4 : w[x + 5]? = some (mI 0 4 hd) := hY.2.2.1
  have hy5 : w[x + 6]? = some (mI 0 4 rs) := hY.2.2.2
  refine r_gets hC sX8_carryOut_0 (v := .ref 1000002) gZ_sm ?_
  refine r_aload_n hC dX8_carryOut_3 rfl (j := 1) rfl ?_
  refine r_get hC gX8_carryOut_4 hc (v := .ref 1000021) rfl ?_
  refine r_callU hC (vs := []) vX8_carryOut_7 (by decide) (sk_ord (d := d) (x := 1) (List.mem_of_getElem? (i := 3) rfl)) rfl (by omega) (by omega) (by omega) (Nat.le_of_ble_eq_true rfl) (fun v_1 w_1 hP_1 hlen_1 => ?_)
  rw [hP_1.1, hP_1.2]
  show Wp X 0 0 w [(0, .ref x), (1, .ref b)] [.int 1, .ref 1000002] 10
  refine r_ialdS hC dX8_carryOut_10 (j := 1) gT_sm ⟨by decide, by decide, by decide⟩ ?_
  rw [show tArr mSM 1 = .int 2 from rfl]
  refine r_tableIn (off := 52) (tgt := 63) hC dX8_carryOut_11 (by decide) (by decide) (by decide) (by decide) ?_
  refine r_aload_n hC dX8_carryOut_63 rfl (j := 0) rfl ?_
  refine r_get hC gX8_carryOut_64 ho (v := .ref (x + 1)) rfl ?_
  refine r_aload_n hC dX8_carryOut_67 rfl (j := 1) rfl ?_
  refine r_get hC gX8_carryOut_68 hc (v := .int a1) rfl ?_
  refine r_aload_n hC dX8_carryOut_71 rfl (j := 1) rfl ?_
  refine r_get hC gX8_carryOut_72 hc (v := .int a2) rfl ?_
  refine r_aload_n hC dX8_carryOut_75 rfl (j := 1) rfl ?_
  refine r_get hC gX8_carryOut_76 hc (v := .int a3) rfl ?_
  rw [show ([.int a3, .int a2, .int a1, .ref (x + 1)] : List Value) = [.int a3, .int (nI a2.toNatClampNeg), .int (nI a1.toNatClampNeg), .ref (x + 1)] from by rw [← hc2, ← hq2]]
  refine r_callV hC (vs := [.int (nI a1.toNatClampNeg), .int (nI a2.toNatClampNeg), .int a3]) vX8_carryOut_79 (sp_drop (d := d) (x := a3) hY hnp (by omega : a1.toNatClampNeg < 4) hc1) hy0 rfl rfl (by omega) (by omega) (by omega) (Nat.le_of_ble_eq_true rfl) (fun v_2 w_2 hP_2 hlen_2 => ?_) (fun _ _ h => h.elim)
  rw [hP_2.1]
  have hn_2 : w_2.length = w.length := hlen_2.trans (rfl)
  have T_2 := hP_2.2
  show Wp X 0 0 w_2 [(0, .ref x), (1, .ref b)] [.int (sDropN ((f, g, sl, op, lo), hd, rs, np, tp, av, lg, pl, tk) a2.toNatClampNeg a3 (nI a1.toNatClampNeg))] 82
  refine r_pop hC dX8_carryOut_82 rfl ?_
  refine r_goto hC dX8_carryOut_83 (tgt := 172) (by decide) ?_
  refine r_vret hC hE hR dX8_carryOut_172 (by omega) (by omega) (hn_2) ?_
  exact ⟨rfl, T_2⟩
set_option maxRecDepth 100000 in
set_option maxHeartbeats 4000000 in
theorem sh_do2 {d b : Nat} {a1 a2 a3 : Int32} {w : mW} {x : Nat} {f g : Nat → Int32} {sl op lo : Int32} {hd rs : Nat → Int32} {np : Nat} {tp av lg pl tk : Int32} {l : List sv} {ea fa : Int32} {so : Option sv} {tx ln : List Nat} (H : CtAt w x ((f, g, sl, op, lo), hd, rs, np, tp, av, lg, pl, tk) l ea fa so tx ln) (hI : SInv ((f, g, sl, op, lo), hd, rs, np, tp, av, lg, pl, tk)) (hc : w[b]? = some (mO 4 [.ref 1000022, .int a1, .int a2, .int a3])) (hf : cmdFlt ((f, g, sl, op, lo), hd, rs, np, tp, av, lg, pl, tk) (2, a1, a2, a3) = 1000010) : Sp (d + 5) yX8_carryOut cX8_carryOut 2 none [.ref x, .ref b] w 0 0 (fun v w' => v = none ∧ StTo w (x + 1) (cmdDo ((f, g, sl, op, lo), hd, rs, np, tp, av, lg, pl, tk) (2, a1, a2, a3)) w') noX := by
  refine Sp.of (by decide +kernel) (Nat.le_of_ble_eq_true rfl) (fun X hC hnl hE hR hN => ?_)
  have hC : Cx X RX8 cX8_carryOut (d + 5) 0 0 := hC
  show Wp X 0 0 w [(0, .ref x), (1, .ref b)] [] 0
  have hnp : np ≤ 4 := hI.2.2
  have hf : fltPile f a1 a2 = 1000010 := hf
  obtain ⟨hc1, hc2⟩ := isC_lt (pile_ok hf).1
  obtain ⟨ol, hs, yb, ys, hx, q, qn, cn, ps, cs, ho, hY, hB, hS, hA, hT, hX, hL, hHs, hol, hll, hring, hsnap⟩ := id H
  have hy0 : w[x + 1]? = some (mO 7 [.ref (x + 2), .ref (x + 5), .ref (x + 6), .int (nI np), .int tp, .int av, .int lg, .int pl, .int tk]) := hY.1
  have hh : HillAt w (x + 2) (x + 3) (x + 4) (f, g, sl, op, lo) := hY.2.1
  have hy1 : w[x + 2]? = some (mO 6 [.ref (x + 3), .ref (x + 4), .int sl, .int op, .int lo]) := hh.1
  have hy2 : w[x + 3]? = some (mI 0 26 f) := hh.2.1
  have hy3 : w[x + 4]? = some (mI 0 25 g) := hh.2.2
  have hy4 : w[x + 5]? = some (mI 0 4 hd) := hY.2.2.1
  have hy5 : w[x + 6]? = some (mI 0 4 rs) := hY.2.2.2
  refine r_gets hC sX8_carryOut_0 (v := .ref 1000002) gZ_sm ?_
  refine r_aload_n hC dX8_carryOut_3 rfl (j := 1) rfl ?_
  refine r_get hC gX8_carryOut_4 hc (v := .ref 1000022) rfl ?_
  refine r_callU hC (vs := []) vX8_carryOut_7 (by decide) (sk_ord (d := d) (x := 2) (List.mem_of_getElem? (i := 6) rfl)) rfl (by omega) (by omega) (by omega) (Nat.le_of_ble_eq_true rfl) (fun v_1 w_1 hP_1 hlen_1 => ?_)
  rw [hP_1.1, hP_1.2]
  show Wp X 0 0 w [(0, .ref x), (1, .ref b)] [.int 2, .ref 1000002] 10
  refine r_ialdS hC dX8_carryOut_10 (j := 2) gT_sm ⟨by decide, by decide, by decide⟩ ?_
  rw [show tArr mSM 2 = .int 3 from rfl]
  refine r_tableIn (off := 75) (tgt := 86) hC dX8_carryOut_11 (by decide) (by decide) (by decide) (by decide) ?_
  refine r_aload_n hC dX8_carryOut_86 rfl (j := 0) rfl ?_
  refine r_get hC gX8_carryOut_87 ho (v := .ref (x + 1)) rfl ?_
  refine r_aload_n hC dX8_carryOut_90 rfl (j := 1) rfl ?_
  refine r_get hC gX8_carryOut_91 hc (v := .int a1) rfl ?_
  refine r_aload_n hC dX8_carryOut_94 rfl (j := 1) rfl ?_
  refine r_get hC gX8_carryOut_95 hc (v := .int a2) rfl ?_
  rw [show ([.int a2, .int a1, .ref (x + 1)] : List Value) = [.int a2, .int (nI a1.toNatClampNeg), .ref (x + 1)] from by rw [← hc2]]
  refine r_callV hC (vs := [.int (nI a1.toNatClampNeg), .int a2]) vX8_carryOut_98 (sp_pile (d := d) (x := a2) hY hc1) hy0 rfl rfl (by omega) (by omega) (by omega) (Nat.le_of_ble_eq_true rfl) (fun v_2 w_2 hP_2 hlen_2 => ?_) (fun _ _ h => h.elim)
  rw [hP_2.1]
  have hn_2 : w_2.length = w.length := hlen_2.trans (rfl)
  have T_2 := hP_2.2
  show Wp X 0 0 w_2 [(0, .ref x), (1, .ref b)] [.int (sDropN ((f, g, sl, op, lo), hd, rs, np, tp, av, lg, pl, tk) a1.toNatClampNeg a2 (-1))] 101
  refine r_pop hC dX8_carryOut_101 rfl ?_
  refine r_goto hC dX8_carryOut_102 (tgt := 172) (by decide) ?_
  refine r_vret hC hE hR dX8_carryOut_172 (by omega) (by omega) (hn_2) ?_
  exact ⟨rfl, T_2⟩
set_option maxRecDepth 100000 in
set_option maxHeartbeats 4000000 in
theorem sh_do3 {d b : Nat} {a1 a2 a3 : Int32} {w : mW} {x : Nat} {f g : Nat → Int32} {sl op lo : Int32} {hd rs : Nat → Int32} {np : Nat} {tp av lg pl tk : Int32} {l : List sv} {ea fa : Int32} {so : Option sv} {tx ln : List Nat} (H : CtAt w x ((f, g, sl, op, lo), hd, rs, np, tp, av, lg, pl, tk) l ea fa so tx ln) (hI : SInv ((f, g, sl, op, lo), hd, rs, np, tp, av, lg, pl, tk)) (hc : w[b]? = some (mO 4 [.ref 1000023, .int a1, .int a2, .int a3])) (hf : cmdFlt ((f, g, sl, op, lo), hd, rs, np, tp, av, lg, pl, tk) (3, a1, a2, a3) = 1000010) : Sp (d + 5) yX8_carryOut cX8_carryOut 2 none [.ref x, .ref b] w 0 0 (fun v w' => v = none ∧ StTo w (x + 1) (cmdDo ((f, g, sl, op, lo), hd, rs, np, tp, av, lg, pl, tk) (3, a1, a2, a3)) w') noX := by
  refine Sp.of (by decide +kernel) (Nat.le_of_ble_eq_true rfl) (fun X hC hnl hE hR hN => ?_)
  have hC : Cx X RX8 cX8_carryOut (d + 5) 0 0 := hC
  show Wp X 0 0 w [(0, .ref x), (1, .ref b)] [] 0
  have hnp : np ≤ 4 := hI.2.2
  have hf : fltTake f g np a1 a2 = 1000010 := hf
  have hok := take_ok hf
  obtain ⟨hc1, hc2⟩ := isC_lt hok.2.1
  obtain ⟨hq1, hq2⟩ := isP_lt hok.1 hnp
  obtain ⟨ol, hs, yb, ys, hx, q, qn, cn, ps, cs, ho, hY, hB, hS, hA, hT, hX, hL, hHs, hol, hll, hring, hsnap⟩ := id H
  have hy0 : w[x + 1]? = some (mO 7 [.ref (x + 2), .ref (x + 5), .ref (x + 6), .int (nI np), .int tp, .int av, .int lg, .int pl, .int tk]) := hY.1
  have hh : HillAt w (x + 2) (x + 3) (x + 4) (f, g, sl, op, lo) := hY.2.1
  have hy1 : w[x + 2]? = some (mO 6 [.ref (x + 3), .ref (x + 4), .int sl, .int op, .int lo]) := hh.1
  have hy2 : w[x + 3]? = some (mI 0 26 f) := hh.2.1
  have hy3 : w[x + 4]? = some (mI 0 25 g) := hh.2.2
  have hy4 : w[x + 5]? = some (mI 0 4 hd) := hY.2.2.1
  have hy5 : w[x + 6]? = some (mI 0 4 rs) := hY.2.2.2
  refine r_gets hC sX8_carryOut_0 (v := .ref 1000002) gZ_sm ?_
  refine r_aload_n hC dX8_carryOut_3 rfl (j := 1) rfl ?_
  refine r_get hC gX8_carryOut_4 hc (v := .ref 1000023) rfl ?_
  refine r_callU hC (vs := []) vX8_carryOut_7 (by decide) (sk_ord (d := d) (x := 3) (List.mem_of_getElem? (i := 9) rfl)) rfl (by omega) (by omega) (by omega) (Nat.le_of_ble_eq_true rfl) (fun v_1 w_1 hP_1 hlen_1 => ?_)
  rw [hP_1.1, hP_1.2]
  show Wp X 0 0 w [(0, .ref x), (1, .ref b)] [.int 3, .ref 1000002] 10
  refine r_ialdS hC dX8_carryOut_10 (j := 3) gT_sm ⟨by decide, by decide, by decide⟩ ?_
  rw [show tArr mSM 3 = .int 4 from rfl]
  refine r_tableIn (off := 94) (tgt := 105) hC dX8_carryOut_11 (by decide) (by decide) (by decide) (by decide) ?_
  refine r_aload_n hC dX8_carryOut_105 rfl (j := 0) rfl ?_
  refine r_get hC gX8_carryOut_106 ho (v := .ref (x + 1)) rfl ?_
  refine r_aload_n hC dX8_carryOut_109 rfl (j := 1) rfl ?_
  refine r_get hC gX8_carryOut_110 hc (v := .int a1) rfl ?_
  refine r_aload_n hC dX8_carryOut_113 rfl (j := 1) rfl ?_
  refine r_get hC gX8_carryOut_114 hc (v := .int a2) rfl ?_
  rw [show ([.int a2, .int a1, .ref (x + 1)] : List Value) = [.int (nI a2.toNatClampNeg), .int (nI a1.toNatClampNeg), .ref (x + 1)] from by rw [← hc2, ← hq2]]
  refine r_callV hC (vs := [.int (nI a1.toNatClampNeg), .int (nI a2.toNatClampNeg)]) vX8_carryOut_117 (sp_take (d := d) hY (by omega : a1.toNatClampNeg < 4) hc1) hy0 rfl rfl (by omega) (by omega) (by omega) (Nat.le_of_ble_eq_true rfl) (fun v_2 w_2 hP_2 hlen_2 => ?_) (fun _ _ h => h.elim)
  rw [hP_2.1]
  have hn_2 : w_2.length = w.length := hlen_2.trans (rfl)
  have T_2 := hP_2.2
  show Wp X 0 0 w_2 [(0, .ref x), (1, .ref b)] [.int (nI (hRestF (hRem (f, g, sl, op, lo) a2.toNatClampNeg)).1)] 120
  refine r_pop hC dX8_carryOut_120 rfl ?_
  refine r_goto hC dX8_carryOut_121 (tgt := 172) (by decide) ?_
  refine r_vret hC hE hR dX8_carryOut_172 (by omega) (by omega) (hn_2) ?_
  exact ⟨rfl, T_2⟩
set_option maxRecDepth 100000 in
set_option maxHeartbeats 4000000 in
theorem sh_do4 {d b : Nat} {a1 a2 a3 : Int32} {w : mW} {x : Nat} {f g : Nat → Int32} {sl op lo : Int32} {hd rs : Nat → Int32} {np : Nat} {tp av lg pl tk : Int32} {l : List sv} {ea fa : Int32} {so : Option sv} {tx ln : List Nat} (H : CtAt w x ((f, g, sl, op, lo), hd, rs, np, tp, av, lg, pl, tk) l ea fa so tx ln) (hI : SInv ((f, g, sl, op, lo), hd, rs, np, tp, av, lg, pl, tk)) (hc : w[b]? = some (mO 4 [.ref 1000024, .int a1, .int a2, .int a3])) (hf : cmdFlt ((f, g, sl, op, lo), hd, rs, np, tp, av, lg, pl, tk) (4, a1, a2, a3) = 1000010) : Sp (d + 5) yX8_carryOut cX8_carryOut 2 none [.ref x, .ref b] w 0 0 (fun v w' => v = none ∧ StTo w (x + 1) (cmdDo ((f, g, sl, op, lo), hd, rs, np, tp, av, lg, pl, tk) (4, a1, a2, a3)) w') noX := by
  refine Sp.of (by decide +kernel) (Nat.le_of_ble_eq_true rfl) (fun X hC hnl hE hR hN => ?_)
  have hC : Cx X RX8 cX8_carryOut (d + 5) 0 0 := hC
  show Wp X 0 0 w [(0, .ref x), (1, .ref b)] [] 0
  have hnp : np ≤ 4 := hI.2.2
  obtain ⟨ol, hs, yb, ys, hx, q, qn, cn, ps, cs, ho, hY, hB, hS, hA, hT, hX, hL, hHs, hol, hll, hring, hsnap⟩ := id H
  have hy0 : w[x + 1]? = some (mO 7 [.ref (x + 2), .ref (x + 5), .ref (x + 6), .int (nI np), .int tp, .int av, .int lg, .int pl, .int tk]) := hY.1
  have hh : HillAt w (x + 2) (x + 3) (x + 4) (f, g, sl, op, lo) := hY.2.1
  have hy1 : w[x + 2]? = some (mO 6 [.ref (x + 3), .ref (x + 4), .int sl, .int op, .int lo]) := hh.1
  have hy2 : w[x + 3]? = some (mI 0 26 f) := hh.2.1
  have hy3 : w[x + 4]? = some (mI 0 25 g) := hh.2.2
  have hy4 : w[x + 5]? = some (mI 0 4 hd) := hY.2.2.1
  have hy5 : w[x + 6]? = some (mI 0 4 rs) := hY.2.2.2
  refine r_gets hC sX8_carryOut_0 (v := .ref 1000002) gZ_sm ?_
  refine r_aload_n hC dX8_carryOut_3 rfl (j := 1) rfl ?_
  refine r_get hC gX8_carryOut_4 hc (v := .ref 1000024) rfl ?_
  refine r_callU hC (vs := []) vX8_carryOut_7 (by decide) (sk_ord (d := d) (x := 4) (List.mem_of_getElem? (i := 12) rfl)) rfl (by omega) (by omega) (by omega) (Nat.le_of_ble_eq_true rfl) (fun v_1 w_1 hP_1 hlen_1 => ?_)
  rw [hP_1.1, hP_1.2]
  show Wp X 0 0 w [(0, .ref x), (1, .ref b)] [.int 4, .ref 1000002] 10
  refine r_ialdS hC dX8_carryOut_10 (j := 4) gT_sm ⟨by decide, by decide, by decide⟩ ?_
  rw [show tArr mSM 4 = .int 6 from rfl]
  refine r_tableIn (off := 113) (tgt := 124) hC dX8_carryOut_11 (by decide) (by decide) (by decide) (by decide) ?_
  refine r_aload_n hC dX8_carryOut_124 rfl (j := 0) rfl ?_
  refine r_get hC gX8_carryOut_125 ho (v := .ref (x + 1)) rfl ?_
  refine r_iconst hC dX8_carryOut_128 (v := (-1)) (by decide) ?_
  refine r_callV hC (vs := [.int (-1)]) vX8_carryOut_129 (sp_pass (d := d + 4) (ex := -1) hY hnp) hy0 rfl rfl (by omega) (by omega) (by omega) (Nat.le_of_ble_eq_true rfl) (fun v_2 w_2 hP_2 hlen_2 => ?_) (fun _ _ h => h.elim)
  rw [hP_2.1]
  have hn_2 : w_2.length = w.length := hlen_2.trans (rfl)
  have T_2 := hP_2.2
  show Wp X 0 0 w_2 [(0, .ref x), (1, .ref b)] [] 132
  refine r_goto hC dX8_carryOut_132 (tgt := 172) (by decide) ?_
  refine r_vret hC hE hR dX8_carryOut_172 (by omega) (by omega) (hn_2) ?_
  exact ⟨rfl, T_2⟩
set_option maxRecDepth 100000 in
set_option maxHeartbeats 4000000 in
theorem sh_do5 {d b : Nat} {a1 a2 a3 : Int32} {w : mW} {x : Nat} {f g : Nat → Int32} {sl op lo : Int32} {hd rs : Nat → Int32} {np : Nat} {tp av lg pl tk : Int32} {l : List sv} {ea fa : Int32} {so : Option sv} {tx ln : List Nat} (H : CtAt w x ((f, g, sl, op, lo), hd, rs, np, tp, av, lg, pl, tk) l ea fa so tx ln) (hI : SInv ((f, g, sl, op, lo), hd, rs, np, tp, av, lg, pl, tk)) (hc : w[b]? = some (mO 4 [.ref 1000025, .int a1, .int a2, .int a3])) (hf : cmdFlt ((f, g, sl, op, lo), hd, rs, np, tp, av, lg, pl, tk) (5, a1, a2, a3) = 1000010) : Sp (d + 5) yX8_carryOut cX8_carryOut 2 none [.ref x, .ref b] w 0 0 (fun v w' => v = none ∧ StTo w (x + 1) (cmdDo ((f, g, sl, op, lo), hd, rs, np, tp, av, lg, pl, tk) (5, a1, a2, a3)) w') noX := by
  refine Sp.of (by decide +kernel) (Nat.le_of_ble_eq_true rfl) (fun X hC hnl hE hR hN => ?_)
  have hC : Cx X RX8 cX8_carryOut (d + 5) 0 0 := hC
  show Wp X 0 0 w [(0, .ref x), (1, .ref b)] [] 0
  have hnp : np ≤ 4 := hI.2.2
  have hf : fltSlope a1 = 1000010 := hf
  obtain ⟨ol, hs, yb, ys, hx, q, qn, cn, ps, cs, ho, hY, hB, hS, hA, hT, hX, hL, hHs, hol, hll, hring, hsnap⟩ := id H
  have hy0 : w[x + 1]? = some (mO 7 [.ref (x + 2), .ref (x + 5), .ref (x + 6), .int (nI np), .int tp, .int av, .int lg, .int pl, .int tk]) := hY.1
  have hh : HillAt w (x + 2) (x + 3) (x + 4) (f, g, sl, op, lo) := hY.2.1
  have hy1 : w[x + 2]? = some (mO 6 [.ref (x + 3), .ref (x + 4), .int sl, .int op, .int lo]) := hh.1
  have hy2 : w[x + 3]? = some (mI 0 26 f) := hh.2.1
  have hy3 : w[x + 4]? = some (mI 0 25 g) := hh.2.2
  have hy4 : w[x + 5]? = some (mI 0 4 hd) := hY.2.2.1
  have hy5 : w[x + 6]? = some (mI 0 4 rs) := hY.2.2.2
  refine r_gets hC sX8_carryOut_0 (v := .ref 1000002) gZ_sm ?_
  refine r_aload_n hC dX8_carryOut_3 rfl (j := 1) rfl ?_
  refine r_get hC gX8_carryOut_4 hc (v := .ref 1000025) rfl ?_
  refine r_callU hC (vs := []) vX8_carryOut_7 (by decide) (sk_ord (d := d) (x := 5) (List.mem_of_getElem? (i := 15) rfl)) rfl (by omega) (by omega) (by omega) (Nat.le_of_ble_eq_true rfl) (fun v_1 w_1 hP_1 hlen_1 => ?_)
  rw [hP_1.1, hP_1.2]
  show Wp X 0 0 w [(0, .ref x), (1, .ref b)] [.int 5, .ref 1000002] 10
  refine r_ialdS hC dX8_carryOut_10 (j := 5) gT_sm ⟨by decide, by decide, by decide⟩ ?_
  rw [show tArr mSM 5 = .int 5 from rfl]
  refine r_tableIn (off := 124) (tgt := 135) hC dX8_carryOut_11 (by decide) (by decide) (by decide) (by decide) ?_
  refine r_aload_n hC dX8_carryOut_135 rfl (j := 0) rfl ?_
  refine r_get hC gX8_carryOut_136 ho (v := .ref (x + 1)) rfl ?_
  refine r_aload_n hC dX8_carryOut_139 rfl (j := 1) rfl ?_
  refine r_get hC gX8_carryOut_140 hc (v := .int a1) rfl ?_
  refine r_callV hC (vs := [.int a1]) vX8_carryOut_143 (sp_slope (d := d) (x := a1) hY) hy0 rfl rfl (by omega) (by omega) (by omega) (Nat.le_of_ble_eq_true rfl) (fun v_2 w_2 hP_2 hlen_2 => ?_) (fun _ _ h => h.elim)
  rw [hP_2.1]
  have hn_2 : w_2.length = w.length := hlen_2.trans (rfl)
  have T_2 := hP_2.2
  show Wp X 0 0 w_2 [(0, .ref x), (1, .ref b)] [.int (nI (hRestF (f, g, a1, op, lo)).1)] 146
  refine r_pop hC dX8_carryOut_146 rfl ?_
  refine r_goto hC dX8_carryOut_147 (tgt := 172) (by decide) ?_
  refine r_vret hC hE hR dX8_carryOut_172 (by omega) (by omega) (hn_2) ?_
  exact ⟨rfl, T_2⟩
set_option maxRecDepth 100000 in
set_option maxHeartbeats 4000000 in
theorem sh_do6 {d b : Nat} {a1 a2 a3 : Int32} {w : mW} {x : Nat} {f g : Nat → Int32} {sl op lo : Int32} {hd rs : Nat → Int32} {np : Nat} {tp av lg pl tk : Int32} {l : List sv} {ea fa : Int32} {so : Option sv} {tx ln : List Nat} (H : CtAt w x ((f, g, sl, op, lo), hd, rs, np, tp, av, lg, pl, tk) l ea fa so tx ln) (hI : SInv ((f, g, sl, op, lo), hd, rs, np, tp, av, lg, pl, tk)) (hc : w[b]? = some (mO 4 [.ref 1000026, .int a1, .int a2, .int a3])) (hf : cmdFlt ((f, g, sl, op, lo), hd, rs, np, tp, av, lg, pl, tk) (6, a1, a2, a3) = 1000010) : Sp (d + 5) yX8_carryOut cX8_carryOut 2 none [.ref x, .ref b] w 0 0 (fun v w' => v = none ∧ StTo w (x + 1) (cmdDo ((f, g, sl, op, lo), hd, rs, np, tp, av, lg, pl, tk) (6, a1, a2, a3)) w') noX := by
  refine Sp.of (by decide +kernel) (Nat.le_of_ble_eq_true rfl) (fun X hC hnl hE hR hN => ?_)
  have hC : Cx X RX8 cX8_carryOut (d + 5) 0 0 := hC
  show Wp X 0 0 w [(0, .ref x), (1, .ref b)] [] 0
  have hnp : np ≤ 4 := hI.2.2
  obtain ⟨ol, hs, yb, ys, hx, q, qn, cn, ps, cs, ho, hY, hB, hS, hA, hT, hX, hL, hHs, hol, hll, hring, hsnap⟩ := id H
  have hy0 : w[x + 1]? = some (mO 7 [.ref (x + 2), .ref (x + 5), .ref (x + 6), .int (nI np), .int tp, .int av, .int lg, .int pl, .int tk]) := hY.1
  have hh : HillAt w (x + 2) (x + 3) (x + 4) (f, g, sl, op, lo) := hY.2.1
  have hy1 : w[x + 2]? = some (mO 6 [.ref (x + 3), .ref (x + 4), .int sl, .int op, .int lo]) := hh.1
  have hy2 : w[x + 3]? = some (mI 0 26 f) := hh.2.1
  have hy3 : w[x + 4]? = some (mI 0 25 g) := hh.2.2
  have hy4 : w[x + 5]? = some (mI 0 4 hd) := hY.2.2.1
  have hy5 : w[x + 6]? = some (mI 0 4 rs) := hY.2.2.2
  refine r_gets hC sX8_carryOut_0 (v := .ref 1000002) gZ_sm ?_
  refine r_aload_n hC dX8_carryOut_3 rfl (j := 1) rfl ?_
  refine r_get hC gX8_carryOut_4 hc (v := .ref 1000026) rfl ?_
  refine r_callU hC (vs := []) vX8_carryOut_7 (by decide) (sk_ord (d := d) (x := 6) (List.mem_of_getElem? (i := 18) rfl)) rfl (by omega) (by omega) (by omega) (Nat.le_of_ble_eq_true rfl) (fun v_1 w_1 hP_1 hlen_1 => ?_)
  rw [hP_1.1, hP_1.2]
  show Wp X 0 0 w [(0, .ref x), (1, .ref b)] [.int 6, .ref 1000002] 10
  refine r_ialdS hC dX8_carryOut_10 (j := 6) gT_sm ⟨by decide, by decide, by decide⟩ ?_
  rw [show tArr mSM 6 = .int 0 from rfl]
  refine r_tableOut (tgt := 150) hC dX8_carryOut_11 (by decide) (by decide) ?_
  refine r_aload_n hC dX8_carryOut_150 rfl (j := 0) rfl ?_
  refine r_get hC gX8_carryOut_151 ho (v := .ref (x + 1)) rfl ?_
  refine r_aload_n hC dX8_carryOut_154 rfl (j := 1) rfl ?_
  refine r_get hC gX8_carryOut_155 hc (v := .ref 1000026) rfl ?_
  refine r_gets hC sX8_carryOut_158 (v := .ref 1000026) gZ_k6 ?_
  refine r_acmp_ne hC dX8_carryOut_161 (tgt := 168) (by decide) (by decide) (by decide) (fun h => absurd (by decide) h) (fun _ => ?_)
  refine r_iconst hC dX8_carryOut_164 (v := 1) (by decide) ?_
  refine r_goto hC dX8_carryOut_165 (tgt := 169) (by decide) ?_
  refine r_callV hC (vs := [.int 1]) vX8_carryOut_169 (sp_border (d := d) (x := 1) hY (by decide)) hy0 rfl rfl (by omega) (by omega) (by omega) (Nat.le_of_ble_eq_true rfl) (fun v_2 w_2 hP_2 hlen_2 => ?_) (fun _ _ h => h.elim)
  rw [hP_2.1]
  have hn_2 : w_2.length = w.length := hlen_2.trans (rfl)
  have T_2 := hP_2.2
  show Wp X 0 0 w_2 [(0, .ref x), (1, .ref b)] [] 172
  refine r_vret hC hE hR dX8_carryOut_172 (by omega) (by omega) (hn_2) ?_
  exact ⟨rfl, T_2⟩
set_option maxRecDepth 100000 in
set_option maxHeartbeats 4000000 in
theorem sh_do7 {d b : Nat} {a1 a2 a3 : Int32} {w : mW} {x : Nat} {f g : Nat → Int32} {sl op lo : Int32} {hd rs : Nat → Int32} {np : Nat} {tp av lg pl tk : Int32} {l : List sv} {ea fa : Int32} {so : Option sv} {tx ln : List Nat} (H : CtAt w x ((f, g, sl, op, lo), hd, rs, np, tp, av, lg, pl, tk) l ea fa so tx ln) (hI : SInv ((f, g, sl, op, lo), hd, rs, np, tp, av, lg, pl, tk)) (hc : w[b]? = some (mO 4 [.ref 1000027, .int a1, .int a2, .int a3])) (hf : cmdFlt ((f, g, sl, op, lo), hd, rs, np, tp, av, lg, pl, tk) (7, a1, a2, a3) = 1000010) : Sp (d + 5) yX8_carryOut cX8_carryOut 2 none [.ref x, .ref b] w 0 0 (fun v w' => v = none ∧ StTo w (x + 1) (cmdDo ((f, g, sl, op, lo), hd, rs, np, tp, av, lg, pl, tk) (7, a1, a2, a3)) w') noX := by
  refine Sp.of (by decide +kernel) (Nat.le_of_ble_eq_true rfl) (fun X hC hnl hE hR hN => ?_)
  have hC : Cx X RX8 cX8_carryOut (d + 5) 0 0 := hC
  show Wp X 0 0 w [(0, .ref x), (1, .ref b)] [] 0
  have hnp : np ≤ 4 := hI.2.2
  obtain ⟨ol, hs, yb, ys, hx, q, qn, cn, ps, cs, ho, hY, hB, hS, hA, hT, hX, hL, hHs, hol, hll, hring, hsnap⟩ := id H
  have hy0 : w[x + 1]? = some (mO 7 [.ref (x + 2), .ref (x + 5), .ref (x + 6), .int (nI np), .int tp, .int av, .int lg, .int pl, .int tk]) := hY.1
  have hh : HillAt w (x + 2) (x + 3) (x + 4) (f, g, sl, op, lo) := hY.2.1
  have hy1 : w[x + 2]? = some (mO 6 [.ref (x + 3), .ref (x + 4), .int sl, .int op, .int lo]) := hh.1
  have hy2 : w[x + 3]? = some (mI 0 26 f) := hh.2.1
  have hy3 : w[x + 4]? = some (mI 0 25 g) := hh.2.2
  have hy4 : w[x + 5]? = some (mI 0 4 hd) := hY.2.2.1
  have hy5 : w[x + 6]? = some (mI 0 4 rs) := hY.2.2.2
  refine r_gets hC sX8_carryOut_0 (v := .ref 1000002) gZ_sm ?_
  refine r_aload_n hC dX8_carryOut_3 rfl (j := 1) rfl ?_
  refine r_get hC gX8_carryOut_4 hc (v := .ref 1000027) rfl ?_
  refine r_callU hC (vs := []) vX8_carryOut_7 (by decide) (sk_ord (d := d) (x := 7) (List.mem_of_getElem? (i := 21) rfl)) rfl (by omega) (by omega) (by omega) (Nat.le_of_ble_eq_true rfl) (fun v_1 w_1 hP_1 hlen_1 => ?_)
  rw [hP_1.1, hP_1.2]
  show Wp X 0 0 w [(0, .ref x), (1, .ref b)] [.int 7, .ref 1000002] 10
  refine r_ialdS hC dX8_carryOut_10 (j := 7) gT_sm ⟨by decide, by decide, by decide⟩ ?_
  rw [show tArr mSM 7 = .int 0 from rfl]
  refine r_tableOut (tgt := 150) hC dX8_carryOut_11 (by decide) (by decide) ?_
  refine r_aload_n hC dX8_carryOut_150 rfl (j := 0) rfl ?_
  refine r_get hC gX8_carryOut_151 ho (v := .ref (x + 1)) rfl ?_
  refine r_aload_n hC dX8_carryOut_154 rfl (j := 1) rfl ?_
  refine r_get hC gX8_carryOut_155 hc (v := .ref 1000027) rfl ?_
  refine r_gets hC sX8_carryOut_158 (v := .ref 1000026) gZ_k6 ?_
  refine r_acmp_ne hC dX8_carryOut_161 (tgt := 168) (by decide) (by decide) (by decide) (fun _ => ?_) (fun h => absurd h (by decide))
  refine r_iconst hC dX8_carryOut_168 (v := 0) (by decide) ?_
  refine r_callV hC (vs := [.int 0]) vX8_carryOut_169 (sp_border (d := d) (x := 0) hY (by decide)) hy0 rfl rfl (by omega) (by omega) (by omega) (Nat.le_of_ble_eq_true rfl) (fun v_2 w_2 hP_2 hlen_2 => ?_) (fun _ _ h => h.elim)
  rw [hP_2.1]
  have hn_2 : w_2.length = w.length := hlen_2.trans (rfl)
  have T_2 := hP_2.2
  show Wp X 0 0 w_2 [(0, .ref x), (1, .ref b)] [] 172
  refine r_vret hC hE hR dX8_carryOut_172 (by omega) (by omega) (hn_2) ?_
  exact ⟨rfl, T_2⟩
theorem sh_do {C : cmdT} {d b : Nat} {w : mW} {x : Nat} {f g : Nat → Int32} {sl op lo : Int32} {hd rs : Nat → Int32} {np : Nat} {tp av lg pl tk : Int32} {l : List sv} {ea fa : Int32} {so : Option sv} {tx ln : List Nat} (H : CtAt w x ((f, g, sl, op, lo), hd, rs, np, tp, av, lg, pl, tk) l ea fa so tx ln) (hI : SInv ((f, g, sl, op, lo), hd, rs, np, tp, av, lg, pl, tk)) (h8 : C.1 < 8) (hc : w[b]? = some (cmC C)) (hf : cmdFlt ((f, g, sl, op, lo), hd, rs, np, tp, av, lg, pl, tk) C = 1000010) : Sp (d + 5) yX8_carryOut cX8_carryOut 2 none [.ref x, .ref b] w 0 0 (fun v w' => v = none ∧ StTo w (x + 1) (cmdDo ((f, g, sl, op, lo), hd, rs, np, tp, av, lg, pl, tk) C) w') noX := by
  obtain ⟨k, a1, a2, a3⟩ := C
  match k, h8 with
  | 0, _ => exact sh_do0 H hI hc hf
  | 1, _ => exact sh_do1 H hI hc hf
  | 2, _ => exact sh_do2 H hI hc hf
  | 3, _ => exact sh_do3 H hI hc hf
  | 4, _ => exact sh_do4 H hI hc hf
  | 5, _ => exact sh_do5 H hI hc hf
  | 6, _ => exact sh_do6 H hI hc hf
  | 7, _ => exact sh_do7 H hI hc hf
end HC6
