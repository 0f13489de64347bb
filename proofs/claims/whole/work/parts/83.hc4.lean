section HC4
theorem Gl_dummy : True := trivial
theorem tr_queue {d c : Nat} {n : Int32} {w : mW} {x : Nat} {f g : Nat → Int32} {sl op lo : Int32} {hd rs : Nat → Int32} {np : Nat} {tp av lg pl tk : Int32} {l : List sv} {ea fa : Int32} {so : Option sv} {tx ln : List Nat} (H : CtAt w x ((f, g, sl, op, lo), hd, rs, np, tp, av, lg, pl, tk) l ea fa so tx ln) (hI : SInv ((f, g, sl, op, lo), hd, rs, np, tp, av, lg, pl, tk)) (hc : c < 25) (hS9 : isS n = true) : Sp (d + 4) yX7_countByQueue cX7_countByQueue 7 (some .int) [.ref (x + 20), .ref (x + 2), .int (nI c), .int n] w 0 0 (fun v w' => v = some (.int (nI (hRestF (hPlace (f, g, sl, op, lo) c n (-1))).1)) ∧ CtTo w w' x ((f, g, sl, op, lo), hd, rs, np, tp, av, lg, pl, tk) l ea fa so tx ln) noX := by
  have H9 := H
  obtain ⟨ol, hs, yb, ys, hx, q, qn, cn, ps, cs, ho, hY, hB, hS, hA, hT, hX, hL, hHs, hol, hll, hring, hsnap⟩ := H
  refine Sp.imp (sp_queue (d := d) (x := n) hT hY.2.1 ⟨by omega, by omega, by omega⟩ hI.1.2.2.1 hc) (fun v w' h => ?_)
  refine ⟨?_, H9.trial h.2.1 h.2.2⟩
  rw [← queue_scan (N := 309) (by decide) (trial_hill hI.1 hc hS9)]
  exact h.1
theorem tr_scan {d c : Nat} {n : Int32} {w : mW} {x : Nat} {f g : Nat → Int32} {sl op lo : Int32} {hd rs : Nat → Int32} {np : Nat} {tp av lg pl tk : Int32} {l : List sv} {ea fa : Int32} {so : Option sv} {tx ln : List Nat} (H : CtAt w x ((f, g, sl, op, lo), hd, rs, np, tp, av, lg, pl, tk) l ea fa so tx ln) (hI : SInv ((f, g, sl, op, lo), hd, rs, np, tp, av, lg, pl, tk)) (hc : c < 25) : Sp (d + 4) yX7_countByScan cX7_countByScan 4 (some .int) [.ref (x + 20), .ref (x + 2), .int (nI c), .int n] w 0 0 (fun v w' => v = some (.int (nI (hRestF (hPlace (f, g, sl, op, lo) c n (-1))).1)) ∧ CtTo w w' x ((f, g, sl, op, lo), hd, rs, np, tp, av, lg, pl, tk) l ea fa so tx ln) noX := by
  have H9 := H
  obtain ⟨ol, hs, yb, ys, hx, q, qn, cn, ps, cs, ho, hY, hB, hS, hA, hT, hX, hL, hHs, hol, hll, hring, hsnap⟩ := H
  exact Sp.imp (sp_scan (d := d) (x := n) hT hY.2.1 ⟨by omega, by omega, by omega⟩ hI.1.2.2.1 hc) (fun v w' h => ⟨h.1, H9.trial h.2.1 h.2.2⟩)
set_option maxRecDepth 100000 in
set_option maxHeartbeats 4000000 in
theorem sh_topplesIf {d : Nat} {c n : Int32} {w : mW} {x : Nat} {f g : Nat → Int32} {sl op lo : Int32} {hd rs : Nat → Int32} {np : Nat} {tp av lg pl tk : Int32} {l : List sv} {ea fa : Int32} {so : Option sv} {tx ln : List Nat} (H : CtAt w x ((f, g, sl, op, lo), hd, rs, np, tp, av, lg, pl, tk) l ea fa so tx ln) (hI : SInv ((f, g, sl, op, lo), hd, rs, np, tp, av, lg, pl, tk)) : Sp (d + 5) yX8_topplesIf cX8_topplesIf 3 (some .int) [.ref x, .int c, .int n] w 2 12 (fun v w' => (isC c = true ∧ isS n = true) ∧ v = some (.int (nI (hRestF (hPlace (f, g, sl, op, lo) c.toNatClampNeg n (-1))).1)) ∧ CtTo w w' x ((f, g, sl, op, lo), hd, rs, np, tp, av, lg, pl, tk) l ea fa so tx ln) (fun E w' => (E = "java/lang/IndexOutOfBoundsException" ∧ w' = w ∧ isC c = false) ∨ (E = "java/lang/IllegalArgumentException" ∧ w' = w ∧ isC c = true ∧ isS n = false)) := by
  refine Sp.of (by decide +kernel) (Nat.le_of_ble_eq_true rfl) (fun X hC hnl hE hR hN => ?_)
  have hC : Cx X RX8 cX8_topplesIf (d + 5) 2 12 := hC
  show Wp X 0 0 w [(0, .ref x), (1, .int c), (2, .int n)] [] 0
  have H9 := H
  obtain ⟨ol, hs, yb, ys, hx, q, qn, cn, ps, cs, ho, hY, hB, hS, hA, hT, hX, hL, hHs, hol, hll, hring, hsnap⟩ := id H
  have hy0 : w[x + 1]? = some (mO 7 [.ref (x + 2), .ref (x + 5), .ref (x + 6), .int (nI np), .int tp, .int av, .int lg, .int pl, .int tk]) := hY.1
  have hh : HillAt w (x + 2) (x + 3) (x + 4) (f, g, sl, op, lo) := hY.2.1
  have hy1 : w[x + 2]? = some (mO 6 [.ref (x + 3), .ref (x + 4), .int sl, .int op, .int lo]) := hh.1
  have hy2 : w[x + 3]? = some (mI 0 26 f) := hh.2.1
  have hy3 : w[x + 4]? = some (mI 0 25 g) := hh.2.2
  have hy4 : w[x + 5]? = some (mI 0 4 hd) := hY.2.2.1
  have hy5 : w[x + 6]? = some (mI 0 4 rs) := hY.2.2.2
  refine r_iload_n hC dX8_topplesIf_0 rfl (j := 1) rfl ?_
  refine r_callS hC (vs := [.int c]) vX8_topplesIf_1 (sh_rc (d := d) (c := c)) rfl (by omega) (by omega) (by omega) (Nat.le_of_ble_eq_true rfl) (fun v_1 w_1 hP_1 hlen_1 => ?_) (fun E_1 w9_1 hX_1 hl9_1 => r_out hC hE hN (by omega) (by omega) (hl9_1.trans (rfl)) (Or.inl hX_1))
  rw [hP_1.1, hP_1.2.1]
  have hc := hP_1.2.2
  show Wp X (0 + 1) (0 + 6) w [(0, .ref x), (1, .int c), (2, .int n)] [] 4
  have hc25 := isC_lt hc
  refine r_iload_n hC dX8_topplesIf_4 rfl (j := 2) rfl ?_
  refine r_callS hC (vs := [.int n]) vX8_topplesIf_5 (sh_rs (d := d) (c := n)) rfl (by omega) (by omega) (by omega) (Nat.le_of_ble_eq_true rfl) (fun v_2 w_2 hP_2 hlen_2 => ?_) (fun E_2 w9_2 hX_2 hl9_2 => r_out hC hE hN (by omega) (by omega) (hl9_2.trans (rfl)) (Or.inr ⟨hX_2.1, hX_2.2.1, hc, hX_2.2.2⟩))
  rw [hP_2.1, hP_2.2.1]
  have hs := hP_2.2.2
  show Wp X ((0 + 1) + 1) ((0 + 6) + 6) w [(0, .ref x), (1, .int c), (2, .int n)] [] 8
  refine r_aload_n hC dX8_topplesIf_8 rfl (j := 0) rfl ?_
  refine r_get hC gX8_topplesIf_9 ho (v := .ref (x + 20)) rfl ?_
  refine r_aload_n hC dX8_topplesIf_12 rfl (j := 0) rfl ?_
  refine r_get hC gX8_topplesIf_13 ho (v := .ref (x + 1)) rfl ?_
  refine r_get hC gX8_topplesIf_16 hy0 (v := .ref (x + 2)) rfl ?_
  refine r_iload_n hC dX8_topplesIf_19 rfl (j := 1) rfl ?_
  refine r_iload_n hC dX8_topplesIf_20 rfl (j := 2) rfl ?_
  rw [show ([.int n, .int c, .ref (x + 2), .ref (x + 20)] : List Value) = [.int n, .int (nI c.toNatClampNeg), .ref (x + 2), .ref (x + 20)] from by rw [← hc25.2]]
  refine r_callV hC (vs := [.ref (x + 2), .int (nI c.toNatClampNeg), .int n]) vX8_topplesIf_21 (tr_queue (d := d) H9 hI hc25.1 hs) hT.1 rfl rfl (by omega) (by omega) (by omega) (Nat.le_of_ble_eq_true rfl) (fun v_3 w_3 hP_3 hlen_3 => ?_) (fun _ _ h => h.elim)
  rw [hP_3.1]
  have hn_3 : w_3.length = w.length := hlen_3.trans (rfl)
  have T_3 := hP_3.2
  show Wp X ((0 + 1) + 1) ((0 + 6) + 6) w_3 [(0, .ref x), (1, .int c), (2, .int n)] [.int (nI (hRestF (hPlace (f, g, sl, op, lo) c.toNatClampNeg n (-1))).1)] 24
  refine r_iret hC hE hR dX8_topplesIf_24 (by omega) (by omega) (hn_3) ?_
  exact ⟨⟨hc, hs⟩, rfl, T_3⟩
set_option maxRecDepth 100000 in
set_option maxHeartbeats 4000000 in
theorem sh_topplesIfByScan {d : Nat} {c n : Int32} {w : mW} {x : Nat} {f g : Nat → Int32} {sl op lo : Int32} {hd rs : Nat → Int32} {np : Nat} {tp av lg pl tk : Int32} {l : List sv} {ea fa : Int32} {so : Option sv} {tx ln : List Nat} (H : CtAt w x ((f, g, sl, op, lo), hd, rs, np, tp, av, lg, pl, tk) l ea fa so tx ln) (hI : SInv ((f, g, sl, op, lo), hd, rs, np, tp, av, lg, pl, tk)) : Sp (d + 5) yX8_topplesIfByScan cX8_topplesIfByScan 3 (some .int) [.ref x, .int c, .int n] w 2 12 (fun v w' => (isC c = true ∧ isS n = true) ∧ v = some (.int (nI (hRestF (hPlace (f, g, sl, op, lo) c.toNatClampNeg n (-1))).1)) ∧ CtTo w w' x ((f, g, sl, op, lo), hd, rs, np, tp, av, lg, pl, tk) l ea fa so tx ln) (fun E w' => (E = "java/lang/IndexOutOfBoundsException" ∧ w' = w ∧ isC c = false) ∨ (E = "java/lang/IllegalArgumentException" ∧ w' = w ∧ isC c = true ∧ isS n = false)) := by
  refine Sp.of (by decide +kernel) (Nat.le_of_ble_eq_true rfl) (fun X hC hnl hE hR hN => ?_)
  have hC : Cx X RX8 cX8_topplesIfByScan (d + 5) 2 12 := hC
  show Wp X 0 0 w [(0, .ref x), (1, .int c), (2, .int n)] [] 0
  have H9 := H
  obtain ⟨ol, hs, yb, ys, hx, q, qn, cn, ps, cs, ho, hY, hB, hS, hA, hT, hX, hL, hHs, hol, hll, hring, hsnap⟩ := id H
  have hy0 : w[x + 1]? = some (mO 7 [.ref (x + 2), .ref (x + 5), .ref (x + 6), .int (nI np), .int tp, .int av, .int lg, .int pl, .int tk]) := hY.1
  have hh : HillAt w (x + 2) (x + 3) (x + 4) (f, g, sl, op, lo) := hY.2.1
  have hy1 : w[x + 2]? = some (mO 6 [.ref (x + 3), .ref (x + 4), .int sl, .int op, .int lo]) := hh.1
  have hy2 : w[x + 3]? = some (mI 0 26 f) := hh.2.1
  have hy3 : w[x + 4]? = some (mI 0 25 g) := hh.2.2
  have hy4 : w[x + 5]? = some (mI 0 4 hd) := hY.2.2.1
  have hy5 : w[x + 6]? = some (mI 0 4 rs) := hY.2.2.2
  refine r_iload_n hC dX8_topplesIfByScan_0 rfl (j := 1) rfl ?_
  refine r_callS hC (vs := [.int c]) vX8_topplesIfByScan_1 (sh_rc (d := d) (c := c)) rfl (by omega) (by omega) (by omega) (Nat.le_of_ble_eq_true rfl) (fun v_1 w_1 hP_1 hlen_1 => ?_) (fun E_1 w9_1 hX_1 hl9_1 => r_out hC hE hN (by omega) (by omega) (hl9_1.trans (rfl)) (Or.inl hX_1))
  rw [hP_1.1, hP_1.2.1]
  have hc := hP_1.2.2
  show Wp X (0 + 1) (0 + 6) w [(0, .ref x), (1, .int c), (2, .int n)] [] 4
  have hc25 := isC_lt hc
  refine r_iload_n hC dX8_topplesIfByScan_4 rfl (j := 2) rfl ?_
  refine r_callS hC (vs := [.int n]) vX8_topplesIfByScan_5 (sh_rs (d := d) (c := n)) rfl (by omega) (by omega) (by omega) (Nat.le_of_ble_eq_true rfl) (fun v_2 w_2 hP_2 hlen_2 => ?_) (fun E_2 w9_2 hX_2 hl9_2 => r_out hC hE hN (by omega) (by omega) (hl9_2.trans (rfl)) (Or.inr ⟨hX_2.1, hX_2.2.1, hc, hX_2.2.2⟩))
  rw [hP_2.1, hP_2.2.1]
  have hs := hP_2.2.2
  show Wp X ((0 + 1) + 1) ((0 + 6) + 6) w [(0, .ref x), (1, .int c), (2, .int n)] [] 8
  refine r_aload_n hC dX8_topplesIfByScan_8 rfl (j := 0) rfl ?_
  refine r_get hC gX8_topplesIfByScan_9 ho (v := .ref (x + 20)) rfl ?_
  refine r_aload_n hC dX8_topplesIfByScan_12 rfl (j := 0) rfl ?_
  refine r_get hC gX8_topplesIfByScan_13 ho (v := .ref (x + 1)) rfl ?_
  refine r_get hC gX8_topplesIfByScan_16 hy0 (v := .ref (x + 2)) rfl ?_
  refine r_iload_n hC dX8_topplesIfByScan_19 rfl (j := 1) rfl ?_
  refine r_iload_n hC dX8_topplesIfByScan_20 rfl (j := 2) rfl ?_
  rw [show ([.int n, .int c, .ref (x + 2), .ref (x + 20)] : List Value) = [.int n, .int (nI c.toNatClampNeg), .ref (x + 2), .ref (x + 20)] from by rw [← hc25.2]]
  refine r_callV hC (vs := [.ref (x + 2), .int (nI c.toNatClampNeg), .int n]) vX8_topplesIfByScan_21 (tr_scan (d := d) (n := n) H9 hI hc25.1) hT.1 rfl rfl (by omega) (by omega) (by omega) (Nat.le_of_ble_eq_true rfl) (fun v_3 w_3 hP_3 hlen_3 => ?_) (fun _ _ h => h.elim)
  rw [hP_3.1]
  have hn_3 : w_3.length = w.length := hlen_3.trans (rfl)
  have T_3 := hP_3.2
  show Wp X ((0 + 1) + 1) ((0 + 6) + 6) w_3 [(0, .ref x), (1, .int c), (2, .int n)] [.int (nI (hRestF (hPlace (f, g, sl, op, lo) c.toNatClampNeg n (-1))).1)] 24
  refine r_iret hC hE hR dX8_topplesIfByScan_24 (by omega) (by omega) (hn_3) ?_
  exact ⟨⟨hc, hs⟩, rfl, T_3⟩
set_option maxRecDepth 100000 in
set_option maxHeartbeats 4000000 in
theorem dta_all {X : mC} {d n0 : Nat} {n : Int32} {w : mW} {x : Nat} {f g : Nat → Int32} {sl op lo : Int32} {hd rs : Nat → Int32} {np : Nat} {tp av lg pl tk : Int32} {l : List sv} {ea fa : Int32} {so : Option sv} {tx ln : List Nat} (hI : SInv ((f, g, sl, op, lo), hd, rs, np, tp, av, lg, pl, tk)) (hS9 : isS n = true) (hC : Cx X RX8 cX8_doTrialsAgree (d + 5) 0 0) (hnl : mNL X = 4) (hE : mEnd X n0 0 0 (fun v w' => v = some (.int 1) ∧ CtTo w w' x ((f, g, sl, op, lo), hd, rs, np, tp, av, lg, pl, tk) l ea fa so tx ln) noX) (hR : mRet X (some .boolean)) (hn0 : w.length = n0) : ∀ (i9 c : Nat) (w9 : mW), c + i9 = 25 → w9.length = w.length → CtTo w w9 x ((f, g, sl, op, lo), hd, rs, np, tp, av, lg, pl, tk) l ea fa so tx ln → Wp X 0 0 w9 [(0, .ref x), (1, .int n), (2, .int (nI c))] [] 2 := by
  intro i9
  induction i9 with
  | zero =>
    intro c w9 h9 hl9 T
    obtain rfl : c = 25 := by omega
    refine r_iload_n hC dX8_doTrialsAgree_2 rfl (j := 2) rfl ?_
    refine r_bipush hC dX8_doTrialsAgree_3 (v := 25) (by decide) ?_
    refine r_icmp_ge hC dX8_doTrialsAgree_5 (tgt := 53) (by decide) (fun _ => ?_) (fun h => absurd (by decide) h)
    refine r_iconst hC dX8_doTrialsAgree_53 (v := 1) (by decide) ?_
    refine r_locals [] (L' := []) rfl ?_
    refine r_nret hC hE hR dX8_doTrialsAgree_54 (by decide) (by omega) (by omega) (hl9.trans hn0) ?_
    exact ⟨rfl, T⟩
  | succ i9 ih =>
    intro c w9 h9 hl9 T
    have hc : c < 25 := by omega
    have H9 := T.1
    obtain ⟨ol, hs, yb, ys, hx, q, qn, cn, ps, cs, ho, hY, hB, hS, hA, hT, hX, hL, hHs, hol, hll, hring, hsnap⟩ := id H9
    have hy0 : w9[x + 1]? = some (mO 7 [.ref (x + 2), .ref (x + 5), .ref (x + 6), .int (nI np), .int tp, .int av, .int lg, .int pl, .int tk]) := hY.1
    have hh : HillAt w9 (x + 2) (x + 3) (x + 4) (f, g, sl, op, lo) := hY.2.1
    have hy1 : w9[x + 2]? = some (mO 6 [.ref (x + 3), .ref (x + 4), .int sl, .int op, .int lo]) := hh.1
    have hy2 : w9[x + 3]? = some (mI 0 26 f) := hh.2.1
    have hy3 : w9[x + 4]? = some (mI 0 25 g) := hh.2.2
    have hy4 : w9[x + 5]? = some (mI 0 4 hd) := hY.2.2.1
    have hy5 : w9[x + 6]? = some (mI 0 4 rs) := hY.2.2.2
    refine r_iload_n hC dX8_doTrialsAgree_2 rfl (j := 2) rfl ?_
    refine r_bipush hC dX8_doTrialsAgree_3 (v := 25) (by decide) ?_
    refine r_icmp_ge hC dX8_doTrialsAgree_5 (tgt := 53) (by decide) (fun h => absurd h (lit_ge (N := 25) rfl hc (by decide))) (fun _ => ?_)
    refine r_aload_n hC dX8_doTrialsAgree_8 rfl (j := 0) rfl ?_
    refine r_get hC gX8_doTrialsAgree_9 ho (v := .ref (x + 20)) rfl ?_
    refine r_aload_n hC dX8_doTrialsAgree_12 rfl (j := 0) rfl ?_
    refine r_get hC gX8_doTrialsAgree_13 ho (v := .ref (x + 1)) rfl ?_
    refine r_get hC gX8_doTrialsAgree_16 hy0 (v := .ref (x + 2)) rfl ?_
    refine r_iload_n hC dX8_doTrialsAgree_19 rfl (j := 2) rfl ?_
    refine r_iload_n hC dX8_doTrialsAgree_20 rfl (j := 1) rfl ?_
    refine r_callV hC (vs := [.ref (x + 2), .int (nI c), .int n]) vX8_doTrialsAgree_21 (tr_queue (d := d) H9 hI hc hS9) hT.1 rfl rfl (by omega) (by omega) (by omega) (Nat.le_of_ble_eq_true rfl) (fun v_1 w_1 hP_1 hlen_1 => ?_) (fun _ _ h => h.elim)
    rw [hP_1.1]
    have hn_1 : w_1.length = w9.length := hlen_1.trans (rfl)
    have T_1 := hP_1.2
    have K_1 := hP_1.2.1
    obtain ⟨ol, hs, yb, ys, hx, q, qn, cn, ps, cs, ho, hY, hB, hS, hA, hT, hX, hL, hHs, hol, hll, hring, hsnap⟩ := id K_1
    have hy0 : w_1[x + 1]? = some (mO 7 [.ref (x + 2), .ref (x + 5), .ref (x + 6), .int (nI np), .int tp, .int av, .int lg, .int pl, .int tk]) := hY.1
    have hh : HillAt w_1 (x + 2) (x + 3) (x + 4) (f, g, sl, op, lo) := hY.2.1
    have hy1 : w_1[x + 2]? = some (mO 6 [.ref (x + 3), .ref (x + 4), .int sl, .int op, .int lo]) := hh.1
    have hy2 : w_1[x + 3]? = some (mI 0 26 f) := hh.2.1
    have hy3 : w_1[x + 4]? = some (mI 0 25 g) := hh.2.2
    have hy4 : w_1[x + 5]? = some (mI 0 4 hd) := hY.2.2.1
    have hy5 : w_1[x + 6]? = some (mI 0 4 rs) := hY.2.2.2
    show Wp X 0 0 w_1 [(0, .ref x), (1, .int n), (2, .int (nI c))] [.int (nI (hRestF (hPlace (f, g, sl, op, lo) c n (-1))).1)] 24
    refine r_istore_n hC dX8_doTrialsAgree_24 rfl (by rw [hnl]; decide) (L' := [(3, .int (nI (hRestF (hPlace (f, g, sl, op, lo) c n (-1))).1)), (0, .ref x), (1, .int n), (2, .int (nI c))]) rfl ?_
    refine r_iload_n hC dX8_doTrialsAgree_25 rfl (j := 0) rfl ?_
    refine r_aload_n hC dX8_doTrialsAgree_26 rfl (j := 1) rfl ?_
    refine r_get hC gX8_doTrialsAgree_27 ho (v := .ref (x + 20)) rfl ?_
    refine r_aload_n hC dX8_doTrialsAgree_30 rfl (j := 1) rfl ?_
    refine r_get hC gX8_doTrialsAgree_31 ho (v := .ref (x + 1)) rfl ?_
    refine r_get hC gX8_doTrialsAgree_34 hy0 (v := .ref (x + 2)) rfl ?_
    refine r_iload_n hC dX8_doTrialsAgree_37 rfl (j := 3) rfl ?_
    refine r_iload_n hC dX8_doTrialsAgree_38 rfl (j := 2) rfl ?_
    refine r_callV hC (vs := [.ref (x + 2), .int (nI c), .int n]) vX8_doTrialsAgree_39 (tr_scan (d := d) (n := n) K_1 hI hc) hT.1 rfl rfl (by omega) (by omega) (by omega) (Nat.le_of_ble_eq_true rfl) (fun v_2 w_2 hP_2 hlen_2 => ?_) (fun _ _ h => h.elim)
    rw [hP_2.1]
    have hn_2 : w_2.length = w9.length := hlen_2.trans (hn_1)
    have T_2 := hP_2.2
    show Wp X 0 0 w_2 [(3, .int (nI (hRestF (hPlace (f, g, sl, op, lo) c n (-1))).1)), (0, .ref x), (1, .int n), (2, .int (nI c))] [.int (nI (hRestF (hPlace (f, g, sl, op, lo) c n (-1))).1), .int (nI (hRestF (hPlace (f, g, sl, op, lo) c n (-1))).1)] 42
    refine r_icmp_eq hC dX8_doTrialsAgree_42 (tgt := 47) (by decide) (fun _ => ?_) (fun h => absurd rfl h)
    refine r_iinc hC dX8_doTrialsAgree_47 (j := 3) rfl (v := nI (c + 1)) (nI_succ c).symm (by rw [hnl]; decide) (L' := [(2, .int (nI (c + 1))), (3, .int (nI (hRestF (hPlace (f, g, sl, op, lo) c n (-1))).1)), (0, .ref x), (1, .int n)]) rfl ?_
    refine r_goto hC dX8_doTrialsAgree_50 (tgt := 2) (by decide) ?_
    refine r_locals [2, 3, 0] (L' := [(0, .ref x), (1, .int n), (2, .int (nI (c + 1)))]) rfl ?_
    exact ih (c + 1) w_2 (by omega) (hn_2.trans hl9) ((T.trans T_1).trans T_2)
set_option maxRecDepth 100000 in
set_option maxHeartbeats 4000000 in
theorem sh_doTrialsAgree {d : Nat} {n : Int32} {w : mW} {x : Nat} {f g : Nat → Int32} {sl op lo : Int32} {hd rs : Nat → Int32} {np : Nat} {tp av lg pl tk : Int32} {l : List sv} {ea fa : Int32} {so : Option sv} {tx ln : List Nat} (H : CtAt w x ((f, g, sl, op, lo), hd, rs, np, tp, av, lg, pl, tk) l ea fa so tx ln) (hI : SInv ((f, g, sl, op, lo), hd, rs, np, tp, av, lg, pl, tk)) (hS9 : isS n = true) : Sp (d + 5) yX8_doTrialsAgree cX8_doTrialsAgree 4 (some .boolean) [.ref x, .int n] w 0 0 (fun v w' => v = some (.int 1) ∧ CtTo w w' x ((f, g, sl, op, lo), hd, rs, np, tp, av, lg, pl, tk) l ea fa so tx ln) noX := by
  refine Sp.of (by decide +kernel) (Nat.le_of_ble_eq_true rfl) (fun X hC hnl hE hR hN => ?_)
  have hC : Cx X RX8 cX8_doTrialsAgree (d + 5) 0 0 := hC
  show Wp X 0 0 w [(0, .ref x), (1, .int n)] [] 0
  refine r_iconst hC dX8_doTrialsAgree_0 (v := 0) (by decide) ?_
  refine r_istore_n hC dX8_doTrialsAgree_1 rfl (by rw [hnl]; decide) (L' := [(2, .int 0), (0, .ref x), (1, .int n)]) rfl ?_
  refine r_locals [1, 2, 0] (L' := [(0, .ref x), (1, .int n), (2, .int 0)]) rfl ?_
  exact dta_all (d := d) (w := w) hI hS9 hC hnl hE hR rfl 25 0 w rfl rfl (CtTo.rfl H)
set_option maxRecDepth 100000 in
set_option maxHeartbeats 4000000 in
theorem sh_isConsistent {d : Nat} {w : mW} {x : Nat} {f g : Nat → Int32} {sl op lo : Int32} {hd rs : Nat → Int32} {np : Nat} {tp av lg pl tk : Int32} {l : List sv} {ea fa : Int32} {so : Option sv} {tx ln : List Nat} (H : CtAt w x ((f, g, sl, op, lo), hd, rs, np, tp, av, lg, pl, tk) l ea fa so tx ln) (hI : SInv ((f, g, sl, op, lo), hd, rs, np, tp, av, lg, pl, tk)) : Sp (d + 6) yX8_isConsistent cX8_isConsistent 2 (some .boolean) [.ref x] w 0 0 (fun v w' => v = some (.int (bI (decide (hNx (f, g, sl, op, lo) = none) && decide (pl = hSum f 25 + lo + tk)))) ∧ CtTo w w' x ((f, g, sl, op, lo), hd, rs, np, tp, av, lg, pl, tk) l ea fa so tx ln) noX := by
  refine Sp.of (by decide +kernel) (Nat.le_of_ble_eq_true rfl) (fun X hC hnl hE hR hN => ?_)
  have hC : Cx X RX8 cX8_isConsistent (d + 6) 0 0 := hC
  show Wp X 0 0 w [(0, .ref x)] [] 0
  have H9 := H
  have hf4 : ∀ j, j < 25 → cN f j < 400 := fun j hj => by
    have h1 := sN_le (F := cN f) hj
    have h2 : sN (cN f) 25 ≤ 300 := hI.1.1.2
    omega
  have hop : op = 0 ∨ op = 1 := hI.1.2.2.1
  have eO : oI (hNext f op sl 25) = -1 ↔ hNx (f, g, sl, op, lo) = none := oI_none (fun k h => hNext_lt h) (by decide)
  have T0 := CtTo.rfl H
  obtain ⟨ol, hs, yb, ys, hx, q, qn, cn, ps, cs, ho, hY, hB, hS, hA, hT, hX, hL, hHs, hol, hll, hring, hsnap⟩ := id H
  have hy0 : w[x + 1]? = some (mO 7 [.ref (x + 2), .ref (x + 5), .ref (x + 6), .int (nI np), .int tp, .int av, .int lg, .int pl, .int tk]) := hY.1
  have hh : HillAt w (x + 2) (x + 3) (x + 4) (f, g, sl, op, lo) := hY.2.1
  have hy1 : w[x + 2]? = some (mO 6 [.ref (x + 3), .ref (x + 4), .int sl, .int op, .int lo]) := hh.1
  have hy2 : w[x + 3]? = some (mI 0 26 f) := hh.2.1
  have hy3 : w[x + 4]? = some (mI 0 25 g) := hh.2.2
  have hy4 : w[x + 5]? = some (mI 0 4 hd) := hY.2.2.1
  have hy5 : w[x + 6]? = some (mI 0 4 rs) := hY.2.2.2
  refine r_aload_n hC dX8_isConsistent_0 rfl (j := 0) rfl ?_
  refine r_get hC gX8_isConsistent_1 ho (v := .ref (x + 1)) rfl ?_
  refine r_get hC gX8_isConsistent_4 hy0 (v := .ref (x + 2)) rfl ?_
  refine r_callV hC (vs := []) vX8_isConsistent_7 (sp_cells (d := d + 5) hh) hy1 rfl rfl (by omega) (by omega) (by omega) (Nat.le_of_ble_eq_true rfl) (fun v_1 w_1 hP_1 hlen_1 => ?_) (fun _ _ h => h.elim)
  rw [hP_1.1, hP_1.2]
  show Wp X 0 0 w [(0, .ref x)] [.int (hSum f 25)] 10
  refine r_istore_n hC dX8_isConsistent_10 rfl (by rw [hnl]; decide) (L' := [(1, .int (hSum f 25)), (0, .ref x)]) rfl ?_
  refine r_aload_n hC dX8_isConsistent_11 rfl (j := 1) rfl ?_
  refine r_get hC gX8_isConsistent_12 ho (v := .ref (x + 1)) rfl ?_
  refine r_get hC gX8_isConsistent_15 hy0 (v := .ref (x + 2)) rfl ?_
  refine r_callV hC (vs := []) vX8_isConsistent_18 (sp_next (d := d + 3) hh) hy1 rfl rfl (by omega) (by omega) (by omega) (Nat.le_of_ble_eq_true rfl) (fun v_2 w_2 hP_2 hlen_2 => ?_) (fun _ _ h => h.elim)
  rw [hP_2.1, hP_2.2]
  show Wp X 0 0 w [(1, .int (hSum f 25)), (0, .ref x)] [.int (oI (hNext f op sl 25))] 21
  refine r_iconst hC dX8_isConsistent_21 (v := (-1)) (by decide) ?_
  refine r_icmp_ne hC dX8_isConsistent_22 (tgt := 90) (by decide) (fun c22 => ?_) (fun c22 => ?_)
  · refine r_iconst hC dX8_isConsistent_90 (v := 0) (by decide) ?_
    refine r_nret hC hE hR dX8_isConsistent_91 (by decide) (by omega) (by omega) (rfl) ?_
    exact ⟨(by rw [decide_eq_false (fun z => c22 (eO.mpr z))]; rfl), T0⟩
  · refine r_iload_n hC dX8_isConsistent_25 rfl (j := 0) rfl ?_
    refine r_aload_n hC dX8_isConsistent_26 rfl (j := 1) rfl ?_
    refine r_get hC gX8_isConsistent_27 ho (v := .ref (x + 1)) rfl ?_
    refine r_get hC gX8_isConsistent_30 hy0 (v := .ref (x + 2)) rfl ?_
    refine r_callV hC (vs := []) vX8_isConsistent_33 (sp_levels (d := d + 4) hh hI.1.1.1 hf4) hy1 rfl rfl (by omega) (by omega) (by omega) (Nat.le_of_ble_eq_true rfl) (fun v_3 w_3 hP_3 hlen_3 => ?_) (fun _ _ h => h.elim)
    rw [hP_3.1, hP_3.2]
    show Wp X 0 0 w [(1, .int (hSum f 25)), (0, .ref x)] [.int (hSum f 25), .int (hSum f 25)] 36
    refine r_icmp_ne hC dX8_isConsistent_36 (tgt := 90) (by decide) (fun h => absurd rfl h) (fun _ => ?_)
    refine r_aload_n hC dX8_isConsistent_39 rfl (j := 1) rfl ?_
    refine r_get hC gX8_isConsistent_40 ho (v := .ref (x + 1)) rfl ?_
    refine r_get hC gX8_isConsistent_43 hy0 (v := .int pl) rfl ?_
    refine r_iload_n hC dX8_isConsistent_46 rfl (j := 0) rfl ?_
    refine r_aload_n hC dX8_isConsistent_47 rfl (j := 1) rfl ?_
    refine r_get hC gX8_isConsistent_48 ho (v := .ref (x + 1)) rfl ?_
    refine r_get hC gX8_isConsistent_51 hy0 (v := .ref (x + 2)) rfl ?_
    refine r_get hC gX8_isConsistent_54 hy1 (v := .int lo) rfl ?_
    refine r_iadd hC dX8_isConsistent_57 ?_
    refine r_aload_n hC dX8_isConsistent_58 rfl (j := 1) rfl ?_
    refine r_get hC gX8_isConsistent_59 ho (v := .ref (x + 1)) rfl ?_
    refine r_get hC gX8_isConsistent_62 hy0 (v := .int tk) rfl ?_
    refine r_iadd hC dX8_isConsistent_65 ?_
    refine r_icmp_ne hC dX8_isConsistent_66 (tgt := 90) (by decide) (fun c66 => ?_) (fun c66 => ?_)
    · refine r_iconst hC dX8_isConsistent_90 (v := 0) (by decide) ?_
      refine r_nret hC hE hR dX8_isConsistent_91 (by decide) (by omega) (by omega) (rfl) ?_
      exact ⟨(by rw [decide_eq_true (eO.mp c22), decide_eq_false c66]; rfl), T0⟩
    · refine r_aload_n hC dX8_isConsistent_69 rfl (j := 1) rfl ?_
      refine r_iconst hC dX8_isConsistent_70 (v := 1) (by decide) ?_
      refine r_callV hC (vs := [.int 1]) vX8_isConsistent_71 (sh_doTrialsAgree (d := d) (n := 1) H9 hI (by decide)) ho rfl rfl (by omega) (by omega) (by omega) (Nat.le_of_ble_eq_true rfl) (fun v_4 w_4 hP_4 hlen_4 => ?_) (fun _ _ h => h.elim)
      rw [hP_4.1]
      have hn_4 : w_4.length = w.length := hlen_4.trans (rfl)
      have T_4 := hP_4.2
      have K_4 := hP_4.2.1
      obtain ⟨ol, hs, yb, ys, hx, q, qn, cn, ps, cs, ho, hY, hB, hS, hA, hT, hX, hL, hHs, hol, hll, hring, hsnap⟩ := id K_4
      have hy0 : w_4[x + 1]? = some (mO 7 [.ref (x + 2), .ref (x + 5), .ref (x + 6), .int (nI np), .int tp, .int av, .int lg, .int pl, .int tk]) := hY.1
      have hh : HillAt w_4 (x + 2) (x + 3) (x + 4) (f, g, sl, op, lo) := hY.2.1
      have hy1 : w_4[x + 2]? = some (mO 6 [.ref (x + 3), .ref (x + 4), .int sl, .int op, .int lo]) := hh.1
      have hy2 : w_4[x + 3]? = some (mI 0 26 f) := hh.2.1
      have hy3 : w_4[x + 4]? = some (mI 0 25 g) := hh.2.2
      have hy4 : w_4[x + 5]? = some (mI 0 4 hd) := hY.2.2.1
      have hy5 : w_4[x + 6]? = some (mI 0 4 rs) := hY.2.2.2
      show Wp X 0 0 w_4 [(1, .int (hSum f 25)), (0, .ref x)] [.int 1] 74
      refine r_if_eq hC dX8_isConsistent_74 (tgt := 90) (by decide) (fun h => absurd h (by decide)) (fun _ => ?_)
      refine r_aload_n hC dX8_isConsistent_77 rfl (j := 1) rfl ?_
      refine r_bipush hC dX8_isConsistent_78 (v := 9) (by decide) ?_
      refine r_callV hC (vs := [.int 9]) vX8_isConsistent_80 (sh_doTrialsAgree (d := d) (n := 9) K_4 hI (by decide)) ho rfl rfl (by omega) (by omega) (by omega) (Nat.le_of_ble_eq_true rfl) (fun v_5 w_5 hP_5 hlen_5 => ?_) (fun _ _ h => h.elim)
      rw [hP_5.1]
      have hn_5 : w_5.length = w.length := hlen_5.trans (hn_4)
      have T_5 := hP_5.2
      show Wp X 0 0 w_5 [(1, .int (hSum f 25)), (0, .ref x)] [.int 1] 83
      refine r_if_eq hC dX8_isConsistent_83 (tgt := 90) (by decide) (fun h => absurd h (by decide)) (fun _ => ?_)
      refine r_iconst hC dX8_isConsistent_86 (v := 1) (by decide) ?_
      refine r_goto hC dX8_isConsistent_87 (tgt := 91) (by decide) ?_
      refine r_nret hC hE hR dX8_isConsistent_91 (by decide) (by omega) (by omega) (hn_5) ?_
      exact ⟨(by rw [decide_eq_true (eO.mp c22), decide_eq_true c66]; rfl), (T_4.trans T_5)⟩
set_option maxRecDepth 100000 in
set_option maxHeartbeats 4000000 in
theorem sh_save {d : Nat} {w : mW} {x : Nat} {f g : Nat → Int32} {sl op lo : Int32} {hd rs : Nat → Int32} {np : Nat} {tp av lg pl tk : Int32} {l : List sv} {ea fa : Int32} {so : Option sv} {tx ln : List Nat} (H : CtAt w x ((f, g, sl, op, lo), hd, rs, np, tp, av, lg, pl, tk) l ea fa so tx ln) (hI : SInv ((f, g, sl, op, lo), hd, rs, np, tp, av, lg, pl, tk)) : Sp (d + 2) yX8_save cX8_save 1 (some .int) [.ref x] w 0 0 (fun v w' => v = some (.int (hSum f 25)) ∧ CtTo w w' x ((f, g, sl, op, lo), hd, rs, np, tp, av, lg, pl, tk) l ea fa (some ((f, g, sl, op, lo), hd, rs, np, tp, av, lg, pl, tk)) tx ln) noX := by
  refine Sp.of (by decide +kernel) (Nat.le_of_ble_eq_true rfl) (fun X hC hnl hE hR hN => ?_)
  have hC : Cx X RX8 cX8_save (d + 2) 0 0 := hC
  show Wp X 0 0 w [(0, .ref x)] [] 0
  obtain ⟨ol, hs, yb, ys, hx, q, qn, cn, ps, cs, ho, hY, hB, hS, hA, hT, hX, hL, hHs, hol, hll, hring, hsnap⟩ := id H
  have hy0 : w[x + 1]? = some (mO 7 [.ref (x + 2), .ref (x + 5), .ref (x + 6), .int (nI np), .int tp, .int av, .int lg, .int pl, .int tk]) := hY.1
  have hh : HillAt w (x + 2) (x + 3) (x + 4) (f, g, sl, op, lo) := hY.2.1
  have hy1 : w[x + 2]? = some (mO 6 [.ref (x + 3), .ref (x + 4), .int sl, .int op, .int lo]) := hh.1
  have hy2 : w[x + 3]? = some (mI 0 26 f) := hh.2.1
  have hy3 : w[x + 4]? = some (mI 0 25 g) := hh.2.2
  have hy4 : w[x + 5]? = some (mI 0 4 hd) := hY.2.2.1
  have hy5 : w[x + 6]? = some (mI 0 4 rs) := hY.2.2.2
  have hop : op = 0 ∨ op = 1 := hI.1.2.2.1
  refine r_aload_n hC dX8_save_0 rfl (j := 0) rfl ?_
  refine r_get hC gX8_save_1 ho (v := .ref (x + 13)) rfl ?_
  refine r_aload_n hC dX8_save_4 rfl (j := 0) rfl ?_
  refine r_get hC gX8_save_5 ho (v := .ref (x + 1)) rfl ?_
  refine r_callV hC (vs := [.ref (x + 1)]) vX8_save_8 (sp_copy (d := d) hS hY (by omega) hop) hS.1 rfl rfl (by omega) (by omega) (by omega) (Nat.le_of_ble_eq_true rfl) (fun v_1 w_1 hP_1 hlen_1 => ?_) (fun _ _ h => h.elim)
  rw [hP_1.1]
  have hn_1 : w_1.length = w.length := hlen_1.trans (rfl)
  have F_1 := hP_1.2.2
  have hz_1 := hP_1.2.1
  have ho_1 : w_1[x]? = some (mO 9 [.ref (x + 1), .ref (x + 7), .ref (x + 13), .int (bI so.isSome), .ref (x + 19), .int (nI ol), .int (nI l.length), .ref (x + 20), .ref (x + 25), .int ea, .int fa, .ref (x + 40)]) := (F_1 x (by omega)).trans ho
  have hq_1 : w_1[x + 1]? = some (mO 7 [.ref (x + 2), .ref (x + 5), .ref (x + 6), .int (nI np), .int tp, .int av, .int lg, .int pl, .int tk]) := (F_1 _ (by omega)).trans hy0
  have hr_1 : w_1[x + 2]? = some (mO 6 [.ref (x + 3), .ref (x + 4), .int sl, .int op, .int lo]) := (F_1 _ (by omega)).trans hy1
  show Wp X 0 0 w_1 [(0, .ref x)] [] 11
  refine r_aload_n hC dX8_save_11 rfl (j := 0) rfl ?_
  refine r_iconst hC dX8_save_12 (v := 1) (by decide) ?_
  refine r_put' hC pX8_save_13 ho_1 (Nat.le_of_ble_eq_true rfl) (fun _ => rfl) (fun _ => rfl) (fun w_2 ew_2 => ?_)
  have hf2_x : w_2[x]? = some (mO 9 [.ref (x + 1), .ref (x + 7), .ref (x + 13), .int 1, .ref (x + 19), .int (nI ol), .int (nI l.length), .ref (x + 20), .ref (x + 25), .int ea, .int fa, .ref (x + 40)]) := by rw [ew_2]; exact List.getElem?_set_self (lt_of_get ho_1)
  have hf2__x___1_ : w_2[(x + 1)]? = some (mO 7 [.ref (x + 2), .ref (x + 5), .ref (x + 6), .int (nI np), .int tp, .int av, .int lg, .int pl, .int tk]) := by rw [ew_2, List.getElem?_set_ne (by omega)]; exact hq_1
  have hf2__x___2_ : w_2[(x + 2)]? = some (mO 6 [.ref (x + 3), .ref (x + 4), .int sl, .int op, .int lo]) := by rw [ew_2, List.getElem?_set_ne (by omega)]; exact hr_1
  refine r_aload_n hC dX8_save_16 rfl (j := 0) rfl ?_
  refine r_get hC gX8_save_17 hf2_x (v := .ref (x + 1)) rfl ?_
  refine r_get hC gX8_save_20 hf2__x___1_ (v := .ref (x + 2)) rfl ?_
  refine r_callV hC (vs := []) vX8_save_23 (sp_cells (d := d + 1) (show HillAt w_2 (x + 2) (x + 3) (x + 4) (f, g, sl, op, lo) from hh.mono (by rw [ew_2, List.getElem?_set_ne (by omega)]; exact F_1 _ (by omega)) (by rw [ew_2, List.getElem?_set_ne (by omega)]; exact F_1 _ (by omega)) (by rw [ew_2, List.getElem?_set_ne (by omega)]; exact F_1 _ (by omega)))) hf2__x___2_ rfl rfl (by omega) (by omega) (by omega) (Nat.le_of_ble_eq_true rfl) (fun v_3 w_3 hP_3 hlen_3 => ?_) (fun _ _ h => h.elim)
  rw [hP_3.1, hP_3.2]
  show Wp X 0 0 w_2 [(0, .ref x)] [.int (hSum f 25)] 26
  refine r_iret hC hE hR dX8_save_26 (by omega) (by omega) (by simp only [ew_2, List.length_set]; exact hn_1) ?_
  have TT := CtAt.put (so := some ((f, g, sl, op, lo), hd, rs, np, tp, av, lg, pl, tk)) ho_1 (hY.mono (fun k _ _ => F_1 k (by omega))) (hB.mono (fun k _ _ => F_1 k (by omega))) hz_1 ((F_1 _ (by omega)).trans hA) (hT.mono (fun k _ _ => F_1 k (by omega))) (hX.mono (fun k _ _ => F_1 k (by omega))) ((F_1 _ (by omega)).trans hL) (fun i hi => (hHs i hi).mono (fun k _ _ => F_1 k (by omega))) hol hll hring (fun z e => Option.some.inj e) rfl ew_2
  exact ⟨rfl, TT.1, fun k hk => (TT.2 k hk).trans (F_1 k (by omega))⟩
set_option maxRecDepth 100000 in
set_option maxHeartbeats 4000000 in
theorem sh_restore0 {d : Nat} {w : mW} {x : Nat} {f g : Nat → Int32} {sl op lo : Int32} {hd rs : Nat → Int32} {np : Nat} {tp av lg pl tk : Int32} {l : List sv} {ea fa : Int32} {so : Option sv} {tx ln : List Nat} (H : CtAt w x ((f, g, sl, op, lo), hd, rs, np, tp, av, lg, pl, tk) l ea fa so tx ln) (hs9 : so = none) : Sp (d + 2) yX8_restore cX8_restore 1 (some .int) [.ref x] w 1 6 (fun v w' => False) (fun E w' => E = "java/lang/IllegalStateException" ∧ w' = w) := by
  refine Sp.of (by decide +kernel) (Nat.le_of_ble_eq_true rfl) (fun X hC hnl hE hR hN => ?_)
  have hC : Cx X RX8 cX8_restore (d + 2) 1 6 := hC
  show Wp X 0 0 w [(0, .ref x)] [] 0
  obtain ⟨ol, hs, yb, ys, hx, q, qn, cn, ps, cs, ho, hY, hB, hS, hA, hT, hX, hL, hHs, hol, hll, hring, hsnap⟩ := id H
  have hy0 : w[x + 1]? = some (mO 7 [.ref (x + 2), .ref (x + 5), .ref (x + 6), .int (nI np), .int tp, .int av, .int lg, .int pl, .int tk]) := hY.1
  have hh : HillAt w (x + 2) (x + 3) (x + 4) (f, g, sl, op, lo) := hY.2.1
  have hy1 : w[x + 2]? = some (mO 6 [.ref (x + 3), .ref (x + 4), .int sl, .int op, .int lo]) := hh.1
  have hy2 : w[x + 3]? = some (mI 0 26 f) := hh.2.1
  have hy3 : w[x + 4]? = some (mI 0 25 g) := hh.2.2
  have hy4 : w[x + 5]? = some (mI 0 4 hd) := hY.2.2.1
  have hy5 : w[x + 6]? = some (mI 0 4 rs) := hY.2.2.2
  have c1 : bI so.isSome = 0 := by rw [hs9]; rfl
  refine r_aload_n hC dX8_restore_0 rfl (j := 0) rfl ?_
  refine r_get hC gX8_restore_1 ho (v := .int (bI so.isSome)) rfl ?_
  refine r_if_ne hC dX8_restore_4 (tgt := 18) (by decide) (fun h => absurd c1 h) (fun _ => ?_)
  refine r_throwW hC hE hN tX8_restore_7 (Nat.le_of_ble_eq_true rfl) (by omega) (by omega) (rfl) ?_
  exact ⟨rfl, rfl⟩
set_option maxRecDepth 100000 in
set_option maxHeartbeats 4000000 in
theorem sh_restore1 {d : Nat} {w : mW} {x : Nat} {f g : Nat → Int32} {sl op lo : Int32} {hd rs : Nat → Int32} {np : Nat} {tp av lg pl tk : Int32} {l : List sv} {ea fa : Int32} {so : Option sv} {tx ln : List Nat} {f2 g2 : Nat → Int32} {sl2 op2 lo2 : Int32} {hd2 rs2 : Nat → Int32} {np2 : Nat} {tp2 av2 lg2 pl2 tk2 : Int32} (H : CtAt w x ((f, g, sl, op, lo), hd, rs, np, tp, av, lg, pl, tk) l ea fa so tx ln) (hs9 : so = some ((f2, g2, sl2, op2, lo2), hd2, rs2, np2, tp2, av2, lg2, pl2, tk2)) (ho2 : op2 = 0 ∨ op2 = 1) : Sp (d + 2) yX8_restore cX8_restore 1 (some .int) [.ref x] w 0 0 (fun v w' => v = some (.int (hSum f2 25)) ∧ CtTo w w' x ((f2, g2, sl2, op2, lo2), hd2, rs2, np2, tp2, av2, lg2, pl2, tk2) ([]) ea fa so tx ln) noX := by
  refine Sp.of (by decide +kernel) (Nat.le_of_ble_eq_true rfl) (fun X hC hnl hE hR hN => ?_)
  have hC : Cx X RX8 cX8_restore (d + 2) 0 0 := hC
  show Wp X 0 0 w [(0, .ref x)] [] 0
  obtain ⟨ol, hs, yb, ys, hx, q, qn, cn, ps, cs, ho, hY, hB, hS, hA, hT, hX, hL, hHs, hol, hll, hring, hsnap⟩ := id H
  have hy0 : w[x + 1]? = some (mO 7 [.ref (x + 2), .ref (x + 5), .ref (x + 6), .int (nI np), .int tp, .int av, .int lg, .int pl, .int tk]) := hY.1
  have hh : HillAt w (x + 2) (x + 3) (x + 4) (f, g, sl, op, lo) := hY.2.1
  have hy1 : w[x + 2]? = some (mO 6 [.ref (x + 3), .ref (x + 4), .int sl, .int op, .int lo]) := hh.1
  have hy2 : w[x + 3]? = some (mI 0 26 f) := hh.2.1
  have hy3 : w[x + 4]? = some (mI 0 25 g) := hh.2.2
  have hy4 : w[x + 5]? = some (mI 0 4 hd) := hY.2.2.1
  have hy5 : w[x + 6]? = some (mI 0 4 rs) := hY.2.2.2
  have c1 : ¬ bI so.isSome = 0 := by rw [hs9]; exact (by decide : ¬ (1 : Int32) = 0)
  have eys : ys = ((f2, g2, sl2, op2, lo2), hd2, rs2, np2, tp2, av2, lg2, pl2, tk2) := hsnap _ hs9
  rw [eys] at hS
  refine r_aload_n hC dX8_restore_0 rfl (j := 0) rfl ?_
  refine r_get hC gX8_restore_1 ho (v := .int (bI so.isSome)) rfl ?_
  refine r_if_ne hC dX8_restore_4 (tgt := 18) (by decide) (fun _ => ?_) (fun h => absurd h c1)
  refine r_aload_n hC dX8_restore_18 rfl (j := 0) rfl ?_
  refine r_get hC gX8_restore_19 ho (v := .ref (x + 1)) rfl ?_
  refine r_aload_n hC dX8_restore_22 rfl (j := 0) rfl ?_
  refine r_get hC gX8_restore_23 ho (v := .ref (x + 13)) rfl ?_
  refine r_callV hC (vs := [.ref (x + 13)]) vX8_restore_26 (sp_copy (d := d) hY hS (by omega) ho2) hy0 rfl rfl (by omega) (by omega) (by omega) (Nat.le_of_ble_eq_true rfl) (fun v_1 w_1 hP_1 hlen_1 => ?_) (fun _ _ h => h.elim)
  rw [hP_1.1]
  have hn_1 : w_1.length = w.length := hlen_1.trans (rfl)
  have F_1 := hP_1.2.2
  have hz_1 := hP_1.2.1
  have ho_1 : w_1[x]? = some (mO 9 [.ref (x + 1), .ref (x + 7), .ref (x + 13), .int (bI so.isSome), .ref (x + 19), .int (nI ol), .int (nI l.length), .ref (x + 20), .ref (x + 25), .int ea, .int fa, .ref (x + 40)]) := (F_1 x (by omega)).trans ho
  have hq_1 : w_1[x + 1]? = some (mO 7 [.ref (x + 2), .ref (x + 5), .ref (x + 6), .int (nI np2), .int tp2, .int av2, .int lg2, .int pl2, .int tk2]) := hz_1.1
  have hr_1 : w_1[x + 2]? = some (mO 6 [.ref (x + 3), .ref (x + 4), .int sl2, .int op2, .int lo2]) := hz_1.2.1.1
  show Wp X 0 0 w_1 [(0, .ref x)] [] 29
  refine r_aload_n hC dX8_restore_29 rfl (j := 0) rfl ?_
  refine r_iconst hC dX8_restore_30 (v := 0) (by decide) ?_
  refine r_put' hC pX8_restore_31 ho_1 (Nat.le_of_ble_eq_true rfl) (fun _ => rfl) (fun _ => rfl) (fun w_2 ew_2 => ?_)
  have hf2_x : w_2[x]? = some (mO 9 [.ref (x + 1), .ref (x + 7), .ref (x + 13), .int (bI so.isSome), .ref (x + 19), .int (nI ol), .int 0, .ref (x + 20), .ref (x + 25), .int ea, .int fa, .ref (x + 40)]) := by rw [ew_2]; exact List.getElem?_set_self (lt_of_get ho_1)
  have hf2__x___1_ : w_2[(x + 1)]? = some (mO 7 [.ref (x + 2), .ref (x + 5), .ref (x + 6), .int (nI np2), .int tp2, .int av2, .int lg2, .int pl2, .int tk2]) := by rw [ew_2, List.getElem?_set_ne (by omega)]; exact hq_1
  have hf2__x___2_ : w_2[(x + 2)]? = some (mO 6 [.ref (x + 3), .ref (x + 4), .int sl2, .int op2, .int lo2]) := by rw [ew_2, List.getElem?_set_ne (by omega)]; exact hr_1
  refine r_aload_n hC dX8_restore_34 rfl (j := 0) rfl ?_
  refine r_get hC gX8_restore_35 hf2_x (v := .ref (x + 1)) rfl ?_
  refine r_get hC gX8_restore_38 hf2__x___1_ (v := .ref (x + 2)) rfl ?_
  refine r_callV hC (vs := []) vX8_restore_41 (sp_cells (d := d + 1) (show HillAt w_2 (x + 2) (x + 3) (x + 4) (f2, g2, sl2, op2, lo2) from hz_1.2.1.mono (by rw [ew_2, List.getElem?_set_ne (by omega)]) (by rw [ew_2, List.getElem?_set_ne (by omega)]) (by rw [ew_2, List.getElem?_set_ne (by omega)]))) hf2__x___2_ rfl rfl (by omega) (by omega) (by omega) (Nat.le_of_ble_eq_true rfl) (fun v_3 w_3 hP_3 hlen_3 => ?_) (fun _ _ h => h.elim)
  rw [hP_3.1, hP_3.2]
  show Wp X 0 0 w_2 [(0, .ref x)] [.int (hSum f2 25)] 44
  refine r_iret hC hE hR dX8_restore_44 (by omega) (by omega) (by simp only [ew_2, List.length_set]; exact hn_1) ?_
  have TT := CtAt.put (l := []) (n := 0) (so := so) ho_1 hz_1 (hB.mono (fun k _ _ => F_1 k (by omega))) (hS.mono (fun k _ _ => F_1 k (by omega))) ((F_1 _ (by omega)).trans hA) (hT.mono (fun k _ _ => F_1 k (by omega))) (hX.mono (fun k _ _ => F_1 k (by omega))) ((F_1 _ (by omega)).trans hL) (fun i hi => (hHs i hi).mono (fun k _ _ => F_1 k (by omega))) hol (by decide) (fun i z e => by simp at e) (fun z e => Option.some.inj (hs9.symm.trans e)) rfl ew_2
  exact ⟨rfl, TT.1, fun k hk => (TT.2 k hk).trans (F_1 k (by omega))⟩
set_option maxRecDepth 100000 in
set_option maxHeartbeats 4000000 in
theorem sh_undo0 {d : Nat} {w : mW} {x : Nat} {f g : Nat → Int32} {sl op lo : Int32} {hd rs : Nat → Int32} {np : Nat} {tp av lg pl tk : Int32} {l : List sv} {ea fa : Int32} {so : Option sv} {tx ln : List Nat} (H : CtAt w x ((f, g, sl, op, lo), hd, rs, np, tp, av, lg, pl, tk) l ea fa so tx ln) (hl9 : l = []) : Sp (d + 2) yX8_undo cX8_undo 1 (some .int) [.ref x] w 1 6 (fun v w' => False) (fun E w' => E = "java/lang/IllegalStateException" ∧ w' = w) := by
  refine Sp.of (by decide +kernel) (Nat.le_of_ble_eq_true rfl) (fun X hC hnl hE hR hN => ?_)
  have hC : Cx X RX8 cX8_undo (d + 2) 1 6 := hC
  show Wp X 0 0 w [(0, .ref x)] [] 0
  obtain ⟨ol, hs, yb, ys, hx, q, qn, cn, ps, cs, ho, hY, hB, hS, hA, hT, hX, hL, hHs, hol, hll, hring, hsnap⟩ := id H
  have hy0 : w[x + 1]? = some (mO 7 [.ref (x + 2), .ref (x + 5), .ref (x + 6), .int (nI np), .int tp, .int av, .int lg, .int pl, .int tk]) := hY.1
  have hh : HillAt w (x + 2) (x + 3) (x + 4) (f, g, sl, op, lo) := hY.2.1
  have hy1 : w[x + 2]? = some (mO 6 [.ref (x + 3), .ref (x + 4), .int sl, .int op, .int lo]) := hh.1
  have hy2 : w[x + 3]? = some (mI 0 26 f) := hh.2.1
  have hy3 : w[x + 4]? = some (mI 0 25 g) := hh.2.2
  have hy4 : w[x + 5]? = some (mI 0 4 hd) := hY.2.2.1
  have hy5 : w[x + 6]? = some (mI 0 4 rs) := hY.2.2.2
  have c1 : nI l.length = 0 := by rw [hl9]; rfl
  refine r_aload_n hC dX8_undo_0 rfl (j := 0) rfl ?_
  refine r_get hC gX8_undo_1 ho (v := .int (nI l.length)) rfl ?_
  refine r_if_ne hC dX8_undo_4 (tgt := 18) (by decide) (fun h => absurd c1 h) (fun _ => ?_)
  refine r_throwW hC hE hN tX8_undo_7 (Nat.le_of_ble_eq_true rfl) (by omega) (by omega) (rfl) ?_
  exact ⟨rfl, rfl⟩
set_option maxRecDepth 100000 in
set_option maxHeartbeats 4000000 in
theorem sh_undo1 {d : Nat} {l2 : List sv} {w : mW} {x : Nat} {f g : Nat → Int32} {sl op lo : Int32} {hd rs : Nat → Int32} {np : Nat} {tp av lg pl tk : Int32} {l : List sv} {ea fa : Int32} {so : Option sv} {tx ln : List Nat} {f2 g2 : Nat → Int32} {sl2 op2 lo2 : Int32} {hd2 rs2 : Nat → Int32} {np2 : Nat} {tp2 av2 lg2 pl2 tk2 : Int32} (H : CtAt w x ((f, g, sl, op, lo), hd, rs, np, tp, av, lg, pl, tk) l ea fa so tx ln) (hl9 : l = l2 ++ [((f2, g2, sl2, op2, lo2), hd2, rs2, np2, tp2, av2, lg2, pl2, tk2)]) (ho2 : op2 = 0 ∨ op2 = 1) : Sp (d + 2) yX8_undo cX8_undo 1 (some .int) [.ref x] w 0 0 (fun v w' => v = some (.int (nI l2.length)) ∧ CtTo w w' x ((f2, g2, sl2, op2, lo2), hd2, rs2, np2, tp2, av2, lg2, pl2, tk2) l2 ea fa so tx ln) noX := by
  refine Sp.of (by decide +kernel) (Nat.le_of_ble_eq_true rfl) (fun X hC hnl hE hR hN => ?_)
  have hC : Cx X RX8 cX8_undo (d + 2) 0 0 := hC
  show Wp X 0 0 w [(0, .ref x)] [] 0
  obtain ⟨ol, hs, yb, ys, hx, q, qn, cn, ps, cs, ho, hY, hB, hS, hA, hT, hX, hL, hHs, hol, hll, hring, hsnap⟩ := id H
  have hy0 : w[x + 1]? = some (mO 7 [.ref (x + 2), .ref (x + 5), .ref (x + 6), .int (nI np), .int tp, .int av, .int lg, .int pl, .int tk]) := hY.1
  have hh : HillAt w (x + 2) (x + 3) (x + 4) (f, g, sl, op, lo) := hY.2.1
  have hy1 : w[x + 2]? = some (mO 6 [.ref (x + 3), .ref (x + 4), .int sl, .int op, .int lo]) := hh.1
  have hy2 : w[x + 3]? = some (mI 0 26 f) := hh.2.1
  have hy3 : w[x + 4]? = some (mI 0 25 g) := hh.2.2
  have hy4 : w[x + 5]? = some (mI 0 4 hd) := hY.2.2.1
  have hy5 : w[x + 6]? = some (mI 0 4 rs) := hY.2.2.2
  have hln : l.length = l2.length + 1 := by rw [hl9, List.length_append]; rfl
  have c1 : ¬ nI l.length = 0 := fun z => by
    have := (nI_eq (b := 0) (by omega) (by decide)).mp z
    omega
  obtain ⟨j, ej⟩ : ∃ j, j = (ol + l2.length) % 8 := ⟨_, rfl⟩
  have hj8 : j < 8 := by omega
  have ehs : hs j = ((f2, g2, sl2, op2, lo2), hd2, rs2, np2, tp2, av2, lg2, pl2, tk2) := by rw [ej]; exact hring _ _ (by rw [hl9]; simp)
  have hsj := hHs j hj8
  rw [ehs] at hsj
  refine r_aload_n hC dX8_undo_0 rfl (j := 0) rfl ?_
  refine r_get hC gX8_undo_1 ho (v := .int (nI l.length)) rfl ?_
  refine r_if_ne hC dX8_undo_4 (tgt := 18) (by decide) (fun _ => ?_) (fun h => absurd h c1)
  refine r_aload_n hC dX8_undo_18 rfl (j := 0) rfl ?_
  refine r_dup hC dX8_undo_19 rfl ?_
  refine r_get hC gX8_undo_20 ho (v := .int (nI l.length)) rfl ?_
  refine r_iconst hC dX8_undo_23 (v := 1) (by decide) ?_
  refine r_isub hC dX8_undo_24 ?_
  rw [show nI l.length - 1 = nI l2.length from by rw [hln]; exact nI_sub (b := 1) (by omega)]
  refine r_put' hC pX8_undo_25 ho (Nat.le_of_ble_eq_true rfl) (fun _ => rfl) (fun _ => rfl) (fun w_1 ew_1 => ?_)
  have hf1_x : w_1[x]? = some (mO 9 [.ref (x + 1), .ref (x + 7), .ref (x + 13), .int (bI so.isSome), .ref (x + 19), .int (nI ol), .int (nI l2.length), .ref (x + 20), .ref (x + 25), .int ea, .int fa, .ref (x + 40)]) := by rw [ew_1]; exact List.getElem?_set_self (lt_of_get ho)
  have hf1__x___1_ : w_1[(x + 1)]? = some (mO 7 [.ref (x + 2), .ref (x + 5), .ref (x + 6), .int (nI np), .int tp, .int av, .int lg, .int pl, .int tk]) := by rw [ew_1, List.getElem?_set_ne (by omega)]; exact hy0
  have hf1__x___2_ : w_1[(x + 2)]? = some (mO 6 [.ref (x + 3), .ref (x + 4), .int sl, .int op, .int lo]) := by rw [ew_1, List.getElem?_set_ne (by omega)]; exact hy1
  have hf1__x___3_ : w_1[(x + 3)]? = some (mI 0 26 f) := by rw [ew_1, List.getElem?_set_ne (by omega)]; exact hy2
  have hf1__x___4_ : w_1[(x + 4)]? = some (mI 0 25 g) := by rw [ew_1, List.getElem?_set_ne (by omega)]; exact hy3
  have hf1__x___5_ : w_1[(x + 5)]? = some (mI 0 4 hd) := by rw [ew_1, List.getElem?_set_ne (by omega)]; exact hy4
  have hf1__x___6_ : w_1[(x + 6)]? = some (mI 0 4 rs) := by rw [ew_1, List.getElem?_set_ne (by omega)]; exact hy5
  have hf1__x___40_ : w_1[(x + 40)]? = some (mT ln) := by rw [ew_1, List.getElem?_set_ne (by omega)]; exact hL
  have hf1__x___20_ : w_1[(x + 20)]? = some (mO 8 [.ref (x + 21), .ref (x + 24), .int (nI qn)]) := by rw [ew_1, List.getElem?_set_ne (by omega)]; exact hT.1
  have hf1__x___25_ : w_1[(x + 25)]? = some (mO 5 [.ref (x + 26), .ref (x + 27), .int cn, .int ps]) := by rw [ew_1, List.getElem?_set_ne (by omega)]; exact hX.1
  have hf1__x___26_ : w_1[(x + 26)]? = some (mT tx) := by rw [ew_1, List.getElem?_set_ne (by omega)]; exact hX.2.1
  have hf1__x___7_ : w_1[(x + 7)]? = some (mO 7 [.ref (x + 8), .ref (x + 11), .ref (x + 12), .int (nI yb.2.2.2.1), .int yb.2.2.2.2.1, .int yb.2.2.2.2.2.1, .int yb.2.2.2.2.2.2.1, .int yb.2.2.2.2.2.2.2.1, .int yb.2.2.2.2.2.2.2.2]) := by rw [ew_1, List.getElem?_set_ne (by omega)]; exact hB.1
  have hf1__x___13_ : w_1[(x + 13)]? = some (mO 7 [.ref (x + 14), .ref (x + 17), .ref (x + 18), .int (nI ys.2.2.2.1), .int ys.2.2.2.2.1, .int ys.2.2.2.2.2.1, .int ys.2.2.2.2.2.2.1, .int ys.2.2.2.2.2.2.2.1, .int ys.2.2.2.2.2.2.2.2]) := by rw [ew_1, List.getElem?_set_ne (by omega)]; exact hS.1
  have hf1__x___19_ : w_1[(x + 19)]? = some (.inl (3, 8, .inr (.inr (.inr (.inr (hsF x 8)))))) := by rw [ew_1, List.getElem?_set_ne (by omega)]; exact hA
  refine r_aload_n hC dX8_undo_28 rfl (j := 0) rfl ?_
  refine r_get hC gX8_undo_29 hf1_x (v := .ref (x + 1)) rfl ?_
  refine r_aload_n hC dX8_undo_32 rfl (j := 0) rfl ?_
  refine r_get hC gX8_undo_33 hf1_x (v := .ref (x + 19)) rfl ?_
  refine r_aload_n hC dX8_undo_36 rfl (j := 0) rfl ?_
  refine r_get hC gX8_undo_37 hf1_x (v := .int (nI ol)) rfl ?_
  refine r_aload_n hC dX8_undo_40 rfl (j := 0) rfl ?_
  refine r_get hC gX8_undo_41 hf1_x (v := .int (nI l2.length)) rfl ?_
  refine r_iadd hC dX8_undo_44 ?_
  rw [nI_add ol l2.length]
  refine r_bipush hC dX8_undo_45 (v := 8) (by decide) ?_
  refine r_irem hC dX8_undo_47 (by decide) ?_
  rw [nI_mod8 (by omega), ← ej]
  refine r_aald hC dX8_undo_48 (j := j) (b := (x + 41 + 6 * j)) hf1__x___19_ (fun _ => rfl) (mIx_nI (by omega) (by decide)) (if_pos hj8) ?_
  refine r_callV hC (vs := [.ref (x + 41 + 6 * j)]) vX8_undo_49 (sp_copy (d := d) (s := x + 1) (t := x + 41 + 6 * j) (w := w_1) (hY.mono (fun k _ _ => by rw [ew_1, List.getElem?_set_ne (by omega)])) (hsj.mono (fun k _ _ => by rw [ew_1, List.getElem?_set_ne (by omega)])) (by omega) ho2) hf1__x___1_ rfl rfl (by omega) (by omega) (by omega) (Nat.le_of_ble_eq_true rfl) (fun v_2 w_2 hP_2 hlen_2 => ?_) (fun _ _ h => h.elim)
  rw [hP_2.1]
  have hn_2 : w_2.length = w.length := hlen_2.trans (by simp only [ew_1, List.length_set])
  have F_2 := hP_2.2.2
  have hz_2 := hP_2.2.1
  have ho_2 : w_2[x]? = some (mO 9 [.ref (x + 1), .ref (x + 7), .ref (x + 13), .int (bI so.isSome), .ref (x + 19), .int (nI ol), .int (nI l2.length), .ref (x + 20), .ref (x + 25), .int ea, .int fa, .ref (x + 40)]) := (F_2 x (by omega)).trans hf1_x
  have G_2 : ∀ k, k ≠ x → (k < x + 1 ∨ x + 6 < k) → w_2[k]? = w[k]? := fun k h1 h2 => (F_2 k (by omega)).trans (by rw [ew_1, List.getElem?_set_ne (by omega)])
  show Wp X 0 0 w_2 [(0, .ref x)] [] 52
  refine r_aload_n hC dX8_undo_52 rfl (j := 0) rfl ?_
  refine r_get hC gX8_undo_53 ho_2 (v := .int (nI l2.length)) rfl ?_
  refine r_iret hC hE hR dX8_undo_56 (by omega) (by omega) (hn_2) ?_
  exact ⟨rfl, ⟨ol, hs, yb, ys, hx, q, qn, cn, ps, cs, ho_2, hz_2, hB.mono (fun k _ _ => G_2 k (by omega) (by omega)), hS.mono (fun k _ _ => G_2 k (by omega) (by omega)), (G_2 _ (by omega) (by omega)).trans hA, hT.mono (fun k _ _ => G_2 k (by omega) (by omega)), hX.mono (fun k _ _ => G_2 k (by omega) (by omega)), (G_2 _ (by omega) (by omega)).trans hL, fun i hi => (hHs i hi).mono (fun k _ _ => G_2 k (by omega) (by omega)), hol, by omega, fun i z e => hring i z (by rw [hl9, List.getElem?_append_left (lt_of_get e)]; exact e), hsnap⟩, fun k hk => G_2 k (by omega) (by omega)⟩
set_option maxRecDepth 100000 in
set_option maxHeartbeats 4000000 in
theorem sh_append {d : Nat} {c : Nat} {w : mW} {x : Nat} {f g : Nat → Int32} {sl op lo : Int32} {hd rs : Nat → Int32} {np : Nat} {tp av lg pl tk : Int32} {l : List sv} {ea fa : Int32} {so : Option sv} {tx ln : List Nat} (H : CtAt w x ((f, g, sl, op, lo), hd, rs, np, tp, av, lg, pl, tk) l ea fa so tx ln) (htl : tx.length ≤ 60) (hc : c < 65536) : Sp (d + 6) yX8_append cX8_append 2 (some .int) [.ref x, .int (nI c)] w 2 150 (fun v w' => (isI (nI c) 32 126 = true ∧ tx.length < 60) ∧ v = some (.int (nI (tx.length + 1))) ∧ CtTo w w' x ((f, g, sl, op, lo), hd, rs, np, tp, av, lg, pl, tk) l ea fa so (tx ++ [c]) ln) (fun E w' => (E = "java/lang/IllegalArgumentException" ∧ w' = w ∧ isI (nI c) 32 126 = false) ∨ (E = "java/lang/IllegalStateException" ∧ w' = w ∧ isI (nI c) 32 126 = true ∧ tx.length = 60)) := by
  refine Sp.of (by decide +kernel) (Nat.le_of_ble_eq_true rfl) (fun X hC hnl hE hR hN => ?_)
  have hC : Cx X RX8 cX8_append (d + 6) 2 150 := hC
  show Wp X 0 0 w [(0, .ref x), (1, .int (nI c))] [] 0
  obtain ⟨ol, hs, yb, ys, hx, q, qn, cn, ps, cs, ho, hY, hB, hS, hA, hT, hX, hL, hHs, hol, hll, hring, hsnap⟩ := id H
  have hy0 : w[x + 1]? = some (mO 7 [.ref (x + 2), .ref (x + 5), .ref (x + 6), .int (nI np), .int tp, .int av, .int lg, .int pl, .int tk]) := hY.1
  have hh : HillAt w (x + 2) (x + 3) (x + 4) (f, g, sl, op, lo) := hY.2.1
  have hy1 : w[x + 2]? = some (mO 6 [.ref (x + 3), .ref (x + 4), .int sl, .int op, .int lo]) := hh.1
  have hy2 : w[x + 3]? = some (mI 0 26 f) := hh.2.1
  have hy3 : w[x + 4]? = some (mI 0 25 g) := hh.2.2
  have hy4 : w[x + 5]? = some (mI 0 4 hd) := hY.2.2.1
  have hy5 : w[x + 6]? = some (mI 0 4 rs) := hY.2.2.2
  refine r_iload_n hC dX8_append_0 rfl (j := 1) rfl ?_
  refine r_bipush hC dX8_append_1 (v := 32) (by decide) ?_
  refine r_icmp_lt hC dX8_append_3 (tgt := 12) (by decide) (fun c3 => ?_) (fun c3 => ?_)
  · refine r_throw hC hE hN tX8_append_12 (Nat.le_of_ble_eq_true rfl) (by omega) (by omega) (rfl) ?_
    exact Or.inl ⟨rfl, rfl, Bool.eq_false_iff.mpr (fun z => (isIT_lt z).1 c3)⟩
  · refine r_iload_n hC dX8_append_6 rfl (j := 1) rfl ?_
    refine r_bipush hC dX8_append_7 (v := 126) (by decide) ?_
    refine r_icmp_le hC dX8_append_9 (tgt := 22) (by decide) (fun c9 => ?_) (fun c9 => ?_)
    · have hI : isI (nI c) 32 126 = true := by
        unfold isI
        simp only [Bool.and_eq_true, Bool.not_eq_true', decide_eq_false_iff_not]
        exact ⟨c3, Int32.not_lt.mpr c9⟩
      have hc2 : c ≤ 126 := (nI_leI (b := 126) (by omega) (by decide)).mp c9
      refine r_aload_n hC dX8_append_22 rfl (j := 0) rfl ?_
      refine r_get hC gX8_append_23 ho (v := .ref (x + 25)) rfl ?_
      refine r_get hC gX8_append_26 hX.1 (v := .ref (x + 26)) rfl ?_
      refine r_callXT hC (vs := []) vX8_append_29.x (st_len (d := d + 4) hX.2.1) hX.2.1 rfl rfl (by omega) (by omega) (by omega) (Nat.le_of_ble_eq_true rfl) (fun v_1 w_1 hP_1 hlen_1 => ?_)
      rw [hP_1.1, hP_1.2]
      show Wp X 0 0 w [(0, .ref x), (1, .int (nI c))] [.int (nI tx.length)] 32
      refine r_bipush hC dX8_append_32 (v := 60) (by decide) ?_
      refine r_icmp_lt hC dX8_append_34 (tgt := 47) (by decide) (fun c34 => ?_) (fun c34 => ?_)
      · have hlt : tx.length < 60 := (nI_ltS (b := 60) (by omega) (by decide)).mp c34
        refine r_aload_n hC dX8_append_47 rfl (j := 0) rfl ?_
        refine r_get hC gX8_append_48 ho (v := .ref (x + 25)) rfl ?_
        refine r_get hC gX8_append_51 hX.1 (v := .ref (x + 26)) rfl ?_
        refine r_iload_n hC dX8_append_54 rfl (j := 1) rfl ?_
        refine r_callXT hC (vs := [.int (nI c)]) vX8_append_55.x (st_app (d := d) hX.2.1 (by omega) (by omega)) hX.2.1 rfl rfl (by omega) (by omega) (by omega) (Nat.le_of_ble_eq_true rfl) (fun v_2 w_2 hP_2 hlen_2 => ?_)
        rw [hP_2.1]
        have ew_2 := hP_2.2
        have hf2_x : w_2[x]? = some (mO 9 [.ref (x + 1), .ref (x + 7), .ref (x + 13), .int (bI so.isSome), .ref (x + 19), .int (nI ol), .int (nI l.length), .ref (x + 20), .ref (x + 25), .int ea, .int fa, .ref (x + 40)]) := by rw [ew_2, List.getElem?_set_ne (by omega)]; exact ho
        have hf2__x___1_ : w_2[(x + 1)]? = some (mO 7 [.ref (x + 2), .ref (x + 5), .ref (x + 6), .int (nI np), .int tp, .int av, .int lg, .int pl, .int tk]) := by rw [ew_2, List.getElem?_set_ne (by omega)]; exact hy0
        have hf2__x___2_ : w_2[(x + 2)]? = some (mO 6 [.ref (x + 3), .ref (x + 4), .int sl, .int op, .int lo]) := by rw [ew_2, List.getElem?_set_ne (by omega)]; exact hy1
        have hf2__x___3_ : w_2[(x + 3)]? = some (mI 0 26 f) := by rw [ew_2, List.getElem?_set_ne (by omega)]; exact hy2
        have hf2__x___4_ : w_2[(x + 4)]? = some (mI 0 25 g) := by rw [ew_2, List.getElem?_set_ne (by omega)]; exact hy3
        have hf2__x___5_ : w_2[(x + 5)]? = some (mI 0 4 hd) := by rw [ew_2, List.getElem?_set_ne (by omega)]; exact hy4
        have hf2__x___6_ : w_2[(x + 6)]? = some (mI 0 4 rs) := by rw [ew_2, List.getElem?_set_ne (by omega)]; exact hy5
        have hf2__x___40_ : w_2[(x + 40)]? = some (mT ln) := by rw [ew_2, List.getElem?_set_ne (by omega)]; exact hL
        have hf2__x___20_ : w_2[(x + 20)]? = some (mO 8 [.ref (x + 21), .ref (x + 24), .int (nI qn)]) := by rw [ew_2, List.getElem?_set_ne (by omega)]; exact hT.1
        have hf2__x___25_ : w_2[(x + 25)]? = some (mO 5 [.ref (x + 26), .ref (x + 27), .int cn, .int ps]) := by rw [ew_2, List.getElem?_set_ne (by omega)]; exact hX.1
        have hf2__x___26_ : w_2[(x + 26)]? = some (mT (tx ++ [c])) := by rw [ew_2]; exact List.getElem?_set_self (lt_of_get hX.2.1)
        have hf2__x___7_ : w_2[(x + 7)]? = some (mO 7 [.ref (x + 8), .ref (x + 11), .ref (x + 12), .int (nI yb.2.2.2.1), .int yb.2.2.2.2.1, .int yb.2.2.2.2.2.1, .int yb.2.2.2.2.2.2.1, .int yb.2.2.2.2.2.2.2.1, .int yb.2.2.2.2.2.2.2.2]) := by rw [ew_2, List.getElem?_set_ne (by omega)]; exact hB.1
        have hf2__x___13_ : w_2[(x + 13)]? = some (mO 7 [.ref (x + 14), .ref (x + 17), .ref (x + 18), .int (nI ys.2.2.2.1), .int ys.2.2.2.2.1, .int ys.2.2.2.2.2.1, .int ys.2.2.2.2.2.2.1, .int ys.2.2.2.2.2.2.2.1, .int ys.2.2.2.2.2.2.2.2]) := by rw [ew_2, List.getElem?_set_ne (by omega)]; exact hS.1
        show Wp X (0 + 1) (0 + 144) w_2 [(0, .ref x), (1, .int (nI c))] [.ref (x + 26)] 58
        refine r_pop hC dX8_append_58 rfl ?_
        refine r_aload_n hC dX8_append_59 rfl (j := 0) rfl ?_
        refine r_get hC gX8_append_60 hf2_x (v := .ref (x + 25)) rfl ?_
        refine r_get hC gX8_append_63 hf2__x___25_ (v := .ref (x + 26)) rfl ?_
        refine r_callXT hC (vs := []) vX8_append_66.x (st_len (d := d + 4) hf2__x___26_) hf2__x___26_ rfl rfl (by omega) (by omega) (by omega) (Nat.le_of_ble_eq_true rfl) (fun v_3 w_3 hP_3 hlen_3 => ?_)
        rw [hP_3.1, hP_3.2]
        show Wp X (0 + 1) (0 + 144) w_2 [(0, .ref x), (1, .int (nI c))] [.int (nI (tx ++ [c]).length)] 69
        rw [show (tx ++ [c]).length = tx.length + 1 from by rw [List.length_append]; rfl]
        refine r_iret hC hE hR dX8_append_69 (by omega) (by omega) (by simp only [ew_2, List.length_set]) ?_
        have F : ∀ k, k ≠ x + 26 → w_2[k]? = w[k]? := fun k hk => by rw [ew_2]; exact List.getElem?_set_ne (Ne.symm hk)
        exact ⟨⟨hI, hlt⟩, rfl, ⟨ol, hs, yb, ys, hx, q, qn, cn, ps, cs, (F _ (by omega)).trans ho, hY.mono (fun k _ _ => F k (by omega)), hB.mono (fun k _ _ => F k (by omega)), hS.mono (fun k _ _ => F k (by omega)), (F _ (by omega)).trans hA, hT.mono (fun k _ _ => F k (by omega)), ⟨(F _ (by omega)).trans hX.1, (by rw [ew_2]; exact List.getElem?_set_self (lt_of_get hX.2.1)), (F _ (by omega)).trans hX.2.2.1, fun i hi => (F _ (by omega)).trans (hX.2.2.2 i hi)⟩, (F _ (by omega)).trans hL, fun i hi => (hHs i hi).mono (fun k _ _ => F k (by omega)), hol, hll, hring, hsnap⟩, fun k hk => F k (by omega)⟩
      · refine r_throw hC hE hN tX8_append_37 (Nat.le_of_ble_eq_true rfl) (by omega) (by omega) (rfl) ?_
        exact Or.inr ⟨rfl, rfl, hI, (by
          rcases Nat.lt_or_ge tx.length 60 with z | z
          · exact absurd ((nI_ltS (b := 60) (by omega) (by decide)).mpr z) c34
          · omega)⟩
    · refine r_throw hC hE hN tX8_append_12 (Nat.le_of_ble_eq_true rfl) (by omega) (by omega) (rfl) ?_
      exact Or.inl ⟨rfl, rfl, Bool.eq_false_iff.mpr (fun z => (isIT_lt z).2 (Int32.not_le.mp c9))⟩
end HC4
