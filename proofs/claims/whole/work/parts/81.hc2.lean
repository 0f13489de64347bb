section HC2
theorem isI_len {z : Int32} {n : Nat} (hn : n < 2 ^ 30) : isI z 0 (nI n - 1) = true ↔ ¬ z < 0 ∧ z < nI n := by
  constructor
  · intro h
    obtain ⟨h1, h2⟩ := isI_n (by omega) h
    exact ⟨(isIT_lt h).1, by rw [h2]; exact Int32.not_le.mp (fun q => absurd ((nI_leI (by omega) (by omega)).mp q) (by omega))⟩
  · intro ⟨h0, h1⟩
    obtain ⟨j, hj, rfl⟩ := nI_of h0
    have hjn : j < n := by
      rcases Nat.lt_or_ge j n with q | q
      · exact q
      · exact absurd ((nI_leI (by omega) (by omega)).mpr q) (Int32.not_le.mpr h1)
    unfold isI
    rw [show nI n - 1 = nI (n - 1) from nI_sub (b := 1) (by omega)]
    simp only [Bool.and_eq_true, Bool.not_eq_true', decide_eq_false_iff_not]
    exact ⟨h0, Int32.not_lt.mpr ((nI_leI (by omega) (by omega)).mpr (by omega))⟩
theorem nar_chr : ∀ c, c < 128 → narrow .char (.int (nI c)) = .int (nI c) := by decide +kernel
set_option maxRecDepth 100000 in
set_option maxHeartbeats 4000000 in
theorem sh_owner {d : Nat} {c : Int32} {w : mW} {x : Nat} {f g : Nat → Int32} {sl op lo : Int32} {hd rs : Nat → Int32} {np : Nat} {tp av lg pl tk : Int32} {l : List sv} {ea fa : Int32} {so : Option sv} {tx ln : List Nat} (H : CtAt w x ((f, g, sl, op, lo), hd, rs, np, tp, av, lg, pl, tk) l ea fa so tx ln) : Sp (d + 2) yX8_owner cX8_owner 2 (some .int) [.ref x, .int c] w 2 12 (fun v w' => (isC c = true ∧ ¬ g c.toNatClampNeg = -1) ∧ v = some (.int (g c.toNatClampNeg)) ∧ w' = w) (fun E w' => (E = "java/lang/IndexOutOfBoundsException" ∧ w' = w ∧ isC c = false) ∨ (E = "java/util/NoSuchElementException" ∧ w' = w ∧ isC c = true ∧ g c.toNatClampNeg = -1)) := by
  refine Sp.of (by decide +kernel) (Nat.le_of_ble_eq_true rfl) (fun X hC hnl hE hR hN => ?_)
  have hC : Cx X RX8 cX8_owner (d + 2) 2 12 := hC
  show Wp X 0 0 w [(0, .ref x), (1, .int c)] [] 0
  obtain ⟨ol, hs, yb, ys, hx, q, qn, cn, ps, cs, ho, hY, hB, hS, hA, hT, hX, hL, hHs, hol, hll, hring, hsnap⟩ := H
  have hy0 : w[x + 1]? = some (mO 7 [.ref (x + 2), .ref (x + 5), .ref (x + 6), .int (nI np), .int tp, .int av, .int lg, .int pl, .int tk]) := hY.1
  have hh : HillAt w (x + 2) (x + 3) (x + 4) (f, g, sl, op, lo) := hY.2.1
  have hy1 : w[x + 2]? = some (mO 6 [.ref (x + 3), .ref (x + 4), .int sl, .int op, .int lo]) := hh.1
  have hy2 : w[x + 3]? = some (mI 0 26 f) := hh.2.1
  have hy3 : w[x + 4]? = some (mI 0 25 g) := hh.2.2
  have hy4 : w[x + 5]? = some (mI 0 4 hd) := hY.2.2.1
  have hy5 : w[x + 6]? = some (mI 0 4 rs) := hY.2.2.2
  refine r_iload_n hC dX8_owner_0 rfl (j := 1) rfl ?_
  refine r_callS hC (vs := [.int c]) vX8_owner_1 (sh_rc (d := d) (c := c)) rfl (by omega) (by omega) (by omega) (Nat.le_of_ble_eq_true rfl) (fun v_1 w_1 hP_1 hlen_1 => ?_) (fun E_1 w9_1 hX_1 hl9_1 => r_out hC hE hN (by omega) (by omega) (hl9_1.trans (rfl)) (Or.inl hX_1))
  rw [hP_1.1, hP_1.2.1]
  have hc := hP_1.2.2
  show Wp X (0 + 1) (0 + 6) w [(0, .ref x), (1, .int c)] [] 4
  refine r_aload_n hC dX8_owner_4 rfl (j := 0) rfl ?_
  refine r_get hC gX8_owner_5 ho (v := .ref (x + 1)) rfl ?_
  refine r_get hC gX8_owner_8 hy0 (v := .ref (x + 2)) rfl ?_
  refine r_get hC gX8_owner_11 hy1 (v := .ref (x + 4)) rfl ?_
  refine r_iload_n hC dX8_owner_14 rfl (j := 1) rfl ?_
  refine r_iald hC dX8_owner_15 (j := c.toNatClampNeg) hy3 (isC_ix hc (by decide) (by decide)) ?_
  refine r_iconst hC dX8_owner_16 (v := (-1)) (by decide) ?_
  refine r_icmp_ne hC dX8_owner_17 (tgt := 30) (by decide) (fun c17 => ?_) (fun c17 => ?_)
  · refine r_aload_n hC dX8_owner_30 rfl (j := 0) rfl ?_
    refine r_get hC gX8_owner_31 ho (v := .ref (x + 1)) rfl ?_
    refine r_get hC gX8_owner_34 hy0 (v := .ref (x + 2)) rfl ?_
    refine r_get hC gX8_owner_37 hy1 (v := .ref (x + 4)) rfl ?_
    refine r_iload_n hC dX8_owner_40 rfl (j := 1) rfl ?_
    refine r_iald hC dX8_owner_41 (j := c.toNatClampNeg) hy3 (isC_ix hc (by decide) (by decide)) ?_
    refine r_iret hC hE hR dX8_owner_42 (by omega) (by omega) (rfl) ?_
    exact ⟨⟨hc, c17⟩, rfl, rfl⟩
  · refine r_throwN hC hE hN tX8_owner_20 (Nat.le_of_ble_eq_true rfl) (by omega) (by omega) (rfl) ?_
    exact Or.inr ⟨rfl, rfl, hc, c17⟩
set_option maxRecDepth 100000 in
set_option maxHeartbeats 4000000 in
theorem sh_errorPosition {d : Nat} {w : mW} {x : Nat} {f g : Nat → Int32} {sl op lo : Int32} {hd rs : Nat → Int32} {np : Nat} {tp av lg pl tk : Int32} {l : List sv} {ea fa : Int32} {so : Option sv} {tx ln : List Nat} (H : CtAt w x ((f, g, sl, op, lo), hd, rs, np, tp, av, lg, pl, tk) l ea fa so tx ln) : Sp d yX8_errorPosition cX8_errorPosition 1 (some .int) [.ref x] w 1 6 (fun v w' => ¬ ea = -1 ∧ v = some (.int ea) ∧ w' = w) (fun E w' => E = "java/util/NoSuchElementException" ∧ w' = w ∧ ea = -1) := by
  refine Sp.of (by decide +kernel) (Nat.le_of_ble_eq_true rfl) (fun X hC hnl hE hR hN => ?_)
  have hC : Cx X RX8 cX8_errorPosition d 1 6 := hC
  show Wp X 0 0 w [(0, .ref x)] [] 0
  obtain ⟨ol, hs, yb, ys, hx, q, qn, cn, ps, cs, ho, hY, hB, hS, hA, hT, hX, hL, hHs, hol, hll, hring, hsnap⟩ := H
  have hy0 : w[x + 1]? = some (mO 7 [.ref (x + 2), .ref (x + 5), .ref (x + 6), .int (nI np), .int tp, .int av, .int lg, .int pl, .int tk]) := hY.1
  have hh : HillAt w (x + 2) (x + 3) (x + 4) (f, g, sl, op, lo) := hY.2.1
  have hy1 : w[x + 2]? = some (mO 6 [.ref (x + 3), .ref (x + 4), .int sl, .int op, .int lo]) := hh.1
  have hy2 : w[x + 3]? = some (mI 0 26 f) := hh.2.1
  have hy3 : w[x + 4]? = some (mI 0 25 g) := hh.2.2
  have hy4 : w[x + 5]? = some (mI 0 4 hd) := hY.2.2.1
  have hy5 : w[x + 6]? = some (mI 0 4 rs) := hY.2.2.2
  refine r_aload_n hC dX8_errorPosition_0 rfl (j := 0) rfl ?_
  refine r_get hC gX8_errorPosition_1 ho (v := .int ea) rfl ?_
  refine r_iconst hC dX8_errorPosition_4 (v := (-1)) (by decide) ?_
  refine r_icmp_ne hC dX8_errorPosition_5 (tgt := 19) (by decide) (fun c5 => ?_) (fun c5 => ?_)
  · refine r_aload_n hC dX8_errorPosition_19 rfl (j := 0) rfl ?_
    refine r_get hC gX8_errorPosition_20 ho (v := .int ea) rfl ?_
    refine r_iret hC hE hR dX8_errorPosition_23 (by omega) (by omega) (rfl) ?_
    exact ⟨c5, rfl, rfl⟩
  · refine r_throwN hC hE hN tX8_errorPosition_8 (Nat.le_of_ble_eq_true rfl) (by omega) (by omega) (rfl) ?_
    exact ⟨rfl, rfl, c5⟩
set_option maxRecDepth 100000 in
set_option maxHeartbeats 4000000 in
theorem sh_failedCommand {d : Nat} {w : mW} {x : Nat} {f g : Nat → Int32} {sl op lo : Int32} {hd rs : Nat → Int32} {np : Nat} {tp av lg pl tk : Int32} {l : List sv} {ea fa : Int32} {so : Option sv} {tx ln : List Nat} (H : CtAt w x ((f, g, sl, op, lo), hd, rs, np, tp, av, lg, pl, tk) l ea fa so tx ln) : Sp d yX8_failedCommand cX8_failedCommand 1 (some .int) [.ref x] w 1 6 (fun v w' => ¬ fa = -1 ∧ v = some (.int fa) ∧ w' = w) (fun E w' => E = "java/util/NoSuchElementException" ∧ w' = w ∧ fa = -1) := by
  refine Sp.of (by decide +kernel) (Nat.le_of_ble_eq_true rfl) (fun X hC hnl hE hR hN => ?_)
  have hC : Cx X RX8 cX8_failedCommand d 1 6 := hC
  show Wp X 0 0 w [(0, .ref x)] [] 0
  obtain ⟨ol, hs, yb, ys, hx, q, qn, cn, ps, cs, ho, hY, hB, hS, hA, hT, hX, hL, hHs, hol, hll, hring, hsnap⟩ := H
  have hy0 : w[x + 1]? = some (mO 7 [.ref (x + 2), .ref (x + 5), .ref (x + 6), .int (nI np), .int tp, .int av, .int lg, .int pl, .int tk]) := hY.1
  have hh : HillAt w (x + 2) (x + 3) (x + 4) (f, g, sl, op, lo) := hY.2.1
  have hy1 : w[x + 2]? = some (mO 6 [.ref (x + 3), .ref (x + 4), .int sl, .int op, .int lo]) := hh.1
  have hy2 : w[x + 3]? = some (mI 0 26 f) := hh.2.1
  have hy3 : w[x + 4]? = some (mI 0 25 g) := hh.2.2
  have hy4 : w[x + 5]? = some (mI 0 4 hd) := hY.2.2.1
  have hy5 : w[x + 6]? = some (mI 0 4 rs) := hY.2.2.2
  refine r_aload_n hC dX8_failedCommand_0 rfl (j := 0) rfl ?_
  refine r_get hC gX8_failedCommand_1 ho (v := .int fa) rfl ?_
  refine r_iconst hC dX8_failedCommand_4 (v := (-1)) (by decide) ?_
  refine r_icmp_ne hC dX8_failedCommand_5 (tgt := 19) (by decide) (fun c5 => ?_) (fun c5 => ?_)
  · refine r_aload_n hC dX8_failedCommand_19 rfl (j := 0) rfl ?_
    refine r_get hC gX8_failedCommand_20 ho (v := .int fa) rfl ?_
    refine r_iret hC hE hR dX8_failedCommand_23 (by omega) (by omega) (rfl) ?_
    exact ⟨c5, rfl, rfl⟩
  · refine r_throwN hC hE hN tX8_failedCommand_8 (Nat.le_of_ble_eq_true rfl) (by omega) (by omega) (rfl) ?_
    exact ⟨rfl, rfl, c5⟩
set_option maxRecDepth 100000 in
set_option maxHeartbeats 4000000 in
theorem sh_crownShare {d : Nat} {p : Int32} {w : mW} {x : Nat} {f g : Nat → Int32} {sl op lo : Int32} {hd rs : Nat → Int32} {np : Nat} {tp av lg pl tk : Int32} {l : List sv} {ea fa : Int32} {so : Option sv} {tx ln : List Nat} (H : CtAt w x ((f, g, sl, op, lo), hd, rs, np, tp, av, lg, pl, tk) l ea fa so tx ln) (hne : ¬ hCnt (hPeak f) 25 = 0 → vf_n32 (FP.fdiv (FP.i2f (hCnt (hOwnP f g p) 25)) (FP.i2f (hCnt (hPeak f) 25)))) : Sp (d + 2) yX8_crownShare cX8_crownShare 3 (some .float) [.ref x, .int p] w 2 12 (fun v w' => (isP p np = true ∧ ¬ hCnt (hPeak f) 25 = 0) ∧ v = some (.float (FP.fdiv (FP.i2f (hCnt (hOwnP f g p) 25)) (FP.i2f (hCnt (hPeak f) 25)))) ∧ w' = w) (fun E w' => (E = "java/lang/IndexOutOfBoundsException" ∧ w' = w ∧ isP p np = false) ∨ (E = "java/lang/ArithmeticException" ∧ w' = w ∧ isP p np = true ∧ hCnt (hPeak f) 25 = 0)) := by
  refine Sp.of (by decide +kernel) (Nat.le_of_ble_eq_true rfl) (fun X hC hnl hE hR hN => ?_)
  have hC : Cx X RX8 cX8_crownShare (d + 2) 2 12 := hC
  show Wp X 0 0 w [(0, .ref x), (1, .int p)] [] 0
  have H9 := H
  obtain ⟨ol, hs, yb, ys, hx, q, qn, cn, ps, cs, ho, hY, hB, hS, hA, hT, hX, hL, hHs, hol, hll, hring, hsnap⟩ := H
  have hy0 : w[x + 1]? = some (mO 7 [.ref (x + 2), .ref (x + 5), .ref (x + 6), .int (nI np), .int tp, .int av, .int lg, .int pl, .int tk]) := hY.1
  have hh : HillAt w (x + 2) (x + 3) (x + 4) (f, g, sl, op, lo) := hY.2.1
  have hy1 : w[x + 2]? = some (mO 6 [.ref (x + 3), .ref (x + 4), .int sl, .int op, .int lo]) := hh.1
  have hy2 : w[x + 3]? = some (mI 0 26 f) := hh.2.1
  have hy3 : w[x + 4]? = some (mI 0 25 g) := hh.2.2
  have hy4 : w[x + 5]? = some (mI 0 4 hd) := hY.2.2.1
  have hy5 : w[x + 6]? = some (mI 0 4 rs) := hY.2.2.2
  refine r_aload_n hC dX8_crownShare_0 rfl (j := 0) rfl ?_
  refine r_iload_n hC dX8_crownShare_1 rfl (j := 1) rfl ?_
  refine r_callV hC (vs := [.int p]) vX8_crownShare_2 (sh_rp (d := d) (p := p) H9) ho rfl rfl (by omega) (by omega) (by omega) (Nat.le_of_ble_eq_true rfl) (fun v_1 w_1 hP_1 hlen_1 => ?_) (fun E_1 w9_1 hX_1 hl9_1 => r_out hC hE hN (by omega) (by omega) (hl9_1.trans (rfl)) (Or.inl hX_1))
  rw [hP_1.1, hP_1.2.1]
  have hp := hP_1.2.2
  show Wp X (0 + 1) (0 + 6) w [(0, .ref x), (1, .int p)] [] 5
  refine r_aload_n hC dX8_crownShare_5 rfl (j := 0) rfl ?_
  refine r_get hC gX8_crownShare_6 ho (v := .ref (x + 1)) rfl ?_
  refine r_get hC gX8_crownShare_9 hy0 (v := .ref (x + 2)) rfl ?_
  refine r_callV hC (vs := []) vX8_crownShare_12 (sp_peaks (d := d) hh) hy1 rfl rfl (by omega) (by omega) (by omega) (Nat.le_of_ble_eq_true rfl) (fun v_2 w_2 hP_2 hlen_2 => ?_) (fun _ _ h => h.elim)
  rw [hP_2.1, hP_2.2]
  show Wp X (0 + 1) (0 + 6) w [(0, .ref x), (1, .int p)] [.int (hCnt (hPeak f) 25)] 15
  refine r_istore_n hC dX8_crownShare_15 rfl (by rw [hnl]; decide) (L' := [(2, .int (hCnt (hPeak f) 25)), (0, .ref x), (1, .int p)]) rfl ?_
  refine r_iload_n hC dX8_crownShare_16 rfl (j := 0) rfl ?_
  refine r_if_ne hC dX8_crownShare_17 (tgt := 30) (by decide) (fun c17 => ?_) (fun c17 => ?_)
  · refine r_aload_n hC dX8_crownShare_30 rfl (j := 1) rfl ?_
    refine r_get hC gX8_crownShare_31 ho (v := .ref (x + 1)) rfl ?_
    refine r_get hC gX8_crownShare_34 hy0 (v := .ref (x + 2)) rfl ?_
    refine r_iload_n hC dX8_crownShare_37 rfl (j := 2) rfl ?_
    refine r_callV hC (vs := [.int p]) vX8_crownShare_38 (sp_peaksOf (d := d) (t := p) hh) hy1 rfl rfl (by omega) (by omega) (by omega) (Nat.le_of_ble_eq_true rfl) (fun v_3 w_3 hP_3 hlen_3 => ?_) (fun _ _ h => h.elim)
    rw [hP_3.1, hP_3.2]
    show Wp X (0 + 1) (0 + 6) w [(2, .int (hCnt (hPeak f) 25)), (0, .ref x), (1, .int p)] [.int (hCnt (hOwnP f g p) 25)] 41
    refine r_i2f hC dX8_crownShare_41 ?_
    refine r_iload_n hC dX8_crownShare_42 rfl (j := 0) rfl ?_
    refine r_i2f hC dX8_crownShare_43 ?_
    refine r_fdiv hC dX8_crownShare_44 (hne c17) ?_
    refine r_fret hC hE hR dX8_crownShare_45 (by omega) (by omega) (rfl) ?_
    exact ⟨⟨hp, c17⟩, rfl, rfl⟩
  · refine r_throw hC hE hN tX8_crownShare_20 (Nat.le_of_ble_eq_true rfl) (by omega) (by omega) (rfl) ?_
    exact Or.inr ⟨rfl, rfl, hp, c17⟩
set_option maxRecDepth 100000 in
set_option maxHeartbeats 4000000 in
theorem sh_meanAvalanche {d : Nat} {w : mW} {x : Nat} {f g : Nat → Int32} {sl op lo : Int32} {hd rs : Nat → Int32} {np : Nat} {tp av lg pl tk : Int32} {l : List sv} {ea fa : Int32} {so : Option sv} {tx ln : List Nat} (H : CtAt w x ((f, g, sl, op, lo), hd, rs, np, tp, av, lg, pl, tk) l ea fa so tx ln) (hne : ¬ av = 0 → vf_n64 (FP.ddiv (FP.i2d tp) (FP.i2d av))) : Sp d yX8_meanAvalanche cX8_meanAvalanche 1 (some .double) [.ref x] w 1 6 (fun v w' => ¬ av = 0 ∧ v = some (.double (FP.ddiv (FP.i2d tp) (FP.i2d av))) ∧ w' = w) (fun E w' => E = "java/lang/ArithmeticException" ∧ w' = w ∧ av = 0) := by
  refine Sp.of (by decide +kernel) (Nat.le_of_ble_eq_true rfl) (fun X hC hnl hE hR hN => ?_)
  have hC : Cx X RX8 cX8_meanAvalanche d 1 6 := hC
  show Wp X 0 0 w [(0, .ref x)] [] 0
  obtain ⟨ol, hs, yb, ys, hx, q, qn, cn, ps, cs, ho, hY, hB, hS, hA, hT, hX, hL, hHs, hol, hll, hring, hsnap⟩ := H
  have hy0 : w[x + 1]? = some (mO 7 [.ref (x + 2), .ref (x + 5), .ref (x + 6), .int (nI np), .int tp, .int av, .int lg, .int pl, .int tk]) := hY.1
  have hh : HillAt w (x + 2) (x + 3) (x + 4) (f, g, sl, op, lo) := hY.2.1
  have hy1 : w[x + 2]? = some (mO 6 [.ref (x + 3), .ref (x + 4), .int sl, .int op, .int lo]) := hh.1
  have hy2 : w[x + 3]? = some (mI 0 26 f) := hh.2.1
  have hy3 : w[x + 4]? = some (mI 0 25 g) := hh.2.2
  have hy4 : w[x + 5]? = some (mI 0 4 hd) := hY.2.2.1
  have hy5 : w[x + 6]? = some (mI 0 4 rs) := hY.2.2.2
  refine r_aload_n hC dX8_meanAvalanche_0 rfl (j := 0) rfl ?_
  refine r_get hC gX8_meanAvalanche_1 ho (v := .ref (x + 1)) rfl ?_
  refine r_get hC gX8_meanAvalanche_4 hy0 (v := .int av) rfl ?_
  refine r_if_ne hC dX8_meanAvalanche_7 (tgt := 21) (by decide) (fun c7 => ?_) (fun c7 => ?_)
  · refine r_aload_n hC dX8_meanAvalanche_21 rfl (j := 0) rfl ?_
    refine r_get hC gX8_meanAvalanche_22 ho (v := .ref (x + 1)) rfl ?_
    refine r_get hC gX8_meanAvalanche_25 hy0 (v := .int tp) rfl ?_
    refine r_i2d hC dX8_meanAvalanche_28 ?_
    refine r_aload_n hC dX8_meanAvalanche_29 rfl (j := 0) rfl ?_
    refine r_get hC gX8_meanAvalanche_30 ho (v := .ref (x + 1)) rfl ?_
    refine r_get hC gX8_meanAvalanche_33 hy0 (v := .int av) rfl ?_
    refine r_i2d hC dX8_meanAvalanche_36 ?_
    refine r_ddiv hC dX8_meanAvalanche_37 (hne c7) ?_
    refine r_dret hC hE hR dX8_meanAvalanche_38 (by omega) (by omega) (rfl) ?_
    exact ⟨c7, rfl, rfl⟩
  · refine r_throwW hC hE hN tX8_meanAvalanche_10 (Nat.le_of_ble_eq_true rfl) (by omega) (by omega) (rfl) ?_
    exact ⟨rfl, rfl, c7⟩
set_option maxRecDepth 100000 in
set_option maxHeartbeats 4000000 in
theorem sh_lineAt {d : Nat} {i : Int32} {w : mW} {x : Nat} {f g : Nat → Int32} {sl op lo : Int32} {hd rs : Nat → Int32} {np : Nat} {tp av lg pl tk : Int32} {l : List sv} {ea fa : Int32} {so : Option sv} {tx ln : List Nat} (H : CtAt w x ((f, g, sl, op, lo), hd, rs, np, tp, av, lg, pl, tk) l ea fa so tx ln) (hln : ln.length ≤ 40) (hch : ∀ j, j < ln.length → ln.getD j 0 < 128) : Sp (d + 4) yX8_lineAt cX8_lineAt 2 (some .char) [.ref x, .int i] w 1 6 (fun v w' => isI i 0 (nI ln.length - 1) = true ∧ v = some (.int (nI (ln.getD i.toNatClampNeg 0))) ∧ w' = w) (fun E w' => E = "java/lang/IndexOutOfBoundsException" ∧ w' = w ∧ isI i 0 (nI ln.length - 1) = false) := by
  refine Sp.of (by decide +kernel) (Nat.le_of_ble_eq_true rfl) (fun X hC hnl hE hR hN => ?_)
  have hC : Cx X RX8 cX8_lineAt (d + 4) 1 6 := hC
  show Wp X 0 0 w [(0, .ref x), (1, .int i)] [] 0
  obtain ⟨ol, hs, yb, ys, hx, q, qn, cn, ps, cs, ho, hY, hB, hS, hA, hT, hX, hL, hHs, hol, hll, hring, hsnap⟩ := H
  have hy0 : w[x + 1]? = some (mO 7 [.ref (x + 2), .ref (x + 5), .ref (x + 6), .int (nI np), .int tp, .int av, .int lg, .int pl, .int tk]) := hY.1
  have hh : HillAt w (x + 2) (x + 3) (x + 4) (f, g, sl, op, lo) := hY.2.1
  have hy1 : w[x + 2]? = some (mO 6 [.ref (x + 3), .ref (x + 4), .int sl, .int op, .int lo]) := hh.1
  have hy2 : w[x + 3]? = some (mI 0 26 f) := hh.2.1
  have hy3 : w[x + 4]? = some (mI 0 25 g) := hh.2.2
  have hy4 : w[x + 5]? = some (mI 0 4 hd) := hY.2.2.1
  have hy5 : w[x + 6]? = some (mI 0 4 rs) := hY.2.2.2
  refine r_iload_n hC dX8_lineAt_0 rfl (j := 1) rfl ?_
  refine r_if_lt hC dX8_lineAt_1 (tgt := 15) (by decide) (fun c1 => ?_) (fun c1 => ?_)
  · refine r_throwW hC hE hN tX8_lineAt_15 (Nat.le_of_ble_eq_true rfl) (by omega) (by omega) (rfl) ?_
    exact ⟨rfl, rfl, Bool.eq_false_iff.mpr (fun z => ((isI_len (by omega)).mp z).1 c1)⟩
  · refine r_iload_n hC dX8_lineAt_4 rfl (j := 1) rfl ?_
    refine r_aload_n hC dX8_lineAt_5 rfl (j := 0) rfl ?_
    refine r_get hC gX8_lineAt_6 ho (v := .ref (x + 40)) rfl ?_
    refine r_callXT hC (vs := []) vX8_lineAt_9.x (st_len (d := d) hL) hL rfl rfl (by omega) (by omega) (by omega) (Nat.le_of_ble_eq_true rfl) (fun v_1 w_1 hP_1 hlen_1 => ?_)
    rw [hP_1.1, hP_1.2]
    show Wp X 0 0 w [(0, .ref x), (1, .int i)] [.int (nI ln.length), .int i] 12
    refine r_icmp_lt hC dX8_lineAt_12 (tgt := 26) (by decide) (fun c12 => ?_) (fun c12 => ?_)
    · have hI : isI i 0 (nI ln.length - 1) = true := (isI_len (by omega)).mpr ⟨c1, c12⟩
      obtain ⟨hi1, hi2⟩ := isI_n (by omega) hI
      refine r_aload_n hC dX8_lineAt_26 rfl (j := 0) rfl ?_
      refine r_get hC gX8_lineAt_27 ho (v := .ref (x + 40)) rfl ?_
      refine r_iload_n hC dX8_lineAt_30 rfl (j := 1) rfl ?_
      rw [show ([.int i, .ref (x + 40)] : List Value) = [.int (nI i.toNatClampNeg), .ref (x + 40)] from by rw [← hi2]]
      refine r_callXT hC (vs := [.int (nI i.toNatClampNeg)]) vX8_lineAt_31.x (st_chr (d := d) hL hi1) hL rfl rfl (by omega) (by omega) (by omega) (Nat.le_of_ble_eq_true rfl) (fun v_2 w_2 hP_2 hlen_2 => ?_)
      rw [hP_2.1, hP_2.2]
      show Wp X 0 0 w [(0, .ref x), (1, .int i)] [.int (nI (ln.getD i.toNatClampNeg 0))] 34
      refine r_nret hC hE hR dX8_lineAt_34 (nar_chr _ (hch _ hi1)) (by omega) (by omega) (rfl) ?_
      exact ⟨hI, rfl, rfl⟩
    · refine r_throwW hC hE hN tX8_lineAt_15 (Nat.le_of_ble_eq_true rfl) (by omega) (by omega) (rfl) ?_
      exact ⟨rfl, rfl, Bool.eq_false_iff.mpr (fun z => c12 ((isI_len (by omega)).mp z).2)⟩
set_option maxRecDepth 100000 in
set_option maxHeartbeats 4000000 in
theorem sh_peakAt_all {X : mC} {d n0 : Nat} {r : Int32} {w : mW} {x : Nat} {f g : Nat → Int32} {sl op lo : Int32} {hd rs : Nat → Int32} {np : Nat} {tp av lg pl tk : Int32} {l : List sv} {ea fa : Int32} {so : Option sv} {tx ln : List Nat} (H : CtAt w x ((f, g, sl, op, lo), hd, rs, np, tp, av, lg, pl, tk) l ea fa so tx ln)  (hC : Cx X RX8 cX8_peakAt (d + 2) 1 6) (hnl : mNL X = 3) (hE : mEnd X n0 1 6 (fun v w' => ∃ k, k < 25 ∧ hRankP f r k = true ∧ (∀ j, j < k → hRankP f r j = false) ∧ v = some (.int (nI k)) ∧ w' = w) (fun E w' => E = "java/util/NoSuchElementException" ∧ w' = w ∧ ∀ j, j < 25 → hRankP f r j = false)) (hR : mRet X (some .int)) (hN : mNoTab X) (hn0 : w.length = n0) : ∀ (i9 c : Nat), c + i9 = 25 → (∀ j, j < c → hRankP f r j = false) → Wp X 0 0 w [(0, .ref x), (1, .int r), (2, .int (nI c))] [] 2 := by
  have H9 := H
  obtain ⟨ol, hs, yb, ys, hx, q, qn, cn, ps, cs, ho, hY, hB, hS, hA, hT, hX, hL, hHs, hol, hll, hring, hsnap⟩ := H
  have hy0 : w[x + 1]? = some (mO 7 [.ref (x + 2), .ref (x + 5), .ref (x + 6), .int (nI np), .int tp, .int av, .int lg, .int pl, .int tk]) := hY.1
  have hh : HillAt w (x + 2) (x + 3) (x + 4) (f, g, sl, op, lo) := hY.2.1
  have hy1 : w[x + 2]? = some (mO 6 [.ref (x + 3), .ref (x + 4), .int sl, .int op, .int lo]) := hh.1
  have hy2 : w[x + 3]? = some (mI 0 26 f) := hh.2.1
  have hy3 : w[x + 4]? = some (mI 0 25 g) := hh.2.2
  have hy4 : w[x + 5]? = some (mI 0 4 hd) := hY.2.2.1
  have hy5 : w[x + 6]? = some (mI 0 4 rs) := hY.2.2.2
  intro i9
  induction i9 with
  | zero =>
    intro c h9 hb
    obtain rfl : c = 25 := by omega
    refine r_iload_n hC dX8_peakAt_2 rfl (j := 2) rfl ?_
    refine r_bipush hC dX8_peakAt_3 (v := 25) (by decide) ?_
    refine r_icmp_ge hC dX8_peakAt_5 (tgt := 45) (by decide) (fun _ => ?_) (fun h => absurd (by decide) h)
    refine r_throwN hC hE hN tX8_peakAt_45 (Nat.le_of_ble_eq_true rfl) (by omega) (by omega) (hn0) ?_
    exact ⟨rfl, rfl, hb⟩
  | succ i9 ih =>
    intro c h9 hb
    have hc : c < 25 := by omega
    refine r_iload_n hC dX8_peakAt_2 rfl (j := 2) rfl ?_
    refine r_bipush hC dX8_peakAt_3 (v := 25) (by decide) ?_
    refine r_icmp_ge hC dX8_peakAt_5 (tgt := 45) (by decide) (fun h => absurd h (lit_ge (N := 25) rfl hc (by decide))) (fun _ => ?_)
    refine r_aload_n hC dX8_peakAt_8 rfl (j := 0) rfl ?_
    refine r_get hC gX8_peakAt_9 ho (v := .ref (x + 1)) rfl ?_
    refine r_get hC gX8_peakAt_12 hy0 (v := .ref (x + 2)) rfl ?_
    refine r_iload_n hC dX8_peakAt_15 rfl (j := 2) rfl ?_
    refine r_callV hC (vs := [.int (nI c)]) vX8_peakAt_16 (sp_peak (d := d) hh hc) hy1 rfl rfl (by omega) (by omega) (by omega) (Nat.le_of_ble_eq_true rfl) (fun v_1 w_1 hP_1 hlen_1 => ?_) (fun _ _ h => h.elim)
    rw [hP_1.1, hP_1.2]
    show Wp X 0 0 w [(0, .ref x), (1, .int r), (2, .int (nI c))] [.int (bI (hPeak f c))] 19
    refine r_if_eq hC dX8_peakAt_19 (tgt := 39) (by decide) (fun c19 => ?_) (fun c19 => ?_)
    · refine r_iinc hC dX8_peakAt_39 (j := 2) rfl (v := nI (c + 1)) (nI_succ c).symm (by rw [hnl]; decide) (L' := [(2, .int (nI (c + 1))), (0, .ref x), (1, .int r)]) rfl ?_
      refine r_goto hC dX8_peakAt_42 (tgt := 2) (by decide) ?_
      refine r_locals [1, 2, 0] (L' := [(0, .ref x), (1, .int r), (2, .int (nI (c + 1)))]) rfl ?_
      exact ih (c + 1) (by omega) (fun j hj => by
        rcases Nat.lt_or_ge j c with q | q
        · exact hb j q
        · obtain rfl : j = c := by omega
          show (hPeak f j && _) = false
          rw [show hPeak f j = false from by
            cases z : hPeak f j with
            | true => rw [z] at c19; exact absurd c19 (by decide)
            | false => rfl]
          rfl)
    · refine r_aload_n hC dX8_peakAt_22 rfl (j := 0) rfl ?_
      refine r_get hC gX8_peakAt_23 ho (v := .ref (x + 1)) rfl ?_
      refine r_get hC gX8_peakAt_26 hy0 (v := .ref (x + 2)) rfl ?_
      refine r_iload_n hC dX8_peakAt_29 rfl (j := 2) rfl ?_
      refine r_callV hC (vs := [.int (nI c)]) vX8_peakAt_30 (sp_ahead (d := d) hh hc) hy1 rfl rfl (by omega) (by omega) (by omega) (Nat.le_of_ble_eq_true rfl) (fun v_2 w_2 hP_2 hlen_2 => ?_) (fun _ _ h => h.elim)
      rw [hP_2.1, hP_2.2]
      show Wp X 0 0 w [(0, .ref x), (1, .int r), (2, .int (nI c))] [.int (hCnt (hAheadP f c) 25)] 33
      refine r_iload_n hC dX8_peakAt_33 rfl (j := 1) rfl ?_
      refine r_icmp_ne hC dX8_peakAt_34 (tgt := 39) (by decide) (fun c34 => ?_) (fun c34 => ?_)
      · refine r_iinc hC dX8_peakAt_39 (j := 2) rfl (v := nI (c + 1)) (nI_succ c).symm (by rw [hnl]; decide) (L' := [(2, .int (nI (c + 1))), (0, .ref x), (1, .int r)]) rfl ?_
        refine r_goto hC dX8_peakAt_42 (tgt := 2) (by decide) ?_
        refine r_locals [1, 2, 0] (L' := [(0, .ref x), (1, .int r), (2, .int (nI (c + 1)))]) rfl ?_
        exact ih (c + 1) (by omega) (fun j hj => by
          rcases Nat.lt_or_ge j c with q | q
          · exact hb j q
          · obtain rfl : j = c := by omega
            show (_ && decide (hCnt (hAheadP f j) 25 = r)) = false
            rw [decide_eq_false c34]
            exact Bool.and_false _)
      · refine r_iload_n hC dX8_peakAt_37 rfl (j := 2) rfl ?_
        refine r_iret hC hE hR dX8_peakAt_38 (by omega) (by omega) (hn0) ?_
        exact ⟨c, hc, (by
          show (hPeak f c && decide (hCnt (hAheadP f c) 25 = r)) = true
          rw [decide_eq_true c34, bI_ne.mp (show ¬ bI (hPeak f c) = 0 from c19)]; rfl), hb, rfl, rfl⟩
set_option maxRecDepth 100000 in
set_option maxHeartbeats 4000000 in
theorem sh_peakAt {d : Nat} {r : Int32} {w : mW} {x : Nat} {f g : Nat → Int32} {sl op lo : Int32} {hd rs : Nat → Int32} {np : Nat} {tp av lg pl tk : Int32} {l : List sv} {ea fa : Int32} {so : Option sv} {tx ln : List Nat} (H : CtAt w x ((f, g, sl, op, lo), hd, rs, np, tp, av, lg, pl, tk) l ea fa so tx ln)  : Sp (d + 2) yX8_peakAt cX8_peakAt 3 (some .int) [.ref x, .int r] w 1 6 (fun v w' => ∃ k, k < 25 ∧ hRankP f r k = true ∧ (∀ j, j < k → hRankP f r j = false) ∧ v = some (.int (nI k)) ∧ w' = w) (fun E w' => E = "java/util/NoSuchElementException" ∧ w' = w ∧ ∀ j, j < 25 → hRankP f r j = false) := by
  refine Sp.of (by decide +kernel) (Nat.le_of_ble_eq_true rfl) (fun X hC hnl hE hR hN => ?_)
  have hC : Cx X RX8 cX8_peakAt (d + 2) 1 6 := hC
  show Wp X 0 0 w [(0, .ref x), (1, .int r)] [] 0
  refine r_iconst hC dX8_peakAt_0 (v := 0) (by decide) ?_
  refine r_istore_n hC dX8_peakAt_1 rfl (by rw [hnl]; decide) (L' := [(2, .int 0), (0, .ref x), (1, .int r)]) rfl ?_
  refine r_locals [1, 2, 0] (L' := [(0, .ref x), (1, .int r), (2, .int 0)]) rfl ?_
  exact sh_peakAt_all (d := d) H  hC hnl hE hR hN rfl 25 0 (Nat.zero_add _) (fun j hj => absurd hj (Nat.not_lt_zero j))
set_option maxRecDepth 100000 in
set_option maxHeartbeats 4000000 in
theorem sh_playerAtRank_all {X : mC} {d n0 : Nat} {r : Int32} {w : mW} {x : Nat} {f g : Nat → Int32} {sl op lo : Int32} {hd rs : Nat → Int32} {np : Nat} {tp av lg pl tk : Int32} {l : List sv} {ea fa : Int32} {so : Option sv} {tx ln : List Nat} (H : CtAt w x ((f, g, sl, op, lo), hd, rs, np, tp, av, lg, pl, tk) l ea fa so tx ln) (hnp : np ≤ 4) (hC : Cx X RX8 cX8_playerAtRank (d + 4) 1 6) (hnl : mNL X = 3) (hE : mEnd X n0 1 6 (fun v w' => ∃ k, k < np ∧ plRankP f g hd np r k = true ∧ (∀ j, j < k → plRankP f g hd np r j = false) ∧ v = some (.int (nI k)) ∧ w' = w) (fun E w' => E = "java/util/NoSuchElementException" ∧ w' = w ∧ ∀ j, j < np → plRankP f g hd np r j = false)) (hR : mRet X (some .int)) (hN : mNoTab X) (hn0 : w.length = n0) : ∀ (i9 c : Nat), c + i9 = np → (∀ j, j < c → plRankP f g hd np r j = false) → Wp X 0 0 w [(0, .ref x), (1, .int r), (2, .int (nI c))] [] 2 := by
  have H9 := H
  obtain ⟨ol, hs, yb, ys, hx, q, qn, cn, ps, cs, ho, hY, hB, hS, hA, hT, hX, hL, hHs, hol, hll, hring, hsnap⟩ := H
  have hy0 : w[x + 1]? = some (mO 7 [.ref (x + 2), .ref (x + 5), .ref (x + 6), .int (nI np), .int tp, .int av, .int lg, .int pl, .int tk]) := hY.1
  have hh : HillAt w (x + 2) (x + 3) (x + 4) (f, g, sl, op, lo) := hY.2.1
  have hy1 : w[x + 2]? = some (mO 6 [.ref (x + 3), .ref (x + 4), .int sl, .int op, .int lo]) := hh.1
  have hy2 : w[x + 3]? = some (mI 0 26 f) := hh.2.1
  have hy3 : w[x + 4]? = some (mI 0 25 g) := hh.2.2
  have hy4 : w[x + 5]? = some (mI 0 4 hd) := hY.2.2.1
  have hy5 : w[x + 6]? = some (mI 0 4 rs) := hY.2.2.2
  intro i9
  induction i9 with
  | zero =>
    intro c h9 hb
    obtain rfl : np = c := by omega
    refine r_iload_n hC dX8_playerAtRank_2 rfl (j := 2) rfl ?_
    refine r_aload_n hC dX8_playerAtRank_3 rfl (j := 0) rfl ?_
    refine r_get hC gX8_playerAtRank_4 ho (v := .ref (x + 1)) rfl ?_
    refine r_get hC gX8_playerAtRank_7 hy0 (v := .int (nI np)) rfl ?_
    refine r_icmp_ge hC dX8_playerAtRank_10 (tgt := 33) (by decide) (fun _ => ?_) (fun h => absurd (Int32.le_refl _) h)
    refine r_throwN hC hE hN tX8_playerAtRank_33 (Nat.le_of_ble_eq_true rfl) (by omega) (by omega) (hn0) ?_
    exact ⟨rfl, rfl, hb⟩
  | succ i9 ih =>
    intro c h9 hb
    have hc : c < np := by omega
    refine r_iload_n hC dX8_playerAtRank_2 rfl (j := 2) rfl ?_
    refine r_aload_n hC dX8_playerAtRank_3 rfl (j := 0) rfl ?_
    refine r_get hC gX8_playerAtRank_4 ho (v := .ref (x + 1)) rfl ?_
    refine r_get hC gX8_playerAtRank_7 hy0 (v := .int (nI np)) rfl ?_
    refine r_icmp_ge hC dX8_playerAtRank_10 (tgt := 33) (by decide) (fun h => absurd h (fun z => absurd ((nI_leI (by omega) (by omega)).mp z) (by omega))) (fun _ => ?_)
    refine r_aload_n hC dX8_playerAtRank_13 rfl (j := 0) rfl ?_
    refine r_get hC gX8_playerAtRank_14 ho (v := .ref (x + 1)) rfl ?_
    refine r_iload_n hC dX8_playerAtRank_17 rfl (j := 2) rfl ?_
    refine r_callV hC (vs := [.int (nI c)]) vX8_playerAtRank_18 (sp_plAhead (d := d) hY hnp (by omega)) hy0 rfl rfl (by omega) (by omega) (by omega) (Nat.le_of_ble_eq_true rfl) (fun v_1 w_1 hP_1 hlen_1 => ?_) (fun _ _ h => h.elim)
    rw [hP_1.1, hP_1.2]
    show Wp X 0 0 w [(0, .ref x), (1, .int r), (2, .int (nI c))] [.int (hCnt (fun j => sAheadB f g hd j c) np)] 21
    refine r_iload_n hC dX8_playerAtRank_21 rfl (j := 1) rfl ?_
    refine r_icmp_ne hC dX8_playerAtRank_22 (tgt := 27) (by decide) (fun c22 => ?_) (fun c22 => ?_)
    · refine r_iinc hC dX8_playerAtRank_27 (j := 2) rfl (v := nI (c + 1)) (nI_succ c).symm (by rw [hnl]; decide) (L' := [(2, .int (nI (c + 1))), (0, .ref x), (1, .int r)]) rfl ?_
      refine r_goto hC dX8_playerAtRank_30 (tgt := 2) (by decide) ?_
      refine r_locals [1, 2, 0] (L' := [(0, .ref x), (1, .int r), (2, .int (nI (c + 1)))]) rfl ?_
      exact ih (c + 1) (by omega) (fun j hj => by
        rcases Nat.lt_or_ge j c with q | q
        · exact hb j q
        · obtain rfl : j = c := by omega
          exact decide_eq_false c22)
    · refine r_iload_n hC dX8_playerAtRank_25 rfl (j := 2) rfl ?_
      refine r_iret hC hE hR dX8_playerAtRank_26 (by omega) (by omega) (hn0) ?_
      exact ⟨c, hc, decide_eq_true c22, hb, rfl, rfl⟩
set_option maxRecDepth 100000 in
set_option maxHeartbeats 4000000 in
theorem sh_playerAtRank {d : Nat} {r : Int32} {w : mW} {x : Nat} {f g : Nat → Int32} {sl op lo : Int32} {hd rs : Nat → Int32} {np : Nat} {tp av lg pl tk : Int32} {l : List sv} {ea fa : Int32} {so : Option sv} {tx ln : List Nat} (H : CtAt w x ((f, g, sl, op, lo), hd, rs, np, tp, av, lg, pl, tk) l ea fa so tx ln) (hnp : np ≤ 4) : Sp (d + 4) yX8_playerAtRank cX8_playerAtRank 3 (some .int) [.ref x, .int r] w 1 6 (fun v w' => ∃ k, k < np ∧ plRankP f g hd np r k = true ∧ (∀ j, j < k → plRankP f g hd np r j = false) ∧ v = some (.int (nI k)) ∧ w' = w) (fun E w' => E = "java/util/NoSuchElementException" ∧ w' = w ∧ ∀ j, j < np → plRankP f g hd np r j = false) := by
  refine Sp.of (by decide +kernel) (Nat.le_of_ble_eq_true rfl) (fun X hC hnl hE hR hN => ?_)
  have hC : Cx X RX8 cX8_playerAtRank (d + 4) 1 6 := hC
  show Wp X 0 0 w [(0, .ref x), (1, .int r)] [] 0
  refine r_iconst hC dX8_playerAtRank_0 (v := 0) (by decide) ?_
  refine r_istore_n hC dX8_playerAtRank_1 rfl (by rw [hnl]; decide) (L' := [(2, .int 0), (0, .ref x), (1, .int r)]) rfl ?_
  refine r_locals [1, 2, 0] (L' := [(0, .ref x), (1, .int r), (2, .int 0)]) rfl ?_
  exact sh_playerAtRank_all (d := d) H hnp hC hnl hE hR hN rfl np 0 (Nat.zero_add _) (fun j hj => absurd hj (Nat.not_lt_zero j))
end HC2
