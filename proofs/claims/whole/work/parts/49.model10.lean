section MD10
set_option maxRecDepth 100000 in
set_option maxHeartbeats 4000000 in
theorem sm_toppleTotal {d : Nat} {w : mW} {m : Nat} {th : Int32} {f g : Nat → Int32} {sl op lo : Int32} {hd rs : Nat → Int32} {np : Nat} {tp av lg pl tk : Int32} {l : List sv} {ea fa : Int32} {so : Option sv} {tx : Nat → Int32} {tn : Nat} {lf : Nat → Int32} {ln : Nat} (H : MdAt w m th ((f, g, sl, op, lo), hd, rs, np, tp, av, lg, pl, tk) l ea fa so tx tn lf ln) : Sp (d + 1) yX9_toppleTotal cX9_toppleTotal 1 (some .int) [.ref m] w 0 0 (fun v w' => v = some (.int tp) ∧ MdTo w w' m 0 ((f, g, sl, op, lo), hd, rs, np, tp, av, lg, pl, tk) l ea fa so tx tn lf ln) noX := by
  refine Sp.of (by decide +kernel) (Nat.le_of_ble_eq_true rfl) (fun X hC hnl hE hR hN => ?_)
  have hC : Cx X RX9 cX9_toppleTotal (d + 1) 0 0 := hC
  show Wp X 0 0 w [(0, .ref m)] [] 0
  obtain ⟨he, en, iw, id0, bf, sf, kf, pf, lt, hm, hv, hbf, hsf, hkf, hpf, htx, hlf, hlt, hwd, hwa, hpo, hso⟩ := H
  have hF0 : Fr m w w := Fr.rfl
  refine r_aload_n hC dX9_toppleTotal_0 rfl (j := 0) rfl ?_
  refine r_iconst hC dX9_toppleTotal_1 (v := 3) (by decide) ?_
  refine r_callV hC (vs := [.int 3]) vX9_toppleTotal_2 (sm_tells3 (d := d) ⟨_, _, _, _, _, _, _, _, _, hm, hv, hbf, hsf, hkf, hpf, htx, hlf, hlt, hwd, hwa, hpo, hso⟩) hm rfl rfl (by omega) (by omega) (by omega) (Nat.le_of_ble_eq_true rfl) (fun v_1 w_1 hP_1 hlen_1 => ?_) (fun _ _ h => h.elim)
  obtain ⟨hv_1, hT_1⟩ := hP_1
  rw [hv_1]
  refine r_iret hC hE hR dX9_toppleTotal_5 (by omega) (by omega) (hlen_1) ?_
  exact ⟨rfl, hT_1⟩
set_option maxRecDepth 100000 in
set_option maxHeartbeats 4000000 in
theorem sm_avalancheCount {d : Nat} {w : mW} {m : Nat} {th : Int32} {f g : Nat → Int32} {sl op lo : Int32} {hd rs : Nat → Int32} {np : Nat} {tp av lg pl tk : Int32} {l : List sv} {ea fa : Int32} {so : Option sv} {tx : Nat → Int32} {tn : Nat} {lf : Nat → Int32} {ln : Nat} (H : MdAt w m th ((f, g, sl, op, lo), hd, rs, np, tp, av, lg, pl, tk) l ea fa so tx tn lf ln) : Sp (d + 1) yX9_avalancheCount cX9_avalancheCount 1 (some .int) [.ref m] w 0 0 (fun v w' => v = some (.int av) ∧ MdTo w w' m 0 ((f, g, sl, op, lo), hd, rs, np, tp, av, lg, pl, tk) l ea fa so tx tn lf ln) noX := by
  refine Sp.of (by decide +kernel) (Nat.le_of_ble_eq_true rfl) (fun X hC hnl hE hR hN => ?_)
  have hC : Cx X RX9 cX9_avalancheCount (d + 1) 0 0 := hC
  show Wp X 0 0 w [(0, .ref m)] [] 0
  obtain ⟨he, en, iw, id0, bf, sf, kf, pf, lt, hm, hv, hbf, hsf, hkf, hpf, htx, hlf, hlt, hwd, hwa, hpo, hso⟩ := H
  have hF0 : Fr m w w := Fr.rfl
  refine r_aload_n hC dX9_avalancheCount_0 rfl (j := 0) rfl ?_
  refine r_iconst hC dX9_avalancheCount_1 (v := 4) (by decide) ?_
  refine r_callV hC (vs := [.int 4]) vX9_avalancheCount_2 (sm_tells4 (d := d) ⟨_, _, _, _, _, _, _, _, _, hm, hv, hbf, hsf, hkf, hpf, htx, hlf, hlt, hwd, hwa, hpo, hso⟩) hm rfl rfl (by omega) (by omega) (by omega) (Nat.le_of_ble_eq_true rfl) (fun v_1 w_1 hP_1 hlen_1 => ?_) (fun _ _ h => h.elim)
  obtain ⟨hv_1, hT_1⟩ := hP_1
  rw [hv_1]
  refine r_iret hC hE hR dX9_avalancheCount_5 (by omega) (by omega) (hlen_1) ?_
  exact ⟨rfl, hT_1⟩
set_option maxRecDepth 100000 in
set_option maxHeartbeats 4000000 in
theorem sm_largestAvalanche {d : Nat} {w : mW} {m : Nat} {th : Int32} {f g : Nat → Int32} {sl op lo : Int32} {hd rs : Nat → Int32} {np : Nat} {tp av lg pl tk : Int32} {l : List sv} {ea fa : Int32} {so : Option sv} {tx : Nat → Int32} {tn : Nat} {lf : Nat → Int32} {ln : Nat} (H : MdAt w m th ((f, g, sl, op, lo), hd, rs, np, tp, av, lg, pl, tk) l ea fa so tx tn lf ln) : Sp (d + 1) yX9_largestAvalanche cX9_largestAvalanche 1 (some .int) [.ref m] w 0 0 (fun v w' => v = some (.int lg) ∧ MdTo w w' m 0 ((f, g, sl, op, lo), hd, rs, np, tp, av, lg, pl, tk) l ea fa so tx tn lf ln) noX := by
  refine Sp.of (by decide +kernel) (Nat.le_of_ble_eq_true rfl) (fun X hC hnl hE hR hN => ?_)
  have hC : Cx X RX9 cX9_largestAvalanche (d + 1) 0 0 := hC
  show Wp X 0 0 w [(0, .ref m)] [] 0
  obtain ⟨he, en, iw, id0, bf, sf, kf, pf, lt, hm, hv, hbf, hsf, hkf, hpf, htx, hlf, hlt, hwd, hwa, hpo, hso⟩ := H
  have hF0 : Fr m w w := Fr.rfl
  refine r_aload_n hC dX9_largestAvalanche_0 rfl (j := 0) rfl ?_
  refine r_iconst hC dX9_largestAvalanche_1 (v := 5) (by decide) ?_
  refine r_callV hC (vs := [.int 5]) vX9_largestAvalanche_2 (sm_tells5 (d := d) ⟨_, _, _, _, _, _, _, _, _, hm, hv, hbf, hsf, hkf, hpf, htx, hlf, hlt, hwd, hwa, hpo, hso⟩) hm rfl rfl (by omega) (by omega) (by omega) (Nat.le_of_ble_eq_true rfl) (fun v_1 w_1 hP_1 hlen_1 => ?_) (fun _ _ h => h.elim)
  obtain ⟨hv_1, hT_1⟩ := hP_1
  rw [hv_1]
  refine r_iret hC hE hR dX9_largestAvalanche_5 (by omega) (by omega) (hlen_1) ?_
  exact ⟨rfl, hT_1⟩
set_option maxRecDepth 100000 in
set_option maxHeartbeats 4000000 in
theorem sm_placedTotal {d : Nat} {w : mW} {m : Nat} {th : Int32} {f g : Nat → Int32} {sl op lo : Int32} {hd rs : Nat → Int32} {np : Nat} {tp av lg pl tk : Int32} {l : List sv} {ea fa : Int32} {so : Option sv} {tx : Nat → Int32} {tn : Nat} {lf : Nat → Int32} {ln : Nat} (H : MdAt w m th ((f, g, sl, op, lo), hd, rs, np, tp, av, lg, pl, tk) l ea fa so tx tn lf ln) : Sp (d + 1) yX9_placedTotal cX9_placedTotal 1 (some .int) [.ref m] w 0 0 (fun v w' => v = some (.int pl) ∧ MdTo w w' m 0 ((f, g, sl, op, lo), hd, rs, np, tp, av, lg, pl, tk) l ea fa so tx tn lf ln) noX := by
  refine Sp.of (by decide +kernel) (Nat.le_of_ble_eq_true rfl) (fun X hC hnl hE hR hN => ?_)
  have hC : Cx X RX9 cX9_placedTotal (d + 1) 0 0 := hC
  show Wp X 0 0 w [(0, .ref m)] [] 0
  obtain ⟨he, en, iw, id0, bf, sf, kf, pf, lt, hm, hv, hbf, hsf, hkf, hpf, htx, hlf, hlt, hwd, hwa, hpo, hso⟩ := H
  have hF0 : Fr m w w := Fr.rfl
  refine r_aload_n hC dX9_placedTotal_0 rfl (j := 0) rfl ?_
  refine r_bipush hC dX9_placedTotal_1 (v := 6) (by decide) ?_
  refine r_callV hC (vs := [.int 6]) vX9_placedTotal_3 (sm_tells6 (d := d) ⟨_, _, _, _, _, _, _, _, _, hm, hv, hbf, hsf, hkf, hpf, htx, hlf, hlt, hwd, hwa, hpo, hso⟩) hm rfl rfl (by omega) (by omega) (by omega) (Nat.le_of_ble_eq_true rfl) (fun v_1 w_1 hP_1 hlen_1 => ?_) (fun _ _ h => h.elim)
  obtain ⟨hv_1, hT_1⟩ := hP_1
  rw [hv_1]
  refine r_iret hC hE hR dX9_placedTotal_6 (by omega) (by omega) (hlen_1) ?_
  exact ⟨rfl, hT_1⟩
set_option maxRecDepth 100000 in
set_option maxHeartbeats 4000000 in
theorem sm_lostTotal {d : Nat} {w : mW} {m : Nat} {th : Int32} {f g : Nat → Int32} {sl op lo : Int32} {hd rs : Nat → Int32} {np : Nat} {tp av lg pl tk : Int32} {l : List sv} {ea fa : Int32} {so : Option sv} {tx : Nat → Int32} {tn : Nat} {lf : Nat → Int32} {ln : Nat} (H : MdAt w m th ((f, g, sl, op, lo), hd, rs, np, tp, av, lg, pl, tk) l ea fa so tx tn lf ln) : Sp (d + 1) yX9_lostTotal cX9_lostTotal 1 (some .int) [.ref m] w 0 0 (fun v w' => v = some (.int lo) ∧ MdTo w w' m 0 ((f, g, sl, op, lo), hd, rs, np, tp, av, lg, pl, tk) l ea fa so tx tn lf ln) noX := by
  refine Sp.of (by decide +kernel) (Nat.le_of_ble_eq_true rfl) (fun X hC hnl hE hR hN => ?_)
  have hC : Cx X RX9 cX9_lostTotal (d + 1) 0 0 := hC
  show Wp X 0 0 w [(0, .ref m)] [] 0
  obtain ⟨he, en, iw, id0, bf, sf, kf, pf, lt, hm, hv, hbf, hsf, hkf, hpf, htx, hlf, hlt, hwd, hwa, hpo, hso⟩ := H
  have hF0 : Fr m w w := Fr.rfl
  refine r_aload_n hC dX9_lostTotal_0 rfl (j := 0) rfl ?_
  refine r_bipush hC dX9_lostTotal_1 (v := 7) (by decide) ?_
  refine r_callV hC (vs := [.int 7]) vX9_lostTotal_3 (sm_tells7 (d := d) ⟨_, _, _, _, _, _, _, _, _, hm, hv, hbf, hsf, hkf, hpf, htx, hlf, hlt, hwd, hwa, hpo, hso⟩) hm rfl rfl (by omega) (by omega) (by omega) (Nat.le_of_ble_eq_true rfl) (fun v_1 w_1 hP_1 hlen_1 => ?_) (fun _ _ h => h.elim)
  obtain ⟨hv_1, hT_1⟩ := hP_1
  rw [hv_1]
  refine r_iret hC hE hR dX9_lostTotal_6 (by omega) (by omega) (hlen_1) ?_
  exact ⟨rfl, hT_1⟩
set_option maxRecDepth 100000 in
set_option maxHeartbeats 4000000 in
theorem sm_takenTotal {d : Nat} {w : mW} {m : Nat} {th : Int32} {f g : Nat → Int32} {sl op lo : Int32} {hd rs : Nat → Int32} {np : Nat} {tp av lg pl tk : Int32} {l : List sv} {ea fa : Int32} {so : Option sv} {tx : Nat → Int32} {tn : Nat} {lf : Nat → Int32} {ln : Nat} (H : MdAt w m th ((f, g, sl, op, lo), hd, rs, np, tp, av, lg, pl, tk) l ea fa so tx tn lf ln) : Sp (d + 1) yX9_takenTotal cX9_takenTotal 1 (some .int) [.ref m] w 0 0 (fun v w' => v = some (.int tk) ∧ MdTo w w' m 0 ((f, g, sl, op, lo), hd, rs, np, tp, av, lg, pl, tk) l ea fa so tx tn lf ln) noX := by
  refine Sp.of (by decide +kernel) (Nat.le_of_ble_eq_true rfl) (fun X hC hnl hE hR hN => ?_)
  have hC : Cx X RX9 cX9_takenTotal (d + 1) 0 0 := hC
  show Wp X 0 0 w [(0, .ref m)] [] 0
  obtain ⟨he, en, iw, id0, bf, sf, kf, pf, lt, hm, hv, hbf, hsf, hkf, hpf, htx, hlf, hlt, hwd, hwa, hpo, hso⟩ := H
  have hF0 : Fr m w w := Fr.rfl
  refine r_aload_n hC dX9_takenTotal_0 rfl (j := 0) rfl ?_
  refine r_bipush hC dX9_takenTotal_1 (v := 8) (by decide) ?_
  refine r_callV hC (vs := [.int 8]) vX9_takenTotal_3 (sm_tells8 (d := d) ⟨_, _, _, _, _, _, _, _, _, hm, hv, hbf, hsf, hkf, hpf, htx, hlf, hlt, hwd, hwa, hpo, hso⟩) hm rfl rfl (by omega) (by omega) (by omega) (Nat.le_of_ble_eq_true rfl) (fun v_1 w_1 hP_1 hlen_1 => ?_) (fun _ _ h => h.elim)
  obtain ⟨hv_1, hT_1⟩ := hP_1
  rw [hv_1]
  refine r_iret hC hE hR dX9_takenTotal_6 (by omega) (by omega) (hlen_1) ?_
  exact ⟨rfl, hT_1⟩
set_option maxRecDepth 100000 in
set_option maxHeartbeats 4000000 in
theorem hc_it {X : mC} {d : Nat} {c : Nat} {w : mW} {m : Nat} {ch ea fa sv0 tn he en ln iw id0 : Int32} {f g : Nat → Int32} {sl op lo : Int32} {hd rs : Nat → Int32} {np : Nat} {tp av lg pl tk : Int32} (hC : Cx X RX9 cX9_highestCell d 0 0) (hnl : mNL X = 3) (hm : w[m]? = some (mO 10 [.int 0, .int ch, .int ea, .int fa, .int sv0, .ref (m + 1), .ref (m + 2), .ref (m + 3), .ref (m + 4), .ref (m + 5), .ref (m + 6), .ref (m + 7), .ref (m + 8), .ref (m + 9), .ref (m + 10), .int tn, .int he, .int en, .int ln, .int iw, .int id0])) (hv : w[m + 1]? = some (mI 0 67 (enc ((f, g, sl, op, lo), hd, rs, np, tp, av, lg, pl, tk)))) (h0 : 0 < c) (hc : c < 25) (kk : Wp X 0 0 w [(1, .int (nI (hMax f (c + 1)))), (0, .ref m), (2, .int (nI (c + 1)))] [] 9) : Wp X 0 0 w [(1, .int (nI (hMax f c))), (0, .ref m), (2, .int (nI c))] [] 9 := by
  have hlt := hMax_lt (f := f) h0
  refine r_iload_n hC dX9_highestCell_9 rfl (j := 2) rfl ?_
  refine r_bipush hC dX9_highestCell_10 (v := 25) (by decide) ?_
  refine r_icmp_ge hC dX9_highestCell_12 (tgt := 44) (by decide) (fun h => absurd h (lit_ge rfl hc (by decide))) (fun _ => ?_)
  refine r_aload_n hC dX9_highestCell_15 rfl (j := 1) rfl ?_
  refine r_get hC gX9_highestCell_16 hm (v := .ref (m + 1)) rfl ?_
  refine r_bipush hC dX9_highestCell_19 (v := 17) (by decide) ?_
  refine r_iload_n hC dX9_highestCell_21 rfl (j := 2) rfl ?_
  refine r_iadd hC dX9_highestCell_22 ?_
  refine r_iald hC dX9_highestCell_23 (j := (17 + c)) hv (ix17 (c := c) (by omega)) ?_
  rw [enc_hi (c := c) (by omega)]
  refine r_aload_n hC dX9_highestCell_24 rfl (j := 1) rfl ?_
  refine r_get hC gX9_highestCell_25 hm (v := .ref (m + 1)) rfl ?_
  refine r_bipush hC dX9_highestCell_28 (v := 17) (by decide) ?_
  refine r_iload_n hC dX9_highestCell_30 rfl (j := 0) rfl ?_
  refine r_iadd hC dX9_highestCell_31 ?_
  refine r_iald hC dX9_highestCell_32 (j := (17 + (hMax f c))) hv (ix17 (c := (hMax f c)) (by omega)) ?_
  rw [enc_hi (c := (hMax f c)) (by omega)]
  refine r_icmp_le hC dX9_highestCell_33 (tgt := 38) (by decide) (fun c33 => ?_) (fun c33 => ?_)
  · refine r_iinc hC dX9_highestCell_38 (j := 2) rfl (v := nI (c + 1)) (nI_succ c).symm (by rw [hnl]; decide) (L' := [(2, .int (nI (c + 1))), (1, .int (nI (hMax f c))), (0, .ref m)]) rfl ?_
    refine r_goto hC dX9_highestCell_41 (tgt := 9) (by decide) ?_
    refine r_locals [1, 2, 0] (L' := [(1, .int (nI (hMax f c))), (0, .ref m), (2, .int (nI (c + 1)))]) rfl ?_
    have e9 : hMax f (c + 1) = hMax f c := if_neg (fun z => z c33)
    rw [e9] at kk
    exact kk
  · refine r_iload_n hC dX9_highestCell_36 rfl (j := 2) rfl ?_
    refine r_istore_n hC dX9_highestCell_37 rfl (by rw [hnl]; decide) (L' := [(1, .int (nI c)), (0, .ref m), (2, .int (nI c))]) rfl ?_
    refine r_iinc hC dX9_highestCell_38 (j := 2) rfl (v := nI (c + 1)) (nI_succ c).symm (by rw [hnl]; decide) (L' := [(2, .int (nI (c + 1))), (1, .int (nI c)), (0, .ref m)]) rfl ?_
    refine r_goto hC dX9_highestCell_41 (tgt := 9) (by decide) ?_
    refine r_locals [1, 2, 0] (L' := [(1, .int (nI c)), (0, .ref m), (2, .int (nI (c + 1)))]) rfl ?_
    have e9 : hMax f (c + 1) = c := if_pos c33
    rw [e9] at kk
    exact kk
set_option maxRecDepth 100000 in
theorem hc_all {X : mC} {d : Nat} {w : mW} {m : Nat} {ch ea fa sv0 tn he en ln iw id0 : Int32} {f g : Nat → Int32} {sl op lo : Int32} {hd rs : Nat → Int32} {np : Nat} {tp av lg pl tk : Int32} (hC : Cx X RX9 cX9_highestCell d 0 0) (hnl : mNL X = 3) (hm : w[m]? = some (mO 10 [.int 0, .int ch, .int ea, .int fa, .int sv0, .ref (m + 1), .ref (m + 2), .ref (m + 3), .ref (m + 4), .ref (m + 5), .ref (m + 6), .ref (m + 7), .ref (m + 8), .ref (m + 9), .ref (m + 10), .int tn, .int he, .int en, .int ln, .int iw, .int id0])) (hv : w[m + 1]? = some (mI 0 67 (enc ((f, g, sl, op, lo), hd, rs, np, tp, av, lg, pl, tk)))) (kk : Wp X 0 0 w [(1, .int (nI (hMax f 25))), (0, .ref m), (2, .int (nI 25))] [] 9) : ∀ n c : Nat, 0 < c → c + n = 25 → Wp X 0 0 w [(1, .int (nI (hMax f c))), (0, .ref m), (2, .int (nI c))] [] 9 := by
  intro n
  induction n with
  | zero =>
    intro c h0 h9
    obtain rfl : c = 25 := by omega
    exact kk
  | succ n ih =>
    intro c h0 h9
    exact hc_it hC hnl hm hv h0 (by omega) (ih (c + 1) (by omega) (by omega))
set_option maxRecDepth 100000 in
set_option maxHeartbeats 4000000 in
theorem sm_highestCell {d : Nat} {w : mW} {m : Nat} {th : Int32} {f g : Nat → Int32} {sl op lo : Int32} {hd rs : Nat → Int32} {np : Nat} {tp av lg pl tk : Int32} {l : List sv} {ea fa : Int32} {so : Option sv} {tx : Nat → Int32} {tn : Nat} {lf : Nat → Int32} {ln : Nat} (H : MdAt w m th ((f, g, sl, op, lo), hd, rs, np, tp, av, lg, pl, tk) l ea fa so tx tn lf ln) : Sp d yX9_highestCell cX9_highestCell 3 (some .int) [.ref m] w 0 0 (fun v w' => v = some (.int (nI (hMax f 25))) ∧ MdTo w w' m 0 ((f, g, sl, op, lo), hd, rs, np, tp, av, lg, pl, tk) l ea fa so tx tn lf ln) noX := by
  refine Sp.of (by decide +kernel) (Nat.le_of_ble_eq_true rfl) (fun X hC hnl hE hR hN => ?_)
  have hC : Cx X RX9 cX9_highestCell d 0 0 := hC
  show Wp X 0 0 w [(0, .ref m)] [] 0
  obtain ⟨he, en, iw, id0, bf, sf, kf, pf, lt, hm, hv, hbf, hsf, hkf, hpf, htx, hlf, hlt, hwd, hwa, hpo, hso⟩ := H
  have hF0 : Fr m w w := Fr.rfl
  refine r_aload_n hC dX9_highestCell_0 rfl (j := 0) rfl ?_
  refine r_iconst hC dX9_highestCell_1 (v := 0) (by decide) ?_
  refine r_put' hC pX9_highestCell_2 hm (Nat.le_of_ble_eq_true rfl) (fun _ => rfl) (fun _ => rfl) (fun w_1 ew_1 => ?_)
  replace ew_1 : w_1 = (w).set (m) (mO 10 [.int 0, .int (nI l.length), .int ea, .int fa, .int (bI so.isSome), .ref (m + 1), .ref (m + 2), .ref (m + 3), .ref (m + 4), .ref (m + 5), .ref (m + 6), .ref (m + 7), .ref (m + 8), .ref (m + 9), .ref (m + 10), .int (nI tn), .int he, .int en, .int (nI ln), .int iw, .int id0]) := ew_1
  have hf1_m : w_1[m]? = some (mO 10 [.int 0, .int (nI l.length), .int ea, .int fa, .int (bI so.isSome), .ref (m + 1), .ref (m + 2), .ref (m + 3), .ref (m + 4), .ref (m + 5), .ref (m + 6), .ref (m + 7), .ref (m + 8), .ref (m + 9), .ref (m + 10), .int (nI tn), .int he, .int en, .int (nI ln), .int iw, .int id0]) := by rw [ew_1]; exact List.getElem?_set_self (lt_of_get hm)
  have hf1__m___1_ : w_1[(m + 1)]? = some (mI 0 67 (enc ((f, g, sl, op, lo), hd, rs, np, tp, av, lg, pl, tk))) := by rw [ew_1, List.getElem?_set_ne (by omega)]; exact hv
  have hf1__m___2_ : w_1[(m + 2)]? = some (mI 0 67 bf) := by rw [ew_1, List.getElem?_set_ne (by omega)]; exact hbf
  have hf1__m___3_ : w_1[(m + 3)]? = some (mI 0 67 sf) := by rw [ew_1, List.getElem?_set_ne (by omega)]; exact hsf
  have hf1__m___4_ : w_1[(m + 4)]? = some (mI 0 67 kf) := by rw [ew_1, List.getElem?_set_ne (by omega)]; exact hkf
  have hf1__m___5_ : w_1[(m + 5)]? = some (mI 0 536 pf) := by rw [ew_1, List.getElem?_set_ne (by omega)]; exact hpf
  have hf1__m___6_ : w_1[(m + 6)]? = some (mI 0 60 tx) := by rw [ew_1, List.getElem?_set_ne (by omega)]; exact htx
  have hf1__m___7_ : w_1[(m + 7)]? = some (mI 0 40 lf) := by rw [ew_1, List.getElem?_set_ne (by omega)]; exact hlf
  have hf1__m___8_ : w_1[(m + 8)]? = some (mI 0 8 lt) := by rw [ew_1, List.getElem?_set_ne (by omega)]; exact hlt
  have hf1__m___9_ : w_1[(m + 9)]? = some (mI 0 41 wdF) := by rw [ew_1, List.getElem?_set_ne (by omega)]; exact hwd
  have hf1__m___10_ : w_1[(m + 10)]? = some (mI 0 9 waF) := by rw [ew_1, List.getElem?_set_ne (by omega)]; exact hwa
  have hF_1 : Fr m w w_1 := by rw [ew_1]; exact (Fr.set hF0 (by omega) (by omega))
  refine r_iconst hC dX9_highestCell_5 (v := 0) (by decide) ?_
  refine r_istore_n hC dX9_highestCell_6 rfl (by rw [hnl]; decide) (L' := [(1, .int 0), (0, .ref m)]) rfl ?_
  refine r_iconst hC dX9_highestCell_7 (v := 1) (by decide) ?_
  refine r_istore_n hC dX9_highestCell_8 rfl (by rw [hnl]; decide) (L' := [(2, .int 1), (1, .int 0), (0, .ref m)]) rfl ?_
  refine r_locals [1, 2, 0] (L' := [(1, .int 0), (0, .ref m), (2, .int 1)]) rfl ?_
  refine r_locals [0, 1, 2] (L' := [(1, .int (nI (hMax f 1))), (0, .ref m), (2, .int (nI 1))]) (by rw [hMax_1]; rfl) ?_
  refine hc_all hC hnl hf1_m hf1__m___1_ ?_ 24 1 (by decide) rfl
  refine r_iload_n hC dX9_highestCell_9 rfl (j := 2) rfl ?_
  refine r_bipush hC dX9_highestCell_10 (v := 25) (by decide) ?_
  refine r_icmp_ge hC dX9_highestCell_12 (tgt := 44) (by decide) (fun _ => ?_) (fun h => absurd (lit_le rfl (Nat.le_refl 25) (by decide)) h)
  refine r_iload_n hC dX9_highestCell_44 rfl (j := 0) rfl ?_
  refine r_iret hC hE hR dX9_highestCell_45 (by omega) (by omega) (hF_1.1) ?_
  exact ⟨rfl, ⟨⟨_, _, _, _, _, _, _, _, _, hf1_m, hf1__m___1_, hf1__m___2_, hf1__m___3_, hf1__m___4_, hf1__m___5_, hf1__m___6_, hf1__m___7_, hf1__m___8_, hf1__m___9_, hf1__m___10_, hpo, hso⟩, hF_1⟩⟩
set_option maxRecDepth 100000 in
set_option maxHeartbeats 4000000 in
theorem sm_topplesIf {d : Nat} {c x : Int32} {w : mW} {m : Nat} {th : Int32} {f g : Nat → Int32} {sl op lo : Int32} {hd rs : Nat → Int32} {np : Nat} {tp av lg pl tk : Int32} {l : List sv} {ea fa : Int32} {so : Option sv} {tx : Nat → Int32} {tn : Nat} {lf : Nat → Int32} {ln : Nat} (H : MdAt w m th ((f, g, sl, op, lo), hd, rs, np, tp, av, lg, pl, tk) l ea fa so tx tn lf ln) (h25 : f 25 = 0) (hop : op = 0 ∨ op = 1) (hlg : ¬ lg < 0) (hT : isC c = true → isS x = true → hNx (hRestF (hPlace (f, g, sl, op, lo) c.toNatClampNeg x (-1))).2 = none) : Sp (d + 7) yX9_topplesIf cX9_topplesIf 4 (some .int) [.ref m, .int c, .int x] w 0 0 (fun v w' => ((isC c = true ∧ isS x = true) ∧ v = some (.int (nI (hRestF (hPlace (f, g, sl, op, lo) c.toNatClampNeg x (-1))).1)) ∧ MdTo w w' m 0 ((f, g, sl, op, lo), hd, rs, np, tp, av, lg, pl, tk) l ea fa so tx tn lf ln) ∨ ((isC c = true ∧ isS x = false) ∧ v = some (.int 0) ∧ MdTo w w' m 2 ((f, g, sl, op, lo), hd, rs, np, tp, av, lg, pl, tk) l ea fa so tx tn lf ln) ∨ (isC c = false ∧ v = some (.int 0) ∧ MdTo w w' m 1 ((f, g, sl, op, lo), hd, rs, np, tp, av, lg, pl, tk) l ea fa so tx tn lf ln)) noX := by
  refine Sp.of (by decide +kernel) (Nat.le_of_ble_eq_true rfl) (fun X hC hnl hE hR hN => ?_)
  have hC : Cx X RX9 cX9_topplesIf (d + 7) 0 0 := hC
  show Wp X 0 0 w [(0, .ref m), (1, .int c), (2, .int x)] [] 0
  obtain ⟨he, en, iw, id0, bf, sf, kf, pf, lt, hm, hv, hbf, hsf, hkf, hpf, htx, hlf, hlt, hwd, hwa, hpo, hso⟩ := H
  have hF0 : Fr m w w := Fr.rfl
  refine r_aload_n hC dX9_topplesIf_0 rfl (j := 0) rfl ?_
  refine r_iload_n hC dX9_topplesIf_1 rfl (j := 1) rfl ?_
  refine r_callS hC (vs := [.int c]) vX9_topplesIf_2 (sm_isCell (d := d + 5)) rfl (by omega) (by omega) (by omega) (Nat.le_of_ble_eq_true rfl) (fun v_1 w_1 hP_1 hlen_1 => ?_) (fun _ _ h => h.elim)
  rw [hP_1.1, hP_1.2]
  show Wp X 0 0 w [(0, .ref m), (1, .int c), (2, .int x)] [.int (bI (isC c)), .ref m] 5
  refine r_if_ne hC dX9_topplesIf_5 (tgt := 12) (by decide) (fun c5 => ?_) (fun c5 => ?_)
  · refine r_iload_n hC dX9_topplesIf_12 rfl (j := 2) rfl ?_
    refine r_iconst hC dX9_topplesIf_13 (v := 1) (by decide) ?_
    refine r_bipush hC dX9_topplesIf_14 (v := 9) (by decide) ?_
    refine r_callS hC (vs := [.int x, .int 1, .int 9]) vX9_topplesIf_16 (sm_isIn (d := d + 6)) rfl (by omega) (by omega) (by omega) (Nat.le_of_ble_eq_true rfl) (fun v_2 w_2 hP_2 hlen_2 => ?_) (fun _ _ h => h.elim)
    rw [hP_2.1, hP_2.2]
    show Wp X 0 0 w [(0, .ref m), (1, .int c), (2, .int x)] [.int (bI (isI x 1 9)), .ref m] 19
    refine r_if_eq hC dX9_topplesIf_19 (tgt := 26) (by decide) (fun c19 => ?_) (fun c19 => ?_)
    · refine r_iconst hC dX9_topplesIf_26 (v := 2) (by decide) ?_
      refine r_put' hC pX9_topplesIf_27 hm (Nat.le_of_ble_eq_true rfl) (fun _ => rfl) (fun _ => rfl) (fun w_3 ew_3 => ?_)
      replace ew_3 : w_3 = (w).set (m) (mO 10 [.int 2, .int (nI l.length), .int ea, .int fa, .int (bI so.isSome), .ref (m + 1), .ref (m + 2), .ref (m + 3), .ref (m + 4), .ref (m + 5), .ref (m + 6), .ref (m + 7), .ref (m + 8), .ref (m + 9), .ref (m + 10), .int (nI tn), .int he, .int en, .int (nI ln), .int iw, .int id0]) := ew_3
      have hf3_m : w_3[m]? = some (mO 10 [.int 2, .int (nI l.length), .int ea, .int fa, .int (bI so.isSome), .ref (m + 1), .ref (m + 2), .ref (m + 3), .ref (m + 4), .ref (m + 5), .ref (m + 6), .ref (m + 7), .ref (m + 8), .ref (m + 9), .ref (m + 10), .int (nI tn), .int he, .int en, .int (nI ln), .int iw, .int id0]) := by rw [ew_3]; exact List.getElem?_set_self (lt_of_get hm)
      have hf3__m___1_ : w_3[(m + 1)]? = some (mI 0 67 (enc ((f, g, sl, op, lo), hd, rs, np, tp, av, lg, pl, tk))) := by rw [ew_3, List.getElem?_set_ne (by omega)]; exact hv
      have hf3__m___2_ : w_3[(m + 2)]? = some (mI 0 67 bf) := by rw [ew_3, List.getElem?_set_ne (by omega)]; exact hbf
      have hf3__m___3_ : w_3[(m + 3)]? = some (mI 0 67 sf) := by rw [ew_3, List.getElem?_set_ne (by omega)]; exact hsf
      have hf3__m___4_ : w_3[(m + 4)]? = some (mI 0 67 kf) := by rw [ew_3, List.getElem?_set_ne (by omega)]; exact hkf
      have hf3__m___5_ : w_3[(m + 5)]? = some (mI 0 536 pf) := by rw [ew_3, List.getElem?_set_ne (by omega)]; exact hpf
      have hf3__m___6_ : w_3[(m + 6)]? = some (mI 0 60 tx) := by rw [ew_3, List.getElem?_set_ne (by omega)]; exact htx
      have hf3__m___7_ : w_3[(m + 7)]? = some (mI 0 40 lf) := by rw [ew_3, List.getElem?_set_ne (by omega)]; exact hlf
      have hf3__m___8_ : w_3[(m + 8)]? = some (mI 0 8 lt) := by rw [ew_3, List.getElem?_set_ne (by omega)]; exact hlt
      have hf3__m___9_ : w_3[(m + 9)]? = some (mI 0 41 wdF) := by rw [ew_3, List.getElem?_set_ne (by omega)]; exact hwd
      have hf3__m___10_ : w_3[(m + 10)]? = some (mI 0 9 waF) := by rw [ew_3, List.getElem?_set_ne (by omega)]; exact hwa
      have hF_3 : Fr m w w_3 := by rw [ew_3]; exact (Fr.set hF0 (by omega) (by omega))
      refine r_aload_n hC dX9_topplesIf_30 rfl (j := 0) rfl ?_
      refine r_get hC gX9_topplesIf_31 hf3_m (v := .int 2) rfl ?_
      refine r_if_eq hC dX9_topplesIf_34 (tgt := 39) (by decide) (fun h => absurd h (by decide)) (fun _ => ?_)
      refine r_iconst hC dX9_topplesIf_37 (v := 0) (by decide) ?_
      refine r_iret hC hE hR dX9_topplesIf_38 (by omega) (by omega) (hF_3.1) ?_
      exact (Or.inr (Or.inl ⟨⟨bI_ne.mp c5, bI_0.mp c19⟩, rfl, ⟨⟨_, _, _, _, _, _, _, _, _, hf3_m, hf3__m___1_, hf3__m___2_, hf3__m___3_, hf3__m___4_, hf3__m___5_, hf3__m___6_, hf3__m___7_, hf3__m___8_, hf3__m___9_, hf3__m___10_, hpo, hso⟩, hF_3⟩⟩))
    · refine r_iconst hC dX9_topplesIf_22 (v := 0) (by decide) ?_
      refine r_goto hC dX9_topplesIf_23 (tgt := 27) (by decide) ?_
      refine r_put' hC pX9_topplesIf_27 hm (Nat.le_of_ble_eq_true rfl) (fun _ => rfl) (fun _ => rfl) (fun w_4 ew_4 => ?_)
      replace ew_4 : w_4 = (w).set (m) (mO 10 [.int 0, .int (nI l.length), .int ea, .int fa, .int (bI so.isSome), .ref (m + 1), .ref (m + 2), .ref (m + 3), .ref (m + 4), .ref (m + 5), .ref (m + 6), .ref (m + 7), .ref (m + 8), .ref (m + 9), .ref (m + 10), .int (nI tn), .int he, .int en, .int (nI ln), .int iw, .int id0]) := ew_4
      have hf4_m : w_4[m]? = some (mO 10 [.int 0, .int (nI l.length), .int ea, .int fa, .int (bI so.isSome), .ref (m + 1), .ref (m + 2), .ref (m + 3), .ref (m + 4), .ref (m + 5), .ref (m + 6), .ref (m + 7), .ref (m + 8), .ref (m + 9), .ref (m + 10), .int (nI tn), .int he, .int en, .int (nI ln), .int iw, .int id0]) := by rw [ew_4]; exact List.getElem?_set_self (lt_of_get hm)
      have hf4__m___1_ : w_4[(m + 1)]? = some (mI 0 67 (enc ((f, g, sl, op, lo), hd, rs, np, tp, av, lg, pl, tk))) := by rw [ew_4, List.getElem?_set_ne (by omega)]; exact hv
      have hf4__m___2_ : w_4[(m + 2)]? = some (mI 0 67 bf) := by rw [ew_4, List.getElem?_set_ne (by omega)]; exact hbf
      have hf4__m___3_ : w_4[(m + 3)]? = some (mI 0 67 sf) := by rw [ew_4, List.getElem?_set_ne (by omega)]; exact hsf
      have hf4__m___4_ : w_4[(m + 4)]? = some (mI 0 67 kf) := by rw [ew_4, List.getElem?_set_ne (by omega)]; exact hkf
      have hf4__m___5_ : w_4[(m + 5)]? = some (mI 0 536 pf) := by rw [ew_4, List.getElem?_set_ne (by omega)]; exact hpf
      have hf4__m___6_ : w_4[(m + 6)]? = some (mI 0 60 tx) := by rw [ew_4, List.getElem?_set_ne (by omega)]; exact htx
      have hf4__m___7_ : w_4[(m + 7)]? = some (mI 0 40 lf) := by rw [ew_4, List.getElem?_set_ne (by omega)]; exact hlf
      have hf4__m___8_ : w_4[(m + 8)]? = some (mI 0 8 lt) := by rw [ew_4, List.getElem?_set_ne (by omega)]; exact hlt
      have hf4__m___9_ : w_4[(m + 9)]? = some (mI 0 41 wdF) := by rw [ew_4, List.getElem?_set_ne (by omega)]; exact hwd
      have hf4__m___10_ : w_4[(m + 10)]? = some (mI 0 9 waF) := by rw [ew_4, List.getElem?_set_ne (by omega)]; exact hwa
      have hF_4 : Fr m w w_4 := by rw [ew_4]; exact (Fr.set hF0 (by omega) (by omega))
      refine r_aload_n hC dX9_topplesIf_30 rfl (j := 0) rfl ?_
      refine r_get hC gX9_topplesIf_31 hf4_m (v := .int 0) rfl ?_
      refine r_if_eq hC dX9_topplesIf_34 (tgt := 39) (by decide) (fun _ => ?_) (fun h => absurd (by decide) h)
      have p1 : isC c = true := bI_ne.mp c5
      have hb9 := isC_lt p1
      have hb8 := hb9.1
      have p3 : isS x = true := bI_ne.mp c19
      rw [show Wp X 0 0 w_4 [(0, .ref m), (1, .int c), (2, .int x)] [] 39 = Wp X 0 0 w_4 [(0, .ref m), (1, .int (nI c.toNatClampNeg)), (2, .int x)] [] 39 from by rw [← hb9.2]]
      refine r_aload_n hC dX9_topplesIf_39 rfl (j := 0) rfl ?_
      refine r_get hC gX9_topplesIf_40 hf4_m (v := .ref (m + 4)) rfl ?_
      refine r_aload_n hC dX9_topplesIf_43 rfl (j := 0) rfl ?_
      refine r_get hC gX9_topplesIf_44 hf4_m (v := .ref (m + 1)) rfl ?_
      refine r_callS hC (vs := [.ref (m + 4), .ref (m + 1)]) vX9_topplesIf_47 (sm_lays (d := d + 6) hf4__m___4_ hf4__m___1_ (by omega)) rfl (by omega) (by omega) (by omega) (Nat.le_of_ble_eq_true rfl) (fun v_5 w_5 hP_5 hlen_5 => ?_) (fun _ _ h => h.elim)
      obtain ⟨hv_5, ew_5⟩ := hP_5
      rw [hv_5]
      have hf5_m : w_5[m]? = some (mO 10 [.int 0, .int (nI l.length), .int ea, .int fa, .int (bI so.isSome), .ref (m + 1), .ref (m + 2), .ref (m + 3), .ref (m + 4), .ref (m + 5), .ref (m + 6), .ref (m + 7), .ref (m + 8), .ref (m + 9), .ref (m + 10), .int (nI tn), .int he, .int en, .int (nI ln), .int iw, .int id0]) := by rw [ew_5, List.getElem?_set_ne (by omega)]; exact hf4_m
      have hf5__m___1_ : w_5[(m + 1)]? = some (mI 0 67 (enc ((f, g, sl, op, lo), hd, rs, np, tp, av, lg, pl, tk))) := by rw [ew_5, List.getElem?_set_ne (by omega)]; exact hf4__m___1_
      have hf5__m___2_ : w_5[(m + 2)]? = some (mI 0 67 bf) := by rw [ew_5, List.getElem?_set_ne (by omega)]; exact hf4__m___2_
      have hf5__m___3_ : w_5[(m + 3)]? = some (mI 0 67 sf) := by rw [ew_5, List.getElem?_set_ne (by omega)]; exact hf4__m___3_
      have hf5__m___4_ : w_5[(m + 4)]? = some (mI 0 67 (enc ((f, g, sl, op, lo), hd, rs, np, tp, av, lg, pl, tk))) := by rw [ew_5]; exact List.getElem?_set_self (lt_of_get hf4__m___4_)
      have hf5__m___5_ : w_5[(m + 5)]? = some (mI 0 536 pf) := by rw [ew_5, List.getElem?_set_ne (by omega)]; exact hf4__m___5_
      have hf5__m___6_ : w_5[(m + 6)]? = some (mI 0 60 tx) := by rw [ew_5, List.getElem?_set_ne (by omega)]; exact hf4__m___6_
      have hf5__m___7_ : w_5[(m + 7)]? = some (mI 0 40 lf) := by rw [ew_5, List.getElem?_set_ne (by omega)]; exact hf4__m___7_
      have hf5__m___8_ : w_5[(m + 8)]? = some (mI 0 8 lt) := by rw [ew_5, List.getElem?_set_ne (by omega)]; exact hf4__m___8_
      have hf5__m___9_ : w_5[(m + 9)]? = some (mI 0 41 wdF) := by rw [ew_5, List.getElem?_set_ne (by omega)]; exact hf4__m___9_
      have hf5__m___10_ : w_5[(m + 10)]? = some (mI 0 9 waF) := by rw [ew_5, List.getElem?_set_ne (by omega)]; exact hf4__m___10_
      have hF_5 : Fr m w w_5 := by rw [ew_5]; exact (Fr.set hF_4 (by omega) (by omega))
      show Wp X 0 0 w_5 [(0, .ref m), (1, .int (nI c.toNatClampNeg)), (2, .int x)] [] 50
      refine r_aload_n hC dX9_topplesIf_50 rfl (j := 0) rfl ?_
      refine r_iload_n hC dX9_topplesIf_51 rfl (j := 1) rfl ?_
      refine r_iload_n hC dX9_topplesIf_52 rfl (j := 2) rfl ?_
      refine r_iconst hC dX9_topplesIf_53 (v := 0) (by decide) ?_
      refine r_callV hC (vs := [.int (nI c.toNatClampNeg), .int x, .int 0]) vX9_topplesIf_54 (sm_heaps (d := d) (c := c.toNatClampNeg) (x := x) (t := -1) hf5_m hf5__m___1_ h25 hop hlg hb8 (hT p1 p3)) hf5_m rfl rfl (by omega) (by omega) (by omega) (Nat.le_of_ble_eq_true rfl) (fun v_6 w_6 hP_6 hlen_6 => ?_) (fun _ _ h => h.elim)
      obtain ⟨hv_6, ew_6⟩ := hP_6
      rw [hv_6]
      have hf6_m : w_6[m]? = some (mO 10 [.int 0, .int (nI l.length), .int ea, .int fa, .int (bI so.isSome), .ref (m + 1), .ref (m + 2), .ref (m + 3), .ref (m + 4), .ref (m + 5), .ref (m + 6), .ref (m + 7), .ref (m + 8), .ref (m + 9), .ref (m + 10), .int (nI tn), .int he, .int en, .int (nI ln), .int iw, .int id0]) := by rw [ew_6, List.getElem?_set_ne (by omega)]; exact hf5_m
      have hf6__m___1_ : w_6[(m + 1)]? = some (mI 0 67 (enc (((sSettle ((hPlace (f, g, sl, op, lo) c.toNatClampNeg x (-1)), hd, rs, np, tp, av, lg, pl + x, tk)).1.1, (sSettle ((hPlace (f, g, sl, op, lo) c.toNatClampNeg x (-1)), hd, rs, np, tp, av, lg, pl + x, tk)).1.2.1, (sSettle ((hPlace (f, g, sl, op, lo) c.toNatClampNeg x (-1)), hd, rs, np, tp, av, lg, pl + x, tk)).1.2.2.1, (sSettle ((hPlace (f, g, sl, op, lo) c.toNatClampNeg x (-1)), hd, rs, np, tp, av, lg, pl + x, tk)).1.2.2.2.1, (sSettle ((hPlace (f, g, sl, op, lo) c.toNatClampNeg x (-1)), hd, rs, np, tp, av, lg, pl + x, tk)).1.2.2.2.2), (sSettle ((hPlace (f, g, sl, op, lo) c.toNatClampNeg x (-1)), hd, rs, np, tp, av, lg, pl + x, tk)).2.1, (sSettle ((hPlace (f, g, sl, op, lo) c.toNatClampNeg x (-1)), hd, rs, np, tp, av, lg, pl + x, tk)).2.2.1, np, (sSettle ((hPlace (f, g, sl, op, lo) c.toNatClampNeg x (-1)), hd, rs, np, tp, av, lg, pl + x, tk)).2.2.2.2.1, (sSettle ((hPlace (f, g, sl, op, lo) c.toNatClampNeg x (-1)), hd, rs, np, tp, av, lg, pl + x, tk)).2.2.2.2.2.1, (sSettle ((hPlace (f, g, sl, op, lo) c.toNatClampNeg x (-1)), hd, rs, np, tp, av, lg, pl + x, tk)).2.2.2.2.2.2.1, (sSettle ((hPlace (f, g, sl, op, lo) c.toNatClampNeg x (-1)), hd, rs, np, tp, av, lg, pl + x, tk)).2.2.2.2.2.2.2.1, (sSettle ((hPlace (f, g, sl, op, lo) c.toNatClampNeg x (-1)), hd, rs, np, tp, av, lg, pl + x, tk)).2.2.2.2.2.2.2.2))) := by rw [ew_6]; exact List.getElem?_set_self (lt_of_get hf5__m___1_)
      have hf6__m___2_ : w_6[(m + 2)]? = some (mI 0 67 bf) := by rw [ew_6, List.getElem?_set_ne (by omega)]; exact hf5__m___2_
      have hf6__m___3_ : w_6[(m + 3)]? = some (mI 0 67 sf) := by rw [ew_6, List.getElem?_set_ne (by omega)]; exact hf5__m___3_
      have hf6__m___4_ : w_6[(m + 4)]? = some (mI 0 67 (enc ((f, g, sl, op, lo), hd, rs, np, tp, av, lg, pl, tk))) := by rw [ew_6, List.getElem?_set_ne (by omega)]; exact hf5__m___4_
      have hf6__m___5_ : w_6[(m + 5)]? = some (mI 0 536 pf) := by rw [ew_6, List.getElem?_set_ne (by omega)]; exact hf5__m___5_
      have hf6__m___6_ : w_6[(m + 6)]? = some (mI 0 60 tx) := by rw [ew_6, List.getElem?_set_ne (by omega)]; exact hf5__m___6_
      have hf6__m___7_ : w_6[(m + 7)]? = some (mI 0 40 lf) := by rw [ew_6, List.getElem?_set_ne (by omega)]; exact hf5__m___7_
      have hf6__m___8_ : w_6[(m + 8)]? = some (mI 0 8 lt) := by rw [ew_6, List.getElem?_set_ne (by omega)]; exact hf5__m___8_
      have hf6__m___9_ : w_6[(m + 9)]? = some (mI 0 41 wdF) := by rw [ew_6, List.getElem?_set_ne (by omega)]; exact hf5__m___9_
      have hf6__m___10_ : w_6[(m + 10)]? = some (mI 0 9 waF) := by rw [ew_6, List.getElem?_set_ne (by omega)]; exact hf5__m___10_
      have hF_6 : Fr m w w_6 := by rw [ew_6]; exact (Fr.set hF_5 (by omega) (by omega))
      show Wp X 0 0 w_6 [(0, .ref m), (1, .int (nI c.toNatClampNeg)), (2, .int x)] [.int (nI (hRestF (hPlace (f, g, sl, op, lo) c.toNatClampNeg x (-1))).1)] 57
      refine r_istore_n hC dX9_topplesIf_57 rfl (by rw [hnl]; decide) (L' := [(3, .int (nI (hRestF (hPlace (f, g, sl, op, lo) c.toNatClampNeg x (-1))).1)), (0, .ref m), (1, .int (nI c.toNatClampNeg)), (2, .int x)]) rfl ?_
      refine r_aload_n hC dX9_topplesIf_58 rfl (j := 1) rfl ?_
      refine r_get hC gX9_topplesIf_59 hf6_m (v := .ref (m + 1)) rfl ?_
      refine r_aload_n hC dX9_topplesIf_62 rfl (j := 1) rfl ?_
      refine r_get hC gX9_topplesIf_63 hf6_m (v := .ref (m + 4)) rfl ?_
      refine r_callS hC (vs := [.ref (m + 1), .ref (m + 4)]) vX9_topplesIf_66 (sm_lays (d := d + 6) hf6__m___1_ hf6__m___4_ (by omega)) rfl (by omega) (by omega) (by omega) (Nat.le_of_ble_eq_true rfl) (fun v_7 w_7 hP_7 hlen_7 => ?_) (fun _ _ h => h.elim)
      obtain ⟨hv_7, ew_7⟩ := hP_7
      rw [hv_7]
      have hf7_m : w_7[m]? = some (mO 10 [.int 0, .int (nI l.length), .int ea, .int fa, .int (bI so.isSome), .ref (m + 1), .ref (m + 2), .ref (m + 3), .ref (m + 4), .ref (m + 5), .ref (m + 6), .ref (m + 7), .ref (m + 8), .ref (m + 9), .ref (m + 10), .int (nI tn), .int he, .int en, .int (nI ln), .int iw, .int id0]) := by rw [ew_7, List.getElem?_set_ne (by omega)]; exact hf6_m
      have hf7__m___1_ : w_7[(m + 1)]? = some (mI 0 67 (enc ((f, g, sl, op, lo), hd, rs, np, tp, av, lg, pl, tk))) := by rw [ew_7]; exact List.getElem?_set_self (lt_of_get hf6__m___1_)
      have hf7__m___2_ : w_7[(m + 2)]? = some (mI 0 67 bf) := by rw [ew_7, List.getElem?_set_ne (by omega)]; exact hf6__m___2_
      have hf7__m___3_ : w_7[(m + 3)]? = some (mI 0 67 sf) := by rw [ew_7, List.getElem?_set_ne (by omega)]; exact hf6__m___3_
      have hf7__m___4_ : w_7[(m + 4)]? = some (mI 0 67 (enc ((f, g, sl, op, lo), hd, rs, np, tp, av, lg, pl, tk))) := by rw [ew_7, List.getElem?_set_ne (by omega)]; exact hf6__m___4_
      have hf7__m___5_ : w_7[(m + 5)]? = some (mI 0 536 pf) := by rw [ew_7, List.getElem?_set_ne (by omega)]; exact hf6__m___5_
      have hf7__m___6_ : w_7[(m + 6)]? = some (mI 0 60 tx) := by rw [ew_7, List.getElem?_set_ne (by omega)]; exact hf6__m___6_
      have hf7__m___7_ : w_7[(m + 7)]? = some (mI 0 40 lf) := by rw [ew_7, List.getElem?_set_ne (by omega)]; exact hf6__m___7_
      have hf7__m___8_ : w_7[(m + 8)]? = some (mI 0 8 lt) := by rw [ew_7, List.getElem?_set_ne (by omega)]; exact hf6__m___8_
      have hf7__m___9_ : w_7[(m + 9)]? = some (mI 0 41 wdF) := by rw [ew_7, List.getElem?_set_ne (by omega)]; exact hf6__m___9_
      have hf7__m___10_ : w_7[(m + 10)]? = some (mI 0 9 waF) := by rw [ew_7, List.getElem?_set_ne (by omega)]; exact hf6__m___10_
      have hF_7 : Fr m w w_7 := by rw [ew_7]; exact (Fr.set hF_6 (by omega) (by omega))
      show Wp X 0 0 w_7 [(3, .int (nI (hRestF (hPlace (f, g, sl, op, lo) c.toNatClampNeg x (-1))).1)), (0, .ref m), (1, .int (nI c.toNatClampNeg)), (2, .int x)] [] 69
      refine r_iload_n hC dX9_topplesIf_69 rfl (j := 0) rfl ?_
      refine r_iret hC hE hR dX9_topplesIf_70 (by omega) (by omega) (hF_7.1) ?_
      exact (Or.inl ⟨⟨p1, p3⟩, rfl, ⟨⟨_, _, _, _, _, _, _, _, _, hf7_m, hf7__m___1_, hf7__m___2_, hf7__m___3_, hf7__m___4_, hf7__m___5_, hf7__m___6_, hf7__m___7_, hf7__m___8_, hf7__m___9_, hf7__m___10_, hpo, hso⟩, hF_7⟩⟩)
  · refine r_iconst hC dX9_topplesIf_8 (v := 1) (by decide) ?_
    refine r_goto hC dX9_topplesIf_9 (tgt := 27) (by decide) ?_
    refine r_put' hC pX9_topplesIf_27 hm (Nat.le_of_ble_eq_true rfl) (fun _ => rfl) (fun _ => rfl) (fun w_8 ew_8 => ?_)
    replace ew_8 : w_8 = (w).set (m) (mO 10 [.int 1, .int (nI l.length), .int ea, .int fa, .int (bI so.isSome), .ref (m + 1), .ref (m + 2), .ref (m + 3), .ref (m + 4), .ref (m + 5), .ref (m + 6), .ref (m + 7), .ref (m + 8), .ref (m + 9), .ref (m + 10), .int (nI tn), .int he, .int en, .int (nI ln), .int iw, .int id0]) := ew_8
    have hf8_m : w_8[m]? = some (mO 10 [.int 1, .int (nI l.length), .int ea, .int fa, .int (bI so.isSome), .ref (m + 1), .ref (m + 2), .ref (m + 3), .ref (m + 4), .ref (m + 5), .ref (m + 6), .ref (m + 7), .ref (m + 8), .ref (m + 9), .ref (m + 10), .int (nI tn), .int he, .int en, .int (nI ln), .int iw, .int id0]) := by rw [ew_8]; exact List.getElem?_set_self (lt_of_get hm)
    have hf8__m___1_ : w_8[(m + 1)]? = some (mI 0 67 (enc ((f, g, sl, op, lo), hd, rs, np, tp, av, lg, pl, tk))) := by rw [ew_8, List.getElem?_set_ne (by omega)]; exact hv
    have hf8__m___2_ : w_8[(m + 2)]? = some (mI 0 67 bf) := by rw [ew_8, List.getElem?_set_ne (by omega)]; exact hbf
    have hf8__m___3_ : w_8[(m + 3)]? = some (mI 0 67 sf) := by rw [ew_8, List.getElem?_set_ne (by omega)]; exact hsf
    have hf8__m___4_ : w_8[(m + 4)]? = some (mI 0 67 kf) := by rw [ew_8, List.getElem?_set_ne (by omega)]; exact hkf
    have hf8__m___5_ : w_8[(m + 5)]? = some (mI 0 536 pf) := by rw [ew_8, List.getElem?_set_ne (by omega)]; exact hpf
    have hf8__m___6_ : w_8[(m + 6)]? = some (mI 0 60 tx) := by rw [ew_8, List.getElem?_set_ne (by omega)]; exact htx
    have hf8__m___7_ : w_8[(m + 7)]? = some (mI 0 40 lf) := by rw [ew_8, List.getElem?_set_ne (by omega)]; exact hlf
    have hf8__m___8_ : w_8[(m + 8)]? = some (mI 0 8 lt) := by rw [ew_8, List.getElem?_set_ne (by omega)]; exact hlt
    have hf8__m___9_ : w_8[(m + 9)]? = some (mI 0 41 wdF) := by rw [ew_8, List.getElem?_set_ne (by omega)]; exact hwd
    have hf8__m___10_ : w_8[(m + 10)]? = some (mI 0 9 waF) := by rw [ew_8, List.getElem?_set_ne (by omega)]; exact hwa
    have hF_8 : Fr m w w_8 := by rw [ew_8]; exact (Fr.set hF0 (by omega) (by omega))
    refine r_aload_n hC dX9_topplesIf_30 rfl (j := 0) rfl ?_
    refine r_get hC gX9_topplesIf_31 hf8_m (v := .int 1) rfl ?_
    refine r_if_eq hC dX9_topplesIf_34 (tgt := 39) (by decide) (fun h => absurd h (by decide)) (fun _ => ?_)
    refine r_iconst hC dX9_topplesIf_37 (v := 0) (by decide) ?_
    refine r_iret hC hE hR dX9_topplesIf_38 (by omega) (by omega) (hF_8.1) ?_
    exact (Or.inr (Or.inr ⟨(bI_0.mp c5), rfl, ⟨⟨_, _, _, _, _, _, _, _, _, hf8_m, hf8__m___1_, hf8__m___2_, hf8__m___3_, hf8__m___4_, hf8__m___5_, hf8__m___6_, hf8__m___7_, hf8__m___8_, hf8__m___9_, hf8__m___10_, hpo, hso⟩, hF_8⟩⟩))
set_option maxRecDepth 100000 in
set_option maxHeartbeats 4000000 in
theorem sm_topplesIfByScan {d : Nat} {c x : Int32} {w : mW} {m : Nat} {th : Int32} {f g : Nat → Int32} {sl op lo : Int32} {hd rs : Nat → Int32} {np : Nat} {tp av lg pl tk : Int32} {l : List sv} {ea fa : Int32} {so : Option sv} {tx : Nat → Int32} {tn : Nat} {lf : Nat → Int32} {ln : Nat} (H : MdAt w m th ((f, g, sl, op, lo), hd, rs, np, tp, av, lg, pl, tk) l ea fa so tx tn lf ln) (h25 : f 25 = 0) (hop : op = 0 ∨ op = 1) (hlg : ¬ lg < 0) (hT : isC c = true → isS x = true → hNx (hRestF (hPlace (f, g, sl, op, lo) c.toNatClampNeg x (-1))).2 = none) : Sp (d + 8) yX9_topplesIfByScan cX9_topplesIfByScan 3 (some .int) [.ref m, .int c, .int x] w 0 0 (fun v w' => ((isC c = true ∧ isS x = true) ∧ v = some (.int (nI (hRestF (hPlace (f, g, sl, op, lo) c.toNatClampNeg x (-1))).1)) ∧ MdTo w w' m 0 ((f, g, sl, op, lo), hd, rs, np, tp, av, lg, pl, tk) l ea fa so tx tn lf ln) ∨ ((isC c = true ∧ isS x = false) ∧ v = some (.int 0) ∧ MdTo w w' m 2 ((f, g, sl, op, lo), hd, rs, np, tp, av, lg, pl, tk) l ea fa so tx tn lf ln) ∨ (isC c = false ∧ v = some (.int 0) ∧ MdTo w w' m 1 ((f, g, sl, op, lo), hd, rs, np, tp, av, lg, pl, tk) l ea fa so tx tn lf ln)) noX := by
  refine Sp.of (by decide +kernel) (Nat.le_of_ble_eq_true rfl) (fun X hC hnl hE hR hN => ?_)
  have hC : Cx X RX9 cX9_topplesIfByScan (d + 8) 0 0 := hC
  show Wp X 0 0 w [(0, .ref m), (1, .int c), (2, .int x)] [] 0
  obtain ⟨he, en, iw, id0, bf, sf, kf, pf, lt, hm, hv, hbf, hsf, hkf, hpf, htx, hlf, hlt, hwd, hwa, hpo, hso⟩ := H
  have hF0 : Fr m w w := Fr.rfl
  refine r_aload_n hC dX9_topplesIfByScan_0 rfl (j := 0) rfl ?_
  refine r_iload_n hC dX9_topplesIfByScan_1 rfl (j := 1) rfl ?_
  refine r_iload_n hC dX9_topplesIfByScan_2 rfl (j := 2) rfl ?_
  refine r_callV hC (vs := [.int c, .int x]) vX9_topplesIfByScan_3 (sm_topplesIf (d := d) ⟨_, _, _, _, _, _, _, _, _, hm, hv, hbf, hsf, hkf, hpf, htx, hlf, hlt, hwd, hwa, hpo, hso⟩ h25 hop hlg hT) hm rfl rfl (by omega) (by omega) (by omega) (Nat.le_of_ble_eq_true rfl) (fun v_1 w_1 hP_1 hlen_1 => ?_) (fun _ _ h => h.elim)
  rcases hP_1 with ⟨hz_1, hv_1, hT_1⟩ | ⟨hz_1, hv_1, hT_1⟩ | ⟨hz_1, hv_1, hT_1⟩
  · rw [hv_1]
    refine r_iret hC hE hR dX9_topplesIfByScan_6 (by omega) (by omega) (hlen_1) ?_
    exact (Or.inl ⟨hz_1, rfl, hT_1⟩)
  · rw [hv_1]
    refine r_iret hC hE hR dX9_topplesIfByScan_6 (by omega) (by omega) (hlen_1) ?_
    exact (Or.inr (Or.inl ⟨hz_1, rfl, hT_1⟩))
  · rw [hv_1]
    refine r_iret hC hE hR dX9_topplesIfByScan_6 (by omega) (by omega) (hlen_1) ?_
    exact (Or.inr (Or.inr ⟨hz_1, rfl, hT_1⟩))
end MD10
