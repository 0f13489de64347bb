section MD9
set_option maxRecDepth 100000 in
set_option maxHeartbeats 4000000 in
theorem sm_thrown {d : Nat} {w : mW} {m : Nat} {th : Int32} {f g : Nat → Int32} {sl op lo : Int32} {hd rs : Nat → Int32} {np : Nat} {tp av lg pl tk : Int32} {l : List sv} {ea fa : Int32} {so : Option sv} {tx : Nat → Int32} {tn : Nat} {lf : Nat → Int32} {ln : Nat} (H : MdAt w m th ((f, g, sl, op, lo), hd, rs, np, tp, av, lg, pl, tk) l ea fa so tx tn lf ln) : Sp d yX9_thrown cX9_thrown 1 (some .int) [.ref m] w 0 0 (fun v w' => v = some (.int th) ∧ w' = w) noX := by
  refine Sp.of (by decide +kernel) (Nat.le_of_ble_eq_true rfl) (fun X hC hnl hE hR hN => ?_)
  have hC : Cx X RX9 cX9_thrown d 0 0 := hC
  show Wp X 0 0 w [(0, .ref m)] [] 0
  obtain ⟨he, en, iw, id0, bf, sf, kf, pf, lt, hm, hv, hbf, hsf, hkf, hpf, htx, hlf, hlt, hwd, hwa, hpo, hso⟩ := H
  have hF0 : Fr m w w := Fr.rfl
  refine r_aload_n hC dX9_thrown_0 rfl (j := 0) rfl ?_
  refine r_get hC gX9_thrown_1 hm (v := .int th) rfl ?_
  refine r_iret hC hE hR dX9_thrown_4 (by omega) (by omega) (hF0.1) ?_
  exact ⟨rfl, rfl⟩
set_option maxRecDepth 100000 in
set_option maxHeartbeats 4000000 in
theorem sm_playerCount {d : Nat} {w : mW} {m : Nat} {th : Int32} {f g : Nat → Int32} {sl op lo : Int32} {hd rs : Nat → Int32} {np : Nat} {tp av lg pl tk : Int32} {l : List sv} {ea fa : Int32} {so : Option sv} {tx : Nat → Int32} {tn : Nat} {lf : Nat → Int32} {ln : Nat} (H : MdAt w m th ((f, g, sl, op, lo), hd, rs, np, tp, av, lg, pl, tk) l ea fa so tx tn lf ln)  : Sp d yX9_playerCount cX9_playerCount 1 (some .int) [.ref m] w 0 0 (fun v w' => (v = some (.int (nI np)) ∧ MdTo w w' m 0 ((f, g, sl, op, lo), hd, rs, np, tp, av, lg, pl, tk) l ea fa so tx tn lf ln)) noX := by
  refine Sp.of (by decide +kernel) (Nat.le_of_ble_eq_true rfl) (fun X hC hnl hE hR hN => ?_)
  have hC : Cx X RX9 cX9_playerCount d 0 0 := hC
  show Wp X 0 0 w [(0, .ref m)] [] 0
  obtain ⟨he, en, iw, id0, bf, sf, kf, pf, lt, hm, hv, hbf, hsf, hkf, hpf, htx, hlf, hlt, hwd, hwa, hpo, hso⟩ := H
  have hF0 : Fr m w w := Fr.rfl
  refine r_aload_n hC dX9_playerCount_0 rfl (j := 0) rfl ?_
  refine r_iconst hC dX9_playerCount_1 (v := 0) (by decide) ?_
  refine r_put' hC pX9_playerCount_2 hm (Nat.le_of_ble_eq_true rfl) (fun _ => rfl) (fun _ => rfl) (fun w_1 ew_1 => ?_)
  replace ew_1 : w_1 = (w).set (m) (mO 10 [.int 0, .int (nI l.length), .int ea, .int fa, .int (bI so.isSome), .ref (m + 1), .ref (m + 2), .ref (m + 3), .ref (m + 4), .ref (m + 5), .ref (m + 6), .ref (m + 7), .ref (m + 8), .ref (m + 9), .ref (m + 10), .int (nI tn), .int he, .int en, .int (nI ln), .int iw, .int id0]) := ew_1
  have hf1_m : w_1[m]? = some (mO 10 [.int 0, .int (nI l.length), .int ea, .int fa, .int (bI so.isSome), .ref (m + 1), .ref (m + 2), .ref (m + 3), .ref (m + 4), .ref (m + 5), .ref (m + 6), .ref (m + 7), .ref (m + 8), .ref (m + 9), .ref (m + 10), .int (nI tn), .int he, .int en, .int (nI ln), .int iw, .int id0]) := by rw [ew_1]; exact List.getElem?_set_self (lt_of_get hm)
  have hf1__m___1_ : w_1[(m + 1)]? = some (mI 0 67 (enc ((f, g, sl, op, lo), hd, rs, np, tp, av, lg, pl, tk))) := by rw [ew_1, List.getElem?_set_ne (by omega)]; exact hv
  have hf1__m___2_ : w_1[(m + 2)]? = some (mI 0 67 bf) := by rw [ew_1, List.getElem?_set_ne (by omega)]; exact hbf
  have hf1__m___3_ : w_1[(m + 3)]? = some (mI 0 67 sf) := by rw [ew_1, List.getElem?_set_ne (by omega)]; exact hsf
  have hf1__m___4_ : w_1[(m + 4)]? = some (mI 0 67 kf) := by rw [ew_1, List.getElem?_set_ne (by omega)]; exact hkf
  have hf1__m___5_ : w_1[(m + 5)]? = some (mI 0 536 pf) := by rw [ew_1, List.getElem?_set_ne (by omega)]; exact hpf
  have hf1__m___6_ : w_1[(m + 6)]? = some (mI 0 60 tx) := by rw [ew_1, List.getElem?_set_ne (by omega)]; exact htx
  have hf1__m___7_ : w_1[(m + 7)]? = some (mI 0 40 lf) := by rw [ew_1, List.getElem?_set_ne (by omega)]; exact hlf
  have hf1__m___8_ : w_1[(m + 8)]? = some (mI 0 8 lt) := by rw [ew_1, List.getElem?_set_ne (by omega)]; exact hlt
  have hf1__m___9_ : w_1[(m + 9)]? = some (mI 0 41 wdF) := by rw [ew_1, List.getElem?_set_ne (by omega)]; exact hwd
  have hf1__m___10_ : w_1[(m + 10)]? = some (mI 0 9 waF) := by rw [ew_1, List.getElem?_set_ne (by omega)]; exact hwa
  have hF_1 : Fr m w w_1 := by rw [ew_1]; exact (Fr.set hF0 (by omega) (by omega))
  refine r_aload_n hC dX9_playerCount_5 rfl (j := 0) rfl ?_
  refine r_get hC gX9_playerCount_6 hf1_m (v := .ref (m + 1)) rfl ?_
  refine r_iconst hC dX9_playerCount_9 (v := 0) (by decide) ?_
  refine r_iald hC dX9_playerCount_10 (j := 0) hf1__m___1_ ⟨by decide, by decide, by decide⟩ ?_
  rw [show enc ((f, g, sl, op, lo), hd, rs, np, tp, av, lg, pl, tk) 0 = nI np from rfl]
  refine r_iret hC hE hR dX9_playerCount_11 (by omega) (by omega) (hF_1.1) ?_
  exact ⟨rfl, ⟨⟨_, _, _, _, _, _, _, _, _, hf1_m, hf1__m___1_, hf1__m___2_, hf1__m___3_, hf1__m___4_, hf1__m___5_, hf1__m___6_, hf1__m___7_, hf1__m___8_, hf1__m___9_, hf1__m___10_, hpo, hso⟩, hF_1⟩⟩
set_option maxRecDepth 100000 in
set_option maxHeartbeats 4000000 in
theorem sm_criticalSlope {d : Nat} {w : mW} {m : Nat} {th : Int32} {f g : Nat → Int32} {sl op lo : Int32} {hd rs : Nat → Int32} {np : Nat} {tp av lg pl tk : Int32} {l : List sv} {ea fa : Int32} {so : Option sv} {tx : Nat → Int32} {tn : Nat} {lf : Nat → Int32} {ln : Nat} (H : MdAt w m th ((f, g, sl, op, lo), hd, rs, np, tp, av, lg, pl, tk) l ea fa so tx tn lf ln)  : Sp d yX9_criticalSlope cX9_criticalSlope 1 (some .int) [.ref m] w 0 0 (fun v w' => (v = some (.int sl) ∧ MdTo w w' m 0 ((f, g, sl, op, lo), hd, rs, np, tp, av, lg, pl, tk) l ea fa so tx tn lf ln)) noX := by
  refine Sp.of (by decide +kernel) (Nat.le_of_ble_eq_true rfl) (fun X hC hnl hE hR hN => ?_)
  have hC : Cx X RX9 cX9_criticalSlope d 0 0 := hC
  show Wp X 0 0 w [(0, .ref m)] [] 0
  obtain ⟨he, en, iw, id0, bf, sf, kf, pf, lt, hm, hv, hbf, hsf, hkf, hpf, htx, hlf, hlt, hwd, hwa, hpo, hso⟩ := H
  have hF0 : Fr m w w := Fr.rfl
  refine r_aload_n hC dX9_criticalSlope_0 rfl (j := 0) rfl ?_
  refine r_iconst hC dX9_criticalSlope_1 (v := 0) (by decide) ?_
  refine r_put' hC pX9_criticalSlope_2 hm (Nat.le_of_ble_eq_true rfl) (fun _ => rfl) (fun _ => rfl) (fun w_1 ew_1 => ?_)
  replace ew_1 : w_1 = (w).set (m) (mO 10 [.int 0, .int (nI l.length), .int ea, .int fa, .int (bI so.isSome), .ref (m + 1), .ref (m + 2), .ref (m + 3), .ref (m + 4), .ref (m + 5), .ref (m + 6), .ref (m + 7), .ref (m + 8), .ref (m + 9), .ref (m + 10), .int (nI tn), .int he, .int en, .int (nI ln), .int iw, .int id0]) := ew_1
  have hf1_m : w_1[m]? = some (mO 10 [.int 0, .int (nI l.length), .int ea, .int fa, .int (bI so.isSome), .ref (m + 1), .ref (m + 2), .ref (m + 3), .ref (m + 4), .ref (m + 5), .ref (m + 6), .ref (m + 7), .ref (m + 8), .ref (m + 9), .ref (m + 10), .int (nI tn), .int he, .int en, .int (nI ln), .int iw, .int id0]) := by rw [ew_1]; exact List.getElem?_set_self (lt_of_get hm)
  have hf1__m___1_ : w_1[(m + 1)]? = some (mI 0 67 (enc ((f, g, sl, op, lo), hd, rs, np, tp, av, lg, pl, tk))) := by rw [ew_1, List.getElem?_set_ne (by omega)]; exact hv
  have hf1__m___2_ : w_1[(m + 2)]? = some (mI 0 67 bf) := by rw [ew_1, List.getElem?_set_ne (by omega)]; exact hbf
  have hf1__m___3_ : w_1[(m + 3)]? = some (mI 0 67 sf) := by rw [ew_1, List.getElem?_set_ne (by omega)]; exact hsf
  have hf1__m___4_ : w_1[(m + 4)]? = some (mI 0 67 kf) := by rw [ew_1, List.getElem?_set_ne (by omega)]; exact hkf
  have hf1__m___5_ : w_1[(m + 5)]? = some (mI 0 536 pf) := by rw [ew_1, List.getElem?_set_ne (by omega)]; exact hpf
  have hf1__m___6_ : w_1[(m + 6)]? = some (mI 0 60 tx) := by rw [ew_1, List.getElem?_set_ne (by omega)]; exact htx
  have hf1__m___7_ : w_1[(m + 7)]? = some (mI 0 40 lf) := by rw [ew_1, List.getElem?_set_ne (by omega)]; exact hlf
  have hf1__m___8_ : w_1[(m + 8)]? = some (mI 0 8 lt) := by rw [ew_1, List.getElem?_set_ne (by omega)]; exact hlt
  have hf1__m___9_ : w_1[(m + 9)]? = some (mI 0 41 wdF) := by rw [ew_1, List.getElem?_set_ne (by omega)]; exact hwd
  have hf1__m___10_ : w_1[(m + 10)]? = some (mI 0 9 waF) := by rw [ew_1, List.getElem?_set_ne (by omega)]; exact hwa
  have hF_1 : Fr m w w_1 := by rw [ew_1]; exact (Fr.set hF0 (by omega) (by omega))
  refine r_aload_n hC dX9_criticalSlope_5 rfl (j := 0) rfl ?_
  refine r_get hC gX9_criticalSlope_6 hf1_m (v := .ref (m + 1)) rfl ?_
  refine r_iconst hC dX9_criticalSlope_9 (v := 1) (by decide) ?_
  refine r_iald hC dX9_criticalSlope_10 (j := 1) hf1__m___1_ ⟨by decide, by decide, by decide⟩ ?_
  rw [show enc ((f, g, sl, op, lo), hd, rs, np, tp, av, lg, pl, tk) 1 = sl from rfl]
  refine r_iret hC hE hR dX9_criticalSlope_11 (by omega) (by omega) (hF_1.1) ?_
  exact ⟨rfl, ⟨⟨_, _, _, _, _, _, _, _, _, hf1_m, hf1__m___1_, hf1__m___2_, hf1__m___3_, hf1__m___4_, hf1__m___5_, hf1__m___6_, hf1__m___7_, hf1__m___8_, hf1__m___9_, hf1__m___10_, hpo, hso⟩, hF_1⟩⟩
set_option maxRecDepth 100000 in
set_option maxHeartbeats 4000000 in
theorem sm_isBorderOpen {d : Nat} {w : mW} {m : Nat} {th : Int32} {f g : Nat → Int32} {sl op lo : Int32} {hd rs : Nat → Int32} {np : Nat} {tp av lg pl tk : Int32} {l : List sv} {ea fa : Int32} {so : Option sv} {tx : Nat → Int32} {tn : Nat} {lf : Nat → Int32} {ln : Nat} (H : MdAt w m th ((f, g, sl, op, lo), hd, rs, np, tp, av, lg, pl, tk) l ea fa so tx tn lf ln) (hop : op = 0 ∨ op = 1) : Sp d yX9_isBorderOpen cX9_isBorderOpen 1 (some .boolean) [.ref m] w 0 0 (fun v w' => (v = some (.int op) ∧ MdTo w w' m 0 ((f, g, sl, op, lo), hd, rs, np, tp, av, lg, pl, tk) l ea fa so tx tn lf ln)) noX := by
  refine Sp.of (by decide +kernel) (Nat.le_of_ble_eq_true rfl) (fun X hC hnl hE hR hN => ?_)
  have hC : Cx X RX9 cX9_isBorderOpen d 0 0 := hC
  show Wp X 0 0 w [(0, .ref m)] [] 0
  obtain ⟨he, en, iw, id0, bf, sf, kf, pf, lt, hm, hv, hbf, hsf, hkf, hpf, htx, hlf, hlt, hwd, hwa, hpo, hso⟩ := H
  have hF0 : Fr m w w := Fr.rfl
  refine r_aload_n hC dX9_isBorderOpen_0 rfl (j := 0) rfl ?_
  refine r_iconst hC dX9_isBorderOpen_1 (v := 0) (by decide) ?_
  refine r_put' hC pX9_isBorderOpen_2 hm (Nat.le_of_ble_eq_true rfl) (fun _ => rfl) (fun _ => rfl) (fun w_1 ew_1 => ?_)
  replace ew_1 : w_1 = (w).set (m) (mO 10 [.int 0, .int (nI l.length), .int ea, .int fa, .int (bI so.isSome), .ref (m + 1), .ref (m + 2), .ref (m + 3), .ref (m + 4), .ref (m + 5), .ref (m + 6), .ref (m + 7), .ref (m + 8), .ref (m + 9), .ref (m + 10), .int (nI tn), .int he, .int en, .int (nI ln), .int iw, .int id0]) := ew_1
  have hf1_m : w_1[m]? = some (mO 10 [.int 0, .int (nI l.length), .int ea, .int fa, .int (bI so.isSome), .ref (m + 1), .ref (m + 2), .ref (m + 3), .ref (m + 4), .ref (m + 5), .ref (m + 6), .ref (m + 7), .ref (m + 8), .ref (m + 9), .ref (m + 10), .int (nI tn), .int he, .int en, .int (nI ln), .int iw, .int id0]) := by rw [ew_1]; exact List.getElem?_set_self (lt_of_get hm)
  have hf1__m___1_ : w_1[(m + 1)]? = some (mI 0 67 (enc ((f, g, sl, op, lo), hd, rs, np, tp, av, lg, pl, tk))) := by rw [ew_1, List.getElem?_set_ne (by omega)]; exact hv
  have hf1__m___2_ : w_1[(m + 2)]? = some (mI 0 67 bf) := by rw [ew_1, List.getElem?_set_ne (by omega)]; exact hbf
  have hf1__m___3_ : w_1[(m + 3)]? = some (mI 0 67 sf) := by rw [ew_1, List.getElem?_set_ne (by omega)]; exact hsf
  have hf1__m___4_ : w_1[(m + 4)]? = some (mI 0 67 kf) := by rw [ew_1, List.getElem?_set_ne (by omega)]; exact hkf
  have hf1__m___5_ : w_1[(m + 5)]? = some (mI 0 536 pf) := by rw [ew_1, List.getElem?_set_ne (by omega)]; exact hpf
  have hf1__m___6_ : w_1[(m + 6)]? = some (mI 0 60 tx) := by rw [ew_1, List.getElem?_set_ne (by omega)]; exact htx
  have hf1__m___7_ : w_1[(m + 7)]? = some (mI 0 40 lf) := by rw [ew_1, List.getElem?_set_ne (by omega)]; exact hlf
  have hf1__m___8_ : w_1[(m + 8)]? = some (mI 0 8 lt) := by rw [ew_1, List.getElem?_set_ne (by omega)]; exact hlt
  have hf1__m___9_ : w_1[(m + 9)]? = some (mI 0 41 wdF) := by rw [ew_1, List.getElem?_set_ne (by omega)]; exact hwd
  have hf1__m___10_ : w_1[(m + 10)]? = some (mI 0 9 waF) := by rw [ew_1, List.getElem?_set_ne (by omega)]; exact hwa
  have hF_1 : Fr m w w_1 := by rw [ew_1]; exact (Fr.set hF0 (by omega) (by omega))
  refine r_aload_n hC dX9_isBorderOpen_5 rfl (j := 0) rfl ?_
  refine r_get hC gX9_isBorderOpen_6 hf1_m (v := .ref (m + 1)) rfl ?_
  refine r_iconst hC dX9_isBorderOpen_9 (v := 2) (by decide) ?_
  refine r_iald hC dX9_isBorderOpen_10 (j := 2) hf1__m___1_ ⟨by decide, by decide, by decide⟩ ?_
  rw [show enc ((f, g, sl, op, lo), hd, rs, np, tp, av, lg, pl, tk) 2 = op from rfl]
  refine r_iconst hC dX9_isBorderOpen_11 (v := 1) (by decide) ?_
  refine r_icmp_ne hC dX9_isBorderOpen_12 (tgt := 19) (by decide) (fun c12 => ?_) (fun c12 => ?_)
  · refine r_iconst hC dX9_isBorderOpen_19 (v := 0) (by decide) ?_
    refine r_nret hC hE hR dX9_isBorderOpen_20 (by decide) (by omega) (by omega) (hF_1.1) ?_
    exact ⟨(by rw [show op = 0 from hop.resolve_right c12]), ⟨⟨_, _, _, _, _, _, _, _, _, hf1_m, hf1__m___1_, hf1__m___2_, hf1__m___3_, hf1__m___4_, hf1__m___5_, hf1__m___6_, hf1__m___7_, hf1__m___8_, hf1__m___9_, hf1__m___10_, hpo, hso⟩, hF_1⟩⟩
  · refine r_iconst hC dX9_isBorderOpen_15 (v := 1) (by decide) ?_
    refine r_goto hC dX9_isBorderOpen_16 (tgt := 20) (by decide) ?_
    refine r_nret hC hE hR dX9_isBorderOpen_20 (by decide) (by omega) (by omega) (hF_1.1) ?_
    exact ⟨(by rw [show op = 1 from c12]), ⟨⟨_, _, _, _, _, _, _, _, _, hf1_m, hf1__m___1_, hf1__m___2_, hf1__m___3_, hf1__m___4_, hf1__m___5_, hf1__m___6_, hf1__m___7_, hf1__m___8_, hf1__m___9_, hf1__m___10_, hpo, hso⟩, hF_1⟩⟩
set_option maxRecDepth 100000 in
set_option maxHeartbeats 4000000 in
theorem sm_tells3 {d : Nat} {w : mW} {m : Nat} {th : Int32} {f g : Nat → Int32} {sl op lo : Int32} {hd rs : Nat → Int32} {np : Nat} {tp av lg pl tk : Int32} {l : List sv} {ea fa : Int32} {so : Option sv} {tx : Nat → Int32} {tn : Nat} {lf : Nat → Int32} {ln : Nat} (H : MdAt w m th ((f, g, sl, op, lo), hd, rs, np, tp, av, lg, pl, tk) l ea fa so tx tn lf ln)  : Sp d yX9_tells cX9_tells 2 (some .int) [.ref m, .int 3] w 0 0 (fun v w' => (v = some (.int tp) ∧ MdTo w w' m 0 ((f, g, sl, op, lo), hd, rs, np, tp, av, lg, pl, tk) l ea fa so tx tn lf ln)) noX := by
  refine Sp.of (by decide +kernel) (Nat.le_of_ble_eq_true rfl) (fun X hC hnl hE hR hN => ?_)
  have hC : Cx X RX9 cX9_tells d 0 0 := hC
  show Wp X 0 0 w [(0, .ref m), (1, .int 3)] [] 0
  obtain ⟨he, en, iw, id0, bf, sf, kf, pf, lt, hm, hv, hbf, hsf, hkf, hpf, htx, hlf, hlt, hwd, hwa, hpo, hso⟩ := H
  have hF0 : Fr m w w := Fr.rfl
  refine r_aload_n hC dX9_tells_0 rfl (j := 0) rfl ?_
  refine r_iconst hC dX9_tells_1 (v := 0) (by decide) ?_
  refine r_put' hC pX9_tells_2 hm (Nat.le_of_ble_eq_true rfl) (fun _ => rfl) (fun _ => rfl) (fun w_1 ew_1 => ?_)
  replace ew_1 : w_1 = (w).set (m) (mO 10 [.int 0, .int (nI l.length), .int ea, .int fa, .int (bI so.isSome), .ref (m + 1), .ref (m + 2), .ref (m + 3), .ref (m + 4), .ref (m + 5), .ref (m + 6), .ref (m + 7), .ref (m + 8), .ref (m + 9), .ref (m + 10), .int (nI tn), .int he, .int en, .int (nI ln), .int iw, .int id0]) := ew_1
  have hf1_m : w_1[m]? = some (mO 10 [.int 0, .int (nI l.length), .int ea, .int fa, .int (bI so.isSome), .ref (m + 1), .ref (m + 2), .ref (m + 3), .ref (m + 4), .ref (m + 5), .ref (m + 6), .ref (m + 7), .ref (m + 8), .ref (m + 9), .ref (m + 10), .int (nI tn), .int he, .int en, .int (nI ln), .int iw, .int id0]) := by rw [ew_1]; exact List.getElem?_set_self (lt_of_get hm)
  have hf1__m___1_ : w_1[(m + 1)]? = some (mI 0 67 (enc ((f, g, sl, op, lo), hd, rs, np, tp, av, lg, pl, tk))) := by rw [ew_1, List.getElem?_set_ne (by omega)]; exact hv
  have hf1__m___2_ : w_1[(m + 2)]? = some (mI 0 67 bf) := by rw [ew_1, List.getElem?_set_ne (by omega)]; exact hbf
  have hf1__m___3_ : w_1[(m + 3)]? = some (mI 0 67 sf) := by rw [ew_1, List.getElem?_set_ne (by omega)]; exact hsf
  have hf1__m___4_ : w_1[(m + 4)]? = some (mI 0 67 kf) := by rw [ew_1, List.getElem?_set_ne (by omega)]; exact hkf
  have hf1__m___5_ : w_1[(m + 5)]? = some (mI 0 536 pf) := by rw [ew_1, List.getElem?_set_ne (by omega)]; exact hpf
  have hf1__m___6_ : w_1[(m + 6)]? = some (mI 0 60 tx) := by rw [ew_1, List.getElem?_set_ne (by omega)]; exact htx
  have hf1__m___7_ : w_1[(m + 7)]? = some (mI 0 40 lf) := by rw [ew_1, List.getElem?_set_ne (by omega)]; exact hlf
  have hf1__m___8_ : w_1[(m + 8)]? = some (mI 0 8 lt) := by rw [ew_1, List.getElem?_set_ne (by omega)]; exact hlt
  have hf1__m___9_ : w_1[(m + 9)]? = some (mI 0 41 wdF) := by rw [ew_1, List.getElem?_set_ne (by omega)]; exact hwd
  have hf1__m___10_ : w_1[(m + 10)]? = some (mI 0 9 waF) := by rw [ew_1, List.getElem?_set_ne (by omega)]; exact hwa
  have hF_1 : Fr m w w_1 := by rw [ew_1]; exact (Fr.set hF0 (by omega) (by omega))
  refine r_aload_n hC dX9_tells_5 rfl (j := 0) rfl ?_
  refine r_get hC gX9_tells_6 hf1_m (v := .ref (m + 1)) rfl ?_
  refine r_iload_n hC dX9_tells_9 rfl (j := 1) rfl ?_
  refine r_iald hC dX9_tells_10 (j := 3) hf1__m___1_ ⟨by decide, by decide, by decide⟩ ?_
  rw [show enc ((f, g, sl, op, lo), hd, rs, np, tp, av, lg, pl, tk) 3 = tp from rfl]
  refine r_iret hC hE hR dX9_tells_11 (by omega) (by omega) (hF_1.1) ?_
  exact ⟨rfl, ⟨⟨_, _, _, _, _, _, _, _, _, hf1_m, hf1__m___1_, hf1__m___2_, hf1__m___3_, hf1__m___4_, hf1__m___5_, hf1__m___6_, hf1__m___7_, hf1__m___8_, hf1__m___9_, hf1__m___10_, hpo, hso⟩, hF_1⟩⟩
set_option maxRecDepth 100000 in
set_option maxHeartbeats 4000000 in
theorem sm_tells4 {d : Nat} {w : mW} {m : Nat} {th : Int32} {f g : Nat → Int32} {sl op lo : Int32} {hd rs : Nat → Int32} {np : Nat} {tp av lg pl tk : Int32} {l : List sv} {ea fa : Int32} {so : Option sv} {tx : Nat → Int32} {tn : Nat} {lf : Nat → Int32} {ln : Nat} (H : MdAt w m th ((f, g, sl, op, lo), hd, rs, np, tp, av, lg, pl, tk) l ea fa so tx tn lf ln)  : Sp d yX9_tells cX9_tells 2 (some .int) [.ref m, .int 4] w 0 0 (fun v w' => (v = some (.int av) ∧ MdTo w w' m 0 ((f, g, sl, op, lo), hd, rs, np, tp, av, lg, pl, tk) l ea fa so tx tn lf ln)) noX := by
  refine Sp.of (by decide +kernel) (Nat.le_of_ble_eq_true rfl) (fun X hC hnl hE hR hN => ?_)
  have hC : Cx X RX9 cX9_tells d 0 0 := hC
  show Wp X 0 0 w [(0, .ref m), (1, .int 4)] [] 0
  obtain ⟨he, en, iw, id0, bf, sf, kf, pf, lt, hm, hv, hbf, hsf, hkf, hpf, htx, hlf, hlt, hwd, hwa, hpo, hso⟩ := H
  have hF0 : Fr m w w := Fr.rfl
  refine r_aload_n hC dX9_tells_0 rfl (j := 0) rfl ?_
  refine r_iconst hC dX9_tells_1 (v := 0) (by decide) ?_
  refine r_put' hC pX9_tells_2 hm (Nat.le_of_ble_eq_true rfl) (fun _ => rfl) (fun _ => rfl) (fun w_1 ew_1 => ?_)
  replace ew_1 : w_1 = (w).set (m) (mO 10 [.int 0, .int (nI l.length), .int ea, .int fa, .int (bI so.isSome), .ref (m + 1), .ref (m + 2), .ref (m + 3), .ref (m + 4), .ref (m + 5), .ref (m + 6), .ref (m + 7), .ref (m + 8), .ref (m + 9), .ref (m + 10), .int (nI tn), .int he, .int en, .int (nI ln), .int iw, .int id0]) := ew_1
  have hf1_m : w_1[m]? = some (mO 10 [.int 0, .int (nI l.length), .int ea, .int fa, .int (bI so.isSome), .ref (m + 1), .ref (m + 2), .ref (m + 3), .ref (m + 4), .ref (m + 5), .ref (m + 6), .ref (m + 7), .ref (m + 8), .ref (m + 9), .ref (m + 10), .int (nI tn), .int he, .int en, .int (nI ln), .int iw, .int id0]) := by rw [ew_1]; exact List.getElem?_set_self (lt_of_get hm)
  have hf1__m___1_ : w_1[(m + 1)]? = some (mI 0 67 (enc ((f, g, sl, op, lo), hd, rs, np, tp, av, lg, pl, tk))) := by rw [ew_1, List.getElem?_set_ne (by omega)]; exact hv
  have hf1__m___2_ : w_1[(m + 2)]? = some (mI 0 67 bf) := by rw [ew_1, List.getElem?_set_ne (by omega)]; exact hbf
  have hf1__m___3_ : w_1[(m + 3)]? = some (mI 0 67 sf) := by rw [ew_1, List.getElem?_set_ne (by omega)]; exact hsf
  have hf1__m___4_ : w_1[(m + 4)]? = some (mI 0 67 kf) := by rw [ew_1, List.getElem?_set_ne (by omega)]; exact hkf
  have hf1__m___5_ : w_1[(m + 5)]? = some (mI 0 536 pf) := by rw [ew_1, List.getElem?_set_ne (by omega)]; exact hpf
  have hf1__m___6_ : w_1[(m + 6)]? = some (mI 0 60 tx) := by rw [ew_1, List.getElem?_set_ne (by omega)]; exact htx
  have hf1__m___7_ : w_1[(m + 7)]? = some (mI 0 40 lf) := by rw [ew_1, List.getElem?_set_ne (by omega)]; exact hlf
  have hf1__m___8_ : w_1[(m + 8)]? = some (mI 0 8 lt) := by rw [ew_1, List.getElem?_set_ne (by omega)]; exact hlt
  have hf1__m___9_ : w_1[(m + 9)]? = some (mI 0 41 wdF) := by rw [ew_1, List.getElem?_set_ne (by omega)]; exact hwd
  have hf1__m___10_ : w_1[(m + 10)]? = some (mI 0 9 waF) := by rw [ew_1, List.getElem?_set_ne (by omega)]; exact hwa
  have hF_1 : Fr m w w_1 := by rw [ew_1]; exact (Fr.set hF0 (by omega) (by omega))
  refine r_aload_n hC dX9_tells_5 rfl (j := 0) rfl ?_
  refine r_get hC gX9_tells_6 hf1_m (v := .ref (m + 1)) rfl ?_
  refine r_iload_n hC dX9_tells_9 rfl (j := 1) rfl ?_
  refine r_iald hC dX9_tells_10 (j := 4) hf1__m___1_ ⟨by decide, by decide, by decide⟩ ?_
  rw [show enc ((f, g, sl, op, lo), hd, rs, np, tp, av, lg, pl, tk) 4 = av from rfl]
  refine r_iret hC hE hR dX9_tells_11 (by omega) (by omega) (hF_1.1) ?_
  exact ⟨rfl, ⟨⟨_, _, _, _, _, _, _, _, _, hf1_m, hf1__m___1_, hf1__m___2_, hf1__m___3_, hf1__m___4_, hf1__m___5_, hf1__m___6_, hf1__m___7_, hf1__m___8_, hf1__m___9_, hf1__m___10_, hpo, hso⟩, hF_1⟩⟩
set_option maxRecDepth 100000 in
set_option maxHeartbeats 4000000 in
theorem sm_tells5 {d : Nat} {w : mW} {m : Nat} {th : Int32} {f g : Nat → Int32} {sl op lo : Int32} {hd rs : Nat → Int32} {np : Nat} {tp av lg pl tk : Int32} {l : List sv} {ea fa : Int32} {so : Option sv} {tx : Nat → Int32} {tn : Nat} {lf : Nat → Int32} {ln : Nat} (H : MdAt w m th ((f, g, sl, op, lo), hd, rs, np, tp, av, lg, pl, tk) l ea fa so tx tn lf ln)  : Sp d yX9_tells cX9_tells 2 (some .int) [.ref m, .int 5] w 0 0 (fun v w' => (v = some (.int lg) ∧ MdTo w w' m 0 ((f, g, sl, op, lo), hd, rs, np, tp, av, lg, pl, tk) l ea fa so tx tn lf ln)) noX := by
  refine Sp.of (by decide +kernel) (Nat.le_of_ble_eq_true rfl) (fun X hC hnl hE hR hN => ?_)
  have hC : Cx X RX9 cX9_tells d 0 0 := hC
  show Wp X 0 0 w [(0, .ref m), (1, .int 5)] [] 0
  obtain ⟨he, en, iw, id0, bf, sf, kf, pf, lt, hm, hv, hbf, hsf, hkf, hpf, htx, hlf, hlt, hwd, hwa, hpo, hso⟩ := H
  have hF0 : Fr m w w := Fr.rfl
  refine r_aload_n hC dX9_tells_0 rfl (j := 0) rfl ?_
  refine r_iconst hC dX9_tells_1 (v := 0) (by decide) ?_
  refine r_put' hC pX9_tells_2 hm (Nat.le_of_ble_eq_true rfl) (fun _ => rfl) (fun _ => rfl) (fun w_1 ew_1 => ?_)
  replace ew_1 : w_1 = (w).set (m) (mO 10 [.int 0, .int (nI l.length), .int ea, .int fa, .int (bI so.isSome), .ref (m + 1), .ref (m + 2), .ref (m + 3), .ref (m + 4), .ref (m + 5), .ref (m + 6), .ref (m + 7), .ref (m + 8), .ref (m + 9), .ref (m + 10), .int (nI tn), .int he, .int en, .int (nI ln), .int iw, .int id0]) := ew_1
  have hf1_m : w_1[m]? = some (mO 10 [.int 0, .int (nI l.length), .int ea, .int fa, .int (bI so.isSome), .ref (m + 1), .ref (m + 2), .ref (m + 3), .ref (m + 4), .ref (m + 5), .ref (m + 6), .ref (m + 7), .ref (m + 8), .ref (m + 9), .ref (m + 10), .int (nI tn), .int he, .int en, .int (nI ln), .int iw, .int id0]) := by rw [ew_1]; exact List.getElem?_set_self (lt_of_get hm)
  have hf1__m___1_ : w_1[(m + 1)]? = some (mI 0 67 (enc ((f, g, sl, op, lo), hd, rs, np, tp, av, lg, pl, tk))) := by rw [ew_1, List.getElem?_set_ne (by omega)]; exact hv
  have hf1__m___2_ : w_1[(m + 2)]? = some (mI 0 67 bf) := by rw [ew_1, List.getElem?_set_ne (by omega)]; exact hbf
  have hf1__m___3_ : w_1[(m + 3)]? = some (mI 0 67 sf) := by rw [ew_1, List.getElem?_set_ne (by omega)]; exact hsf
  have hf1__m___4_ : w_1[(m + 4)]? = some (mI 0 67 kf) := by rw [ew_1, List.getElem?_set_ne (by omega)]; exact hkf
  have hf1__m___5_ : w_1[(m + 5)]? = some (mI 0 536 pf) := by rw [ew_1, List.getElem?_set_ne (by omega)]; exact hpf
  have hf1__m___6_ : w_1[(m + 6)]? = some (mI 0 60 tx) := by rw [ew_1, List.getElem?_set_ne (by omega)]; exact htx
  have hf1__m___7_ : w_1[(m + 7)]? = some (mI 0 40 lf) := by rw [ew_1, List.getElem?_set_ne (by omega)]; exact hlf
  have hf1__m___8_ : w_1[(m + 8)]? = some (mI 0 8 lt) := by rw [ew_1, List.getElem?_set_ne (by omega)]; exact hlt
  have hf1__m___9_ : w_1[(m + 9)]? = some (mI 0 41 wdF) := by rw [ew_1, List.getElem?_set_ne (by omega)]; exact hwd
  have hf1__m___10_ : w_1[(m + 10)]? = some (mI 0 9 waF) := by rw [ew_1, List.getElem?_set_ne (by omega)]; exact hwa
  have hF_1 : Fr m w w_1 := by rw [ew_1]; exact (Fr.set hF0 (by omega) (by omega))
  refine r_aload_n hC dX9_tells_5 rfl (j := 0) rfl ?_
  refine r_get hC gX9_tells_6 hf1_m (v := .ref (m + 1)) rfl ?_
  refine r_iload_n hC dX9_tells_9 rfl (j := 1) rfl ?_
  refine r_iald hC dX9_tells_10 (j := 5) hf1__m___1_ ⟨by decide, by decide, by decide⟩ ?_
  rw [show enc ((f, g, sl, op, lo), hd, rs, np, tp, av, lg, pl, tk) 5 = lg from rfl]
  refine r_iret hC hE hR dX9_tells_11 (by omega) (by omega) (hF_1.1) ?_
  exact ⟨rfl, ⟨⟨_, _, _, _, _, _, _, _, _, hf1_m, hf1__m___1_, hf1__m___2_, hf1__m___3_, hf1__m___4_, hf1__m___5_, hf1__m___6_, hf1__m___7_, hf1__m___8_, hf1__m___9_, hf1__m___10_, hpo, hso⟩, hF_1⟩⟩
set_option maxRecDepth 100000 in
set_option maxHeartbeats 4000000 in
theorem sm_tells6 {d : Nat} {w : mW} {m : Nat} {th : Int32} {f g : Nat → Int32} {sl op lo : Int32} {hd rs : Nat → Int32} {np : Nat} {tp av lg pl tk : Int32} {l : List sv} {ea fa : Int32} {so : Option sv} {tx : Nat → Int32} {tn : Nat} {lf : Nat → Int32} {ln : Nat} (H : MdAt w m th ((f, g, sl, op, lo), hd, rs, np, tp, av, lg, pl, tk) l ea fa so tx tn lf ln)  : Sp d yX9_tells cX9_tells 2 (some .int) [.ref m, .int 6] w 0 0 (fun v w' => (v = some (.int pl) ∧ MdTo w w' m 0 ((f, g, sl, op, lo), hd, rs, np, tp, av, lg, pl, tk) l ea fa so tx tn lf ln)) noX := by
  refine Sp.of (by decide +kernel) (Nat.le_of_ble_eq_true rfl) (fun X hC hnl hE hR hN => ?_)
  have hC : Cx X RX9 cX9_tells d 0 0 := hC
  show Wp X 0 0 w [(0, .ref m), (1, .int 6)] [] 0
  obtain ⟨he, en, iw, id0, bf, sf, kf, pf, lt, hm, hv, hbf, hsf, hkf, hpf, htx, hlf, hlt, hwd, hwa, hpo, hso⟩ := H
  have hF0 : Fr m w w := Fr.rfl
  refine r_aload_n hC dX9_tells_0 rfl (j := 0) rfl ?_
  refine r_iconst hC dX9_tells_1 (v := 0) (by decide) ?_
  refine r_put' hC pX9_tells_2 hm (Nat.le_of_ble_eq_true rfl) (fun _ => rfl) (fun _ => rfl) (fun w_1 ew_1 => ?_)
  replace ew_1 : w_1 = (w).set (m) (mO 10 [.int 0, .int (nI l.length), .int ea, .int fa, .int (bI so.isSome), .ref (m + 1), .ref (m + 2), .ref (m + 3), .ref (m + 4), .ref (m + 5), .ref (m + 6), .ref (m + 7), .ref (m + 8), .ref (m + 9), .ref (m + 10), .int (nI tn), .int he, .int en, .int (nI ln), .int iw, .int id0]) := ew_1
  have hf1_m : w_1[m]? = some (mO 10 [.int 0, .int (nI l.length), .int ea, .int fa, .int (bI so.isSome), .ref (m + 1), .ref (m + 2), .ref (m + 3), .ref (m + 4), .ref (m + 5), .ref (m + 6), .ref (m + 7), .ref (m + 8), .ref (m + 9), .ref (m + 10), .int (nI tn), .int he, .int en, .int (nI ln), .int iw, .int id0]) := by rw [ew_1]; exact List.getElem?_set_self (lt_of_get hm)
  have hf1__m___1_ : w_1[(m + 1)]? = some (mI 0 67 (enc ((f, g, sl, op, lo), hd, rs, np, tp, av, lg, pl, tk))) := by rw [ew_1, List.getElem?_set_ne (by omega)]; exact hv
  have hf1__m___2_ : w_1[(m + 2)]? = some (mI 0 67 bf) := by rw [ew_1, List.getElem?_set_ne (by omega)]; exact hbf
  have hf1__m___3_ : w_1[(m + 3)]? = some (mI 0 67 sf) := by rw [ew_1, List.getElem?_set_ne (by omega)]; exact hsf
  have hf1__m___4_ : w_1[(m + 4)]? = some (mI 0 67 kf) := by rw [ew_1, List.getElem?_set_ne (by omega)]; exact hkf
  have hf1__m___5_ : w_1[(m + 5)]? = some (mI 0 536 pf) := by rw [ew_1, List.getElem?_set_ne (by omega)]; exact hpf
  have hf1__m___6_ : w_1[(m + 6)]? = some (mI 0 60 tx) := by rw [ew_1, List.getElem?_set_ne (by omega)]; exact htx
  have hf1__m___7_ : w_1[(m + 7)]? = some (mI 0 40 lf) := by rw [ew_1, List.getElem?_set_ne (by omega)]; exact hlf
  have hf1__m___8_ : w_1[(m + 8)]? = some (mI 0 8 lt) := by rw [ew_1, List.getElem?_set_ne (by omega)]; exact hlt
  have hf1__m___9_ : w_1[(m + 9)]? = some (mI 0 41 wdF) := by rw [ew_1, List.getElem?_set_ne (by omega)]; exact hwd
  have hf1__m___10_ : w_1[(m + 10)]? = some (mI 0 9 waF) := by rw [ew_1, List.getElem?_set_ne (by omega)]; exact hwa
  have hF_1 : Fr m w w_1 := by rw [ew_1]; exact (Fr.set hF0 (by omega) (by omega))
  refine r_aload_n hC dX9_tells_5 rfl (j := 0) rfl ?_
  refine r_get hC gX9_tells_6 hf1_m (v := .ref (m + 1)) rfl ?_
  refine r_iload_n hC dX9_tells_9 rfl (j := 1) rfl ?_
  refine r_iald hC dX9_tells_10 (j := 6) hf1__m___1_ ⟨by decide, by decide, by decide⟩ ?_
  rw [show enc ((f, g, sl, op, lo), hd, rs, np, tp, av, lg, pl, tk) 6 = pl from rfl]
  refine r_iret hC hE hR dX9_tells_11 (by omega) (by omega) (hF_1.1) ?_
  exact ⟨rfl, ⟨⟨_, _, _, _, _, _, _, _, _, hf1_m, hf1__m___1_, hf1__m___2_, hf1__m___3_, hf1__m___4_, hf1__m___5_, hf1__m___6_, hf1__m___7_, hf1__m___8_, hf1__m___9_, hf1__m___10_, hpo, hso⟩, hF_1⟩⟩
set_option maxRecDepth 100000 in
set_option maxHeartbeats 4000000 in
theorem sm_tells7 {d : Nat} {w : mW} {m : Nat} {th : Int32} {f g : Nat → Int32} {sl op lo : Int32} {hd rs : Nat → Int32} {np : Nat} {tp av lg pl tk : Int32} {l : List sv} {ea fa : Int32} {so : Option sv} {tx : Nat → Int32} {tn : Nat} {lf : Nat → Int32} {ln : Nat} (H : MdAt w m th ((f, g, sl, op, lo), hd, rs, np, tp, av, lg, pl, tk) l ea fa so tx tn lf ln)  : Sp d yX9_tells cX9_tells 2 (some .int) [.ref m, .int 7] w 0 0 (fun v w' => (v = some (.int lo) ∧ MdTo w w' m 0 ((f, g, sl, op, lo), hd, rs, np, tp, av, lg, pl, tk) l ea fa so tx tn lf ln)) noX := by
  refine Sp.of (by decide +kernel) (Nat.le_of_ble_eq_true rfl) (fun X hC hnl hE hR hN => ?_)
  have hC : Cx X RX9 cX9_tells d 0 0 := hC
  show Wp X 0 0 w [(0, .ref m), (1, .int 7)] [] 0
  obtain ⟨he, en, iw, id0, bf, sf, kf, pf, lt, hm, hv, hbf, hsf, hkf, hpf, htx, hlf, hlt, hwd, hwa, hpo, hso⟩ := H
  have hF0 : Fr m w w := Fr.rfl
  refine r_aload_n hC dX9_tells_0 rfl (j := 0) rfl ?_
  refine r_iconst hC dX9_tells_1 (v := 0) (by decide) ?_
  refine r_put' hC pX9_tells_2 hm (Nat.le_of_ble_eq_true rfl) (fun _ => rfl) (fun _ => rfl) (fun w_1 ew_1 => ?_)
  replace ew_1 : w_1 = (w).set (m) (mO 10 [.int 0, .int (nI l.length), .int ea, .int fa, .int (bI so.isSome), .ref (m + 1), .ref (m + 2), .ref (m + 3), .ref (m + 4), .ref (m + 5), .ref (m + 6), .ref (m + 7), .ref (m + 8), .ref (m + 9), .ref (m + 10), .int (nI tn), .int he, .int en, .int (nI ln), .int iw, .int id0]) := ew_1
  have hf1_m : w_1[m]? = some (mO 10 [.int 0, .int (nI l.length), .int ea, .int fa, .int (bI so.isSome), .ref (m + 1), .ref (m + 2), .ref (m + 3), .ref (m + 4), .ref (m + 5), .ref (m + 6), .ref (m + 7), .ref (m + 8), .ref (m + 9), .ref (m + 10), .int (nI tn), .int he, .int en, .int (nI ln), .int iw, .int id0]) := by rw [ew_1]; exact List.getElem?_set_self (lt_of_get hm)
  have hf1__m___1_ : w_1[(m + 1)]? = some (mI 0 67 (enc ((f, g, sl, op, lo), hd, rs, np, tp, av, lg, pl, tk))) := by rw [ew_1, List.getElem?_set_ne (by omega)]; exact hv
  have hf1__m___2_ : w_1[(m + 2)]? = some (mI 0 67 bf) := by rw [ew_1, List.getElem?_set_ne (by omega)]; exact hbf
  have hf1__m___3_ : w_1[(m + 3)]? = some (mI 0 67 sf) := by rw [ew_1, List.getElem?_set_ne (by omega)]; exact hsf
  have hf1__m___4_ : w_1[(m + 4)]? = some (mI 0 67 kf) := by rw [ew_1, List.getElem?_set_ne (by omega)]; exact hkf
  have hf1__m___5_ : w_1[(m + 5)]? = some (mI 0 536 pf) := by rw [ew_1, List.getElem?_set_ne (by omega)]; exact hpf
  have hf1__m___6_ : w_1[(m + 6)]? = some (mI 0 60 tx) := by rw [ew_1, List.getElem?_set_ne (by omega)]; exact htx
  have hf1__m___7_ : w_1[(m + 7)]? = some (mI 0 40 lf) := by rw [ew_1, List.getElem?_set_ne (by omega)]; exact hlf
  have hf1__m___8_ : w_1[(m + 8)]? = some (mI 0 8 lt) := by rw [ew_1, List.getElem?_set_ne (by omega)]; exact hlt
  have hf1__m___9_ : w_1[(m + 9)]? = some (mI 0 41 wdF) := by rw [ew_1, List.getElem?_set_ne (by omega)]; exact hwd
  have hf1__m___10_ : w_1[(m + 10)]? = some (mI 0 9 waF) := by rw [ew_1, List.getElem?_set_ne (by omega)]; exact hwa
  have hF_1 : Fr m w w_1 := by rw [ew_1]; exact (Fr.set hF0 (by omega) (by omega))
  refine r_aload_n hC dX9_tells_5 rfl (j := 0) rfl ?_
  refine r_get hC gX9_tells_6 hf1_m (v := .ref (m + 1)) rfl ?_
  refine r_iload_n hC dX9_tells_9 rfl (j := 1) rfl ?_
  refine r_iald hC dX9_tells_10 (j := 7) hf1__m___1_ ⟨by decide, by decide, by decide⟩ ?_
  rw [show enc ((f, g, sl, op, lo), hd, rs, np, tp, av, lg, pl, tk) 7 = lo from rfl]
  refine r_iret hC hE hR dX9_tells_11 (by omega) (by omega) (hF_1.1) ?_
  exact ⟨rfl, ⟨⟨_, _, _, _, _, _, _, _, _, hf1_m, hf1__m___1_, hf1__m___2_, hf1__m___3_, hf1__m___4_, hf1__m___5_, hf1__m___6_, hf1__m___7_, hf1__m___8_, hf1__m___9_, hf1__m___10_, hpo, hso⟩, hF_1⟩⟩
set_option maxRecDepth 100000 in
set_option maxHeartbeats 4000000 in
theorem sm_tells8 {d : Nat} {w : mW} {m : Nat} {th : Int32} {f g : Nat → Int32} {sl op lo : Int32} {hd rs : Nat → Int32} {np : Nat} {tp av lg pl tk : Int32} {l : List sv} {ea fa : Int32} {so : Option sv} {tx : Nat → Int32} {tn : Nat} {lf : Nat → Int32} {ln : Nat} (H : MdAt w m th ((f, g, sl, op, lo), hd, rs, np, tp, av, lg, pl, tk) l ea fa so tx tn lf ln)  : Sp d yX9_tells cX9_tells 2 (some .int) [.ref m, .int 8] w 0 0 (fun v w' => (v = some (.int tk) ∧ MdTo w w' m 0 ((f, g, sl, op, lo), hd, rs, np, tp, av, lg, pl, tk) l ea fa so tx tn lf ln)) noX := by
  refine Sp.of (by decide +kernel) (Nat.le_of_ble_eq_true rfl) (fun X hC hnl hE hR hN => ?_)
  have hC : Cx X RX9 cX9_tells d 0 0 := hC
  show Wp X 0 0 w [(0, .ref m), (1, .int 8)] [] 0
  obtain ⟨he, en, iw, id0, bf, sf, kf, pf, lt, hm, hv, hbf, hsf, hkf, hpf, htx, hlf, hlt, hwd, hwa, hpo, hso⟩ := H
  have hF0 : Fr m w w := Fr.rfl
  refine r_aload_n hC dX9_tells_0 rfl (j := 0) rfl ?_
  refine r_iconst hC dX9_tells_1 (v := 0) (by decide) ?_
  refine r_put' hC pX9_tells_2 hm (Nat.le_of_ble_eq_true rfl) (fun _ => rfl) (fun _ => rfl) (fun w_1 ew_1 => ?_)
  replace ew_1 : w_1 = (w).set (m) (mO 10 [.int 0, .int (nI l.length), .int ea, .int fa, .int (bI so.isSome), .ref (m + 1), .ref (m + 2), .ref (m + 3), .ref (m + 4), .ref (m + 5), .ref (m + 6), .ref (m + 7), .ref (m + 8), .ref (m + 9), .ref (m + 10), .int (nI tn), .int he, .int en, .int (nI ln), .int iw, .int id0]) := ew_1
  have hf1_m : w_1[m]? = some (mO 10 [.int 0, .int (nI l.length), .int ea, .int fa, .int (bI so.isSome), .ref (m + 1), .ref (m + 2), .ref (m + 3), .ref (m + 4), .ref (m + 5), .ref (m + 6), .ref (m + 7), .ref (m + 8), .ref (m + 9), .ref (m + 10), .int (nI tn), .int he, .int en, .int (nI ln), .int iw, .int id0]) := by rw [ew_1]; exact List.getElem?_set_self (lt_of_get hm)
  have hf1__m___1_ : w_1[(m + 1)]? = some (mI 0 67 (enc ((f, g, sl, op, lo), hd, rs, np, tp, av, lg, pl, tk))) := by rw [ew_1, List.getElem?_set_ne (by omega)]; exact hv
  have hf1__m___2_ : w_1[(m + 2)]? = some (mI 0 67 bf) := by rw [ew_1, List.getElem?_set_ne (by omega)]; exact hbf
  have hf1__m___3_ : w_1[(m + 3)]? = some (mI 0 67 sf) := by rw [ew_1, List.getElem?_set_ne (by omega)]; exact hsf
  have hf1__m___4_ : w_1[(m + 4)]? = some (mI 0 67 kf) := by rw [ew_1, List.getElem?_set_ne (by omega)]; exact hkf
  have hf1__m___5_ : w_1[(m + 5)]? = some (mI 0 536 pf) := by rw [ew_1, List.getElem?_set_ne (by omega)]; exact hpf
  have hf1__m___6_ : w_1[(m + 6)]? = some (mI 0 60 tx) := by rw [ew_1, List.getElem?_set_ne (by omega)]; exact htx
  have hf1__m___7_ : w_1[(m + 7)]? = some (mI 0 40 lf) := by rw [ew_1, List.getElem?_set_ne (by omega)]; exact hlf
  have hf1__m___8_ : w_1[(m + 8)]? = some (mI 0 8 lt) := by rw [ew_1, List.getElem?_set_ne (by omega)]; exact hlt
  have hf1__m___9_ : w_1[(m + 9)]? = some (mI 0 41 wdF) := by rw [ew_1, List.getElem?_set_ne (by omega)]; exact hwd
  have hf1__m___10_ : w_1[(m + 10)]? = some (mI 0 9 waF) := by rw [ew_1, List.getElem?_set_ne (by omega)]; exact hwa
  have hF_1 : Fr m w w_1 := by rw [ew_1]; exact (Fr.set hF0 (by omega) (by omega))
  refine r_aload_n hC dX9_tells_5 rfl (j := 0) rfl ?_
  refine r_get hC gX9_tells_6 hf1_m (v := .ref (m + 1)) rfl ?_
  refine r_iload_n hC dX9_tells_9 rfl (j := 1) rfl ?_
  refine r_iald hC dX9_tells_10 (j := 8) hf1__m___1_ ⟨by decide, by decide, by decide⟩ ?_
  rw [show enc ((f, g, sl, op, lo), hd, rs, np, tp, av, lg, pl, tk) 8 = tk from rfl]
  refine r_iret hC hE hR dX9_tells_11 (by omega) (by omega) (hF_1.1) ?_
  exact ⟨rfl, ⟨⟨_, _, _, _, _, _, _, _, _, hf1_m, hf1__m___1_, hf1__m___2_, hf1__m___3_, hf1__m___4_, hf1__m___5_, hf1__m___6_, hf1__m___7_, hf1__m___8_, hf1__m___9_, hf1__m___10_, hpo, hso⟩, hF_1⟩⟩
set_option maxRecDepth 100000 in
set_option maxHeartbeats 4000000 in
theorem sm_hand {d : Nat} {q : Int32} {w : mW} {m : Nat} {th : Int32} {f g : Nat → Int32} {sl op lo : Int32} {hd rs : Nat → Int32} {np : Nat} {tp av lg pl tk : Int32} {l : List sv} {ea fa : Int32} {so : Option sv} {tx : Nat → Int32} {tn : Nat} {lf : Nat → Int32} {ln : Nat} (H : MdAt w m th ((f, g, sl, op, lo), hd, rs, np, tp, av, lg, pl, tk) l ea fa so tx tn lf ln) (hnp : np ≤ 4) : Sp (d + 2) yX9_hand cX9_hand 2 (some .int) [.ref m, .int q] w 0 0 (fun v w' => (isP q np = true ∧ v = some (.int (hd q.toNatClampNeg)) ∧ MdTo w w' m 0 ((f, g, sl, op, lo), hd, rs, np, tp, av, lg, pl, tk) l ea fa so tx tn lf ln) ∨ (isP q np = false ∧ v = some (.int 0) ∧ MdTo w w' m 1 ((f, g, sl, op, lo), hd, rs, np, tp, av, lg, pl, tk) l ea fa so tx tn lf ln)) noX := by
  refine Sp.of (by decide +kernel) (Nat.le_of_ble_eq_true rfl) (fun X hC hnl hE hR hN => ?_)
  have hC : Cx X RX9 cX9_hand (d + 2) 0 0 := hC
  show Wp X 0 0 w [(0, .ref m), (1, .int q)] [] 0
  obtain ⟨he, en, iw, id0, bf, sf, kf, pf, lt, hm, hv, hbf, hsf, hkf, hpf, htx, hlf, hlt, hwd, hwa, hpo, hso⟩ := H
  have hF0 : Fr m w w := Fr.rfl
  refine r_aload_n hC dX9_hand_0 rfl (j := 0) rfl ?_
  refine r_aload_n hC dX9_hand_1 rfl (j := 0) rfl ?_
  refine r_iload_n hC dX9_hand_2 rfl (j := 1) rfl ?_
  refine r_callV hC (vs := [.int q]) vX9_hand_3 (sm_isPlayer (d := d) hm hv hnp) hm rfl rfl (by omega) (by omega) (by omega) (Nat.le_of_ble_eq_true rfl) (fun v_1 w_1 hP_1 hlen_1 => ?_) (fun _ _ h => h.elim)
  rw [hP_1.1, hP_1.2]
  show Wp X 0 0 w [(0, .ref m), (1, .int q)] [.int (bI (isP q np)), .ref m] 6
  refine r_if_eq hC dX9_hand_6 (tgt := 13) (by decide) (fun c6 => ?_) (fun c6 => ?_)
  · refine r_iconst hC dX9_hand_13 (v := 1) (by decide) ?_
    refine r_put' hC pX9_hand_14 hm (Nat.le_of_ble_eq_true rfl) (fun _ => rfl) (fun _ => rfl) (fun w_2 ew_2 => ?_)
    replace ew_2 : w_2 = (w).set (m) (mO 10 [.int 1, .int (nI l.length), .int ea, .int fa, .int (bI so.isSome), .ref (m + 1), .ref (m + 2), .ref (m + 3), .ref (m + 4), .ref (m + 5), .ref (m + 6), .ref (m + 7), .ref (m + 8), .ref (m + 9), .ref (m + 10), .int (nI tn), .int he, .int en, .int (nI ln), .int iw, .int id0]) := ew_2
    have hf2_m : w_2[m]? = some (mO 10 [.int 1, .int (nI l.length), .int ea, .int fa, .int (bI so.isSome), .ref (m + 1), .ref (m + 2), .ref (m + 3), .ref (m + 4), .ref (m + 5), .ref (m + 6), .ref (m + 7), .ref (m + 8), .ref (m + 9), .ref (m + 10), .int (nI tn), .int he, .int en, .int (nI ln), .int iw, .int id0]) := by rw [ew_2]; exact List.getElem?_set_self (lt_of_get hm)
    have hf2__m___1_ : w_2[(m + 1)]? = some (mI 0 67 (enc ((f, g, sl, op, lo), hd, rs, np, tp, av, lg, pl, tk))) := by rw [ew_2, List.getElem?_set_ne (by omega)]; exact hv
    have hf2__m___2_ : w_2[(m + 2)]? = some (mI 0 67 bf) := by rw [ew_2, List.getElem?_set_ne (by omega)]; exact hbf
    have hf2__m___3_ : w_2[(m + 3)]? = some (mI 0 67 sf) := by rw [ew_2, List.getElem?_set_ne (by omega)]; exact hsf
    have hf2__m___4_ : w_2[(m + 4)]? = some (mI 0 67 kf) := by rw [ew_2, List.getElem?_set_ne (by omega)]; exact hkf
    have hf2__m___5_ : w_2[(m + 5)]? = some (mI 0 536 pf) := by rw [ew_2, List.getElem?_set_ne (by omega)]; exact hpf
    have hf2__m___6_ : w_2[(m + 6)]? = some (mI 0 60 tx) := by rw [ew_2, List.getElem?_set_ne (by omega)]; exact htx
    have hf2__m___7_ : w_2[(m + 7)]? = some (mI 0 40 lf) := by rw [ew_2, List.getElem?_set_ne (by omega)]; exact hlf
    have hf2__m___8_ : w_2[(m + 8)]? = some (mI 0 8 lt) := by rw [ew_2, List.getElem?_set_ne (by omega)]; exact hlt
    have hf2__m___9_ : w_2[(m + 9)]? = some (mI 0 41 wdF) := by rw [ew_2, List.getElem?_set_ne (by omega)]; exact hwd
    have hf2__m___10_ : w_2[(m + 10)]? = some (mI 0 9 waF) := by rw [ew_2, List.getElem?_set_ne (by omega)]; exact hwa
    have hF_2 : Fr m w w_2 := by rw [ew_2]; exact (Fr.set hF0 (by omega) (by omega))
    refine r_aload_n hC dX9_hand_17 rfl (j := 0) rfl ?_
    refine r_get hC gX9_hand_18 hf2_m (v := .int 1) rfl ?_
    refine r_if_ne hC dX9_hand_21 (tgt := 36) (by decide) (fun _ => ?_) (fun h => absurd h (by decide))
    refine r_iconst hC dX9_hand_36 (v := 0) (by decide) ?_
    refine r_iret hC hE hR dX9_hand_37 (by omega) (by omega) (hF_2.1) ?_
    exact (Or.inr ⟨(bI_0.mp c6), rfl, ⟨⟨_, _, _, _, _, _, _, _, _, hf2_m, hf2__m___1_, hf2__m___2_, hf2__m___3_, hf2__m___4_, hf2__m___5_, hf2__m___6_, hf2__m___7_, hf2__m___8_, hf2__m___9_, hf2__m___10_, hpo, hso⟩, hF_2⟩⟩)
  · refine r_iconst hC dX9_hand_9 (v := 0) (by decide) ?_
    refine r_goto hC dX9_hand_10 (tgt := 14) (by decide) ?_
    refine r_put' hC pX9_hand_14 hm (Nat.le_of_ble_eq_true rfl) (fun _ => rfl) (fun _ => rfl) (fun w_3 ew_3 => ?_)
    replace ew_3 : w_3 = (w).set (m) (mO 10 [.int 0, .int (nI l.length), .int ea, .int fa, .int (bI so.isSome), .ref (m + 1), .ref (m + 2), .ref (m + 3), .ref (m + 4), .ref (m + 5), .ref (m + 6), .ref (m + 7), .ref (m + 8), .ref (m + 9), .ref (m + 10), .int (nI tn), .int he, .int en, .int (nI ln), .int iw, .int id0]) := ew_3
    have hf3_m : w_3[m]? = some (mO 10 [.int 0, .int (nI l.length), .int ea, .int fa, .int (bI so.isSome), .ref (m + 1), .ref (m + 2), .ref (m + 3), .ref (m + 4), .ref (m + 5), .ref (m + 6), .ref (m + 7), .ref (m + 8), .ref (m + 9), .ref (m + 10), .int (nI tn), .int he, .int en, .int (nI ln), .int iw, .int id0]) := by rw [ew_3]; exact List.getElem?_set_self (lt_of_get hm)
    have hf3__m___1_ : w_3[(m + 1)]? = some (mI 0 67 (enc ((f, g, sl, op, lo), hd, rs, np, tp, av, lg, pl, tk))) := by rw [ew_3, List.getElem?_set_ne (by omega)]; exact hv
    have hf3__m___2_ : w_3[(m + 2)]? = some (mI 0 67 bf) := by rw [ew_3, List.getElem?_set_ne (by omega)]; exact hbf
    have hf3__m___3_ : w_3[(m + 3)]? = some (mI 0 67 sf) := by rw [ew_3, List.getElem?_set_ne (by omega)]; exact hsf
    have hf3__m___4_ : w_3[(m + 4)]? = some (mI 0 67 kf) := by rw [ew_3, List.getElem?_set_ne (by omega)]; exact hkf
    have hf3__m___5_ : w_3[(m + 5)]? = some (mI 0 536 pf) := by rw [ew_3, List.getElem?_set_ne (by omega)]; exact hpf
    have hf3__m___6_ : w_3[(m + 6)]? = some (mI 0 60 tx) := by rw [ew_3, List.getElem?_set_ne (by omega)]; exact htx
    have hf3__m___7_ : w_3[(m + 7)]? = some (mI 0 40 lf) := by rw [ew_3, List.getElem?_set_ne (by omega)]; exact hlf
    have hf3__m___8_ : w_3[(m + 8)]? = some (mI 0 8 lt) := by rw [ew_3, List.getElem?_set_ne (by omega)]; exact hlt
    have hf3__m___9_ : w_3[(m + 9)]? = some (mI 0 41 wdF) := by rw [ew_3, List.getElem?_set_ne (by omega)]; exact hwd
    have hf3__m___10_ : w_3[(m + 10)]? = some (mI 0 9 waF) := by rw [ew_3, List.getElem?_set_ne (by omega)]; exact hwa
    have hF_3 : Fr m w w_3 := by rw [ew_3]; exact (Fr.set hF0 (by omega) (by omega))
    refine r_aload_n hC dX9_hand_17 rfl (j := 0) rfl ?_
    refine r_get hC gX9_hand_18 hf3_m (v := .int 0) rfl ?_
    refine r_if_ne hC dX9_hand_21 (tgt := 36) (by decide) (fun h => absurd (by decide) h) (fun _ => ?_)
    have p1 : isP q np = true := bI_ne.mp c6
    have hb9 := isP_lt p1 hnp
    have hb8 : q.toNatClampNeg < 4 := by have := hb9.1; omega
    rw [show Wp X 0 0 w_3 [(0, .ref m), (1, .int q)] [] 24 = Wp X 0 0 w_3 [(0, .ref m), (1, .int (nI q.toNatClampNeg))] [] 24 from by rw [← hb9.2]]
    refine r_aload_n hC dX9_hand_24 rfl (j := 0) rfl ?_
    refine r_get hC gX9_hand_25 hf3_m (v := .ref (m + 1)) rfl ?_
    refine r_bipush hC dX9_hand_28 (v := 9) (by decide) ?_
    refine r_iload_n hC dX9_hand_30 rfl (j := 1) rfl ?_
    refine r_iadd hC dX9_hand_31 ?_
    refine r_iald hC dX9_hand_32 (j := (9 + q.toNatClampNeg)) hf3__m___1_ (ix9 (c := q.toNatClampNeg) (by omega)) ?_
    rw [enc_hand (c := q.toNatClampNeg) (by omega)]
    refine r_goto hC dX9_hand_33 (tgt := 37) (by decide) ?_
    refine r_iret hC hE hR dX9_hand_37 (by omega) (by omega) (hF_3.1) ?_
    exact (Or.inl ⟨p1, rfl, ⟨⟨_, _, _, _, _, _, _, _, _, hf3_m, hf3__m___1_, hf3__m___2_, hf3__m___3_, hf3__m___4_, hf3__m___5_, hf3__m___6_, hf3__m___7_, hf3__m___8_, hf3__m___9_, hf3__m___10_, hpo, hso⟩, hF_3⟩⟩)
set_option maxRecDepth 100000 in
set_option maxHeartbeats 4000000 in
theorem sm_rest {d : Nat} {q : Int32} {w : mW} {m : Nat} {th : Int32} {f g : Nat → Int32} {sl op lo : Int32} {hd rs : Nat → Int32} {np : Nat} {tp av lg pl tk : Int32} {l : List sv} {ea fa : Int32} {so : Option sv} {tx : Nat → Int32} {tn : Nat} {lf : Nat → Int32} {ln : Nat} (H : MdAt w m th ((f, g, sl, op, lo), hd, rs, np, tp, av, lg, pl, tk) l ea fa so tx tn lf ln) (hnp : np ≤ 4) : Sp (d + 2) yX9_rest cX9_rest 2 (some .int) [.ref m, .int q] w 0 0 (fun v w' => (isP q np = true ∧ v = some (.int (rs q.toNatClampNeg)) ∧ MdTo w w' m 0 ((f, g, sl, op, lo), hd, rs, np, tp, av, lg, pl, tk) l ea fa so tx tn lf ln) ∨ (isP q np = false ∧ v = some (.int 0) ∧ MdTo w w' m 1 ((f, g, sl, op, lo), hd, rs, np, tp, av, lg, pl, tk) l ea fa so tx tn lf ln)) noX := by
  refine Sp.of (by decide +kernel) (Nat.le_of_ble_eq_true rfl) (fun X hC hnl hE hR hN => ?_)
  have hC : Cx X RX9 cX9_rest (d + 2) 0 0 := hC
  show Wp X 0 0 w [(0, .ref m), (1, .int q)] [] 0
  obtain ⟨he, en, iw, id0, bf, sf, kf, pf, lt, hm, hv, hbf, hsf, hkf, hpf, htx, hlf, hlt, hwd, hwa, hpo, hso⟩ := H
  have hF0 : Fr m w w := Fr.rfl
  refine r_aload_n hC dX9_rest_0 rfl (j := 0) rfl ?_
  refine r_aload_n hC dX9_rest_1 rfl (j := 0) rfl ?_
  refine r_iload_n hC dX9_rest_2 rfl (j := 1) rfl ?_
  refine r_callV hC (vs := [.int q]) vX9_rest_3 (sm_isPlayer (d := d) hm hv hnp) hm rfl rfl (by omega) (by omega) (by omega) (Nat.le_of_ble_eq_true rfl) (fun v_1 w_1 hP_1 hlen_1 => ?_) (fun _ _ h => h.elim)
  rw [hP_1.1, hP_1.2]
  show Wp X 0 0 w [(0, .ref m), (1, .int q)] [.int (bI (isP q np)), .ref m] 6
  refine r_if_eq hC dX9_rest_6 (tgt := 13) (by decide) (fun c6 => ?_) (fun c6 => ?_)
  · refine r_iconst hC dX9_rest_13 (v := 1) (by decide) ?_
    refine r_put' hC pX9_rest_14 hm (Nat.le_of_ble_eq_true rfl) (fun _ => rfl) (fun _ => rfl) (fun w_2 ew_2 => ?_)
    replace ew_2 : w_2 = (w).set (m) (mO 10 [.int 1, .int (nI l.length), .int ea, .int fa, .int (bI so.isSome), .ref (m + 1), .ref (m + 2), .ref (m + 3), .ref (m + 4), .ref (m + 5), .ref (m + 6), .ref (m + 7), .ref (m + 8), .ref (m + 9), .ref (m + 10), .int (nI tn), .int he, .int en, .int (nI ln), .int iw, .int id0]) := ew_2
    have hf2_m : w_2[m]? = some (mO 10 [.int 1, .int (nI l.length), .int ea, .int fa, .int (bI so.isSome), .ref (m + 1), .ref (m + 2), .ref (m + 3), .ref (m + 4), .ref (m + 5), .ref (m + 6), .ref (m + 7), .ref (m + 8), .ref (m + 9), .ref (m + 10), .int (nI tn), .int he, .int en, .int (nI ln), .int iw, .int id0]) := by rw [ew_2]; exact List.getElem?_set_self (lt_of_get hm)
    have hf2__m___1_ : w_2[(m + 1)]? = some (mI 0 67 (enc ((f, g, sl, op, lo), hd, rs, np, tp, av, lg, pl, tk))) := by rw [ew_2, List.getElem?_set_ne (by omega)]; exact hv
    have hf2__m___2_ : w_2[(m + 2)]? = some (mI 0 67 bf) := by rw [ew_2, List.getElem?_set_ne (by omega)]; exact hbf
    have hf2__m___3_ : w_2[(m + 3)]? = some (mI 0 67 sf) := by rw [ew_2, List.getElem?_set_ne (by omega)]; exact hsf
    have hf2__m___4_ : w_2[(m + 4)]? = some (mI 0 67 kf) := by rw [ew_2, List.getElem?_set_ne (by omega)]; exact hkf
    have hf2__m___5_ : w_2[(m + 5)]? = some (mI 0 536 pf) := by rw [ew_2, List.getElem?_set_ne (by omega)]; exact hpf
    have hf2__m___6_ : w_2[(m + 6)]? = some (mI 0 60 tx) := by rw [ew_2, List.getElem?_set_ne (by omega)]; exact htx
    have hf2__m___7_ : w_2[(m + 7)]? = some (mI 0 40 lf) := by rw [ew_2, List.getElem?_set_ne (by omega)]; exact hlf
    have hf2__m___8_ : w_2[(m + 8)]? = some (mI 0 8 lt) := by rw [ew_2, List.getElem?_set_ne (by omega)]; exact hlt
    have hf2__m___9_ : w_2[(m + 9)]? = some (mI 0 41 wdF) := by rw [ew_2, List.getElem?_set_ne (by omega)]; exact hwd
    have hf2__m___10_ : w_2[(m + 10)]? = some (mI 0 9 waF) := by rw [ew_2, List.getElem?_set_ne (by omega)]; exact hwa
    have hF_2 : Fr m w w_2 := by rw [ew_2]; exact (Fr.set hF0 (by omega) (by omega))
    refine r_aload_n hC dX9_rest_17 rfl (j := 0) rfl ?_
    refine r_get hC gX9_rest_18 hf2_m (v := .int 1) rfl ?_
    refine r_if_ne hC dX9_rest_21 (tgt := 36) (by decide) (fun _ => ?_) (fun h => absurd h (by decide))
    refine r_iconst hC dX9_rest_36 (v := 0) (by decide) ?_
    refine r_iret hC hE hR dX9_rest_37 (by omega) (by omega) (hF_2.1) ?_
    exact (Or.inr ⟨(bI_0.mp c6), rfl, ⟨⟨_, _, _, _, _, _, _, _, _, hf2_m, hf2__m___1_, hf2__m___2_, hf2__m___3_, hf2__m___4_, hf2__m___5_, hf2__m___6_, hf2__m___7_, hf2__m___8_, hf2__m___9_, hf2__m___10_, hpo, hso⟩, hF_2⟩⟩)
  · refine r_iconst hC dX9_rest_9 (v := 0) (by decide) ?_
    refine r_goto hC dX9_rest_10 (tgt := 14) (by decide) ?_
    refine r_put' hC pX9_rest_14 hm (Nat.le_of_ble_eq_true rfl) (fun _ => rfl) (fun _ => rfl) (fun w_3 ew_3 => ?_)
    replace ew_3 : w_3 = (w).set (m) (mO 10 [.int 0, .int (nI l.length), .int ea, .int fa, .int (bI so.isSome), .ref (m + 1), .ref (m + 2), .ref (m + 3), .ref (m + 4), .ref (m + 5), .ref (m + 6), .ref (m + 7), .ref (m + 8), .ref (m + 9), .ref (m + 10), .int (nI tn), .int he, .int en, .int (nI ln), .int iw, .int id0]) := ew_3
    have hf3_m : w_3[m]? = some (mO 10 [.int 0, .int (nI l.length), .int ea, .int fa, .int (bI so.isSome), .ref (m + 1), .ref (m + 2), .ref (m + 3), .ref (m + 4), .ref (m + 5), .ref (m + 6), .ref (m + 7), .ref (m + 8), .ref (m + 9), .ref (m + 10), .int (nI tn), .int he, .int en, .int (nI ln), .int iw, .int id0]) := by rw [ew_3]; exact List.getElem?_set_self (lt_of_get hm)
    have hf3__m___1_ : w_3[(m + 1)]? = some (mI 0 67 (enc ((f, g, sl, op, lo), hd, rs, np, tp, av, lg, pl, tk))) := by rw [ew_3, List.getElem?_set_ne (by omega)]; exact hv
    have hf3__m___2_ : w_3[(m + 2)]? = some (mI 0 67 bf) := by rw [ew_3, List.getElem?_set_ne (by omega)]; exact hbf
    have hf3__m___3_ : w_3[(m + 3)]? = some (mI 0 67 sf) := by rw [ew_3, List.getElem?_set_ne (by omega)]; exact hsf
    have hf3__m___4_ : w_3[(m + 4)]? = some (mI 0 67 kf) := by rw [ew_3, List.getElem?_set_ne (by omega)]; exact hkf
    have hf3__m___5_ : w_3[(m + 5)]? = some (mI 0 536 pf) := by rw [ew_3, List.getElem?_set_ne (by omega)]; exact hpf
    have hf3__m___6_ : w_3[(m + 6)]? = some (mI 0 60 tx) := by rw [ew_3, List.getElem?_set_ne (by omega)]; exact htx
    have hf3__m___7_ : w_3[(m + 7)]? = some (mI 0 40 lf) := by rw [ew_3, List.getElem?_set_ne (by omega)]; exact hlf
    have hf3__m___8_ : w_3[(m + 8)]? = some (mI 0 8 lt) := by rw [ew_3, List.getElem?_set_ne (by omega)]; exact hlt
    have hf3__m___9_ : w_3[(m + 9)]? = some (mI 0 41 wdF) := by rw [ew_3, List.getElem?_set_ne (by omega)]; exact hwd
    have hf3__m___10_ : w_3[(m + 10)]? = some (mI 0 9 waF) := by rw [ew_3, List.getElem?_set_ne (by omega)]; exact hwa
    have hF_3 : Fr m w w_3 := by rw [ew_3]; exact (Fr.set hF0 (by omega) (by omega))
    refine r_aload_n hC dX9_rest_17 rfl (j := 0) rfl ?_
    refine r_get hC gX9_rest_18 hf3_m (v := .int 0) rfl ?_
    refine r_if_ne hC dX9_rest_21 (tgt := 36) (by decide) (fun h => absurd (by decide) h) (fun _ => ?_)
    have p1 : isP q np = true := bI_ne.mp c6
    have hb9 := isP_lt p1 hnp
    have hb8 : q.toNatClampNeg < 4 := by have := hb9.1; omega
    rw [show Wp X 0 0 w_3 [(0, .ref m), (1, .int q)] [] 24 = Wp X 0 0 w_3 [(0, .ref m), (1, .int (nI q.toNatClampNeg))] [] 24 from by rw [← hb9.2]]
    refine r_aload_n hC dX9_rest_24 rfl (j := 0) rfl ?_
    refine r_get hC gX9_rest_25 hf3_m (v := .ref (m + 1)) rfl ?_
    refine r_bipush hC dX9_rest_28 (v := 13) (by decide) ?_
    refine r_iload_n hC dX9_rest_30 rfl (j := 1) rfl ?_
    refine r_iadd hC dX9_rest_31 ?_
    refine r_iald hC dX9_rest_32 (j := (13 + q.toNatClampNeg)) hf3__m___1_ (ix13 (c := q.toNatClampNeg) (by omega)) ?_
    rw [enc_rest (c := q.toNatClampNeg) (by omega)]
    refine r_goto hC dX9_rest_33 (tgt := 37) (by decide) ?_
    refine r_iret hC hE hR dX9_rest_37 (by omega) (by omega) (hF_3.1) ?_
    exact (Or.inl ⟨p1, rfl, ⟨⟨_, _, _, _, _, _, _, _, _, hf3_m, hf3__m___1_, hf3__m___2_, hf3__m___3_, hf3__m___4_, hf3__m___5_, hf3__m___6_, hf3__m___7_, hf3__m___8_, hf3__m___9_, hf3__m___10_, hpo, hso⟩, hF_3⟩⟩)
set_option maxRecDepth 100000 in
set_option maxHeartbeats 4000000 in
theorem sm_height {d : Nat} {c : Int32} {w : mW} {m : Nat} {th : Int32} {f g : Nat → Int32} {sl op lo : Int32} {hd rs : Nat → Int32} {np : Nat} {tp av lg pl tk : Int32} {l : List sv} {ea fa : Int32} {so : Option sv} {tx : Nat → Int32} {tn : Nat} {lf : Nat → Int32} {ln : Nat} (H : MdAt w m th ((f, g, sl, op, lo), hd, rs, np, tp, av, lg, pl, tk) l ea fa so tx tn lf ln)  : Sp (d + 2) yX9_height cX9_height 2 (some .int) [.ref m, .int c] w 0 0 (fun v w' => (isC c = true ∧ v = some (.int (f c.toNatClampNeg)) ∧ MdTo w w' m 0 ((f, g, sl, op, lo), hd, rs, np, tp, av, lg, pl, tk) l ea fa so tx tn lf ln) ∨ (isC c = false ∧ v = some (.int 0) ∧ MdTo w w' m 1 ((f, g, sl, op, lo), hd, rs, np, tp, av, lg, pl, tk) l ea fa so tx tn lf ln)) noX := by
  refine Sp.of (by decide +kernel) (Nat.le_of_ble_eq_true rfl) (fun X hC hnl hE hR hN => ?_)
  have hC : Cx X RX9 cX9_height (d + 2) 0 0 := hC
  show Wp X 0 0 w [(0, .ref m), (1, .int c)] [] 0
  obtain ⟨he, en, iw, id0, bf, sf, kf, pf, lt, hm, hv, hbf, hsf, hkf, hpf, htx, hlf, hlt, hwd, hwa, hpo, hso⟩ := H
  have hF0 : Fr m w w := Fr.rfl
  refine r_aload_n hC dX9_height_0 rfl (j := 0) rfl ?_
  refine r_iload_n hC dX9_height_1 rfl (j := 1) rfl ?_
  refine r_callS hC (vs := [.int c]) vX9_height_2 (sm_isCell (d := d)) rfl (by omega) (by omega) (by omega) (Nat.le_of_ble_eq_true rfl) (fun v_1 w_1 hP_1 hlen_1 => ?_) (fun _ _ h => h.elim)
  rw [hP_1.1, hP_1.2]
  show Wp X 0 0 w [(0, .ref m), (1, .int c)] [.int (bI (isC c)), .ref m] 5
  refine r_if_eq hC dX9_height_5 (tgt := 12) (by decide) (fun c5 => ?_) (fun c5 => ?_)
  · refine r_iconst hC dX9_height_12 (v := 1) (by decide) ?_
    refine r_put' hC pX9_height_13 hm (Nat.le_of_ble_eq_true rfl) (fun _ => rfl) (fun _ => rfl) (fun w_2 ew_2 => ?_)
    replace ew_2 : w_2 = (w).set (m) (mO 10 [.int 1, .int (nI l.length), .int ea, .int fa, .int (bI so.isSome), .ref (m + 1), .ref (m + 2), .ref (m + 3), .ref (m + 4), .ref (m + 5), .ref (m + 6), .ref (m + 7), .ref (m + 8), .ref (m + 9), .ref (m + 10), .int (nI tn), .int he, .int en, .int (nI ln), .int iw, .int id0]) := ew_2
    have hf2_m : w_2[m]? = some (mO 10 [.int 1, .int (nI l.length), .int ea, .int fa, .int (bI so.isSome), .ref (m + 1), .ref (m + 2), .ref (m + 3), .ref (m + 4), .ref (m + 5), .ref (m + 6), .ref (m + 7), .ref (m + 8), .ref (m + 9), .ref (m + 10), .int (nI tn), .int he, .int en, .int (nI ln), .int iw, .int id0]) := by rw [ew_2]; exact List.getElem?_set_self (lt_of_get hm)
    have hf2__m___1_ : w_2[(m + 1)]? = some (mI 0 67 (enc ((f, g, sl, op, lo), hd, rs, np, tp, av, lg, pl, tk))) := by rw [ew_2, List.getElem?_set_ne (by omega)]; exact hv
    have hf2__m___2_ : w_2[(m + 2)]? = some (mI 0 67 bf) := by rw [ew_2, List.getElem?_set_ne (by omega)]; exact hbf
    have hf2__m___3_ : w_2[(m + 3)]? = some (mI 0 67 sf) := by rw [ew_2, List.getElem?_set_ne (by omega)]; exact hsf
    have hf2__m___4_ : w_2[(m + 4)]? = some (mI 0 67 kf) := by rw [ew_2, List.getElem?_set_ne (by omega)]; exact hkf
    have hf2__m___5_ : w_2[(m + 5)]? = some (mI 0 536 pf) := by rw [ew_2, List.getElem?_set_ne (by omega)]; exact hpf
    have hf2__m___6_ : w_2[(m + 6)]? = some (mI 0 60 tx) := by rw [ew_2, List.getElem?_set_ne (by omega)]; exact htx
    have hf2__m___7_ : w_2[(m + 7)]? = some (mI 0 40 lf) := by rw [ew_2, List.getElem?_set_ne (by omega)]; exact hlf
    have hf2__m___8_ : w_2[(m + 8)]? = some (mI 0 8 lt) := by rw [ew_2, List.getElem?_set_ne (by omega)]; exact hlt
    have hf2__m___9_ : w_2[(m + 9)]? = some (mI 0 41 wdF) := by rw [ew_2, List.getElem?_set_ne (by omega)]; exact hwd
    have hf2__m___10_ : w_2[(m + 10)]? = some (mI 0 9 waF) := by rw [ew_2, List.getElem?_set_ne (by omega)]; exact hwa
    have hF_2 : Fr m w w_2 := by rw [ew_2]; exact (Fr.set hF0 (by omega) (by omega))
    refine r_aload_n hC dX9_height_16 rfl (j := 0) rfl ?_
    refine r_get hC gX9_height_17 hf2_m (v := .int 1) rfl ?_
    refine r_if_ne hC dX9_height_20 (tgt := 35) (by decide) (fun _ => ?_) (fun h => absurd h (by decide))
    refine r_iconst hC dX9_height_35 (v := 0) (by decide) ?_
    refine r_iret hC hE hR dX9_height_36 (by omega) (by omega) (hF_2.1) ?_
    exact (Or.inr ⟨(bI_0.mp c5), rfl, ⟨⟨_, _, _, _, _, _, _, _, _, hf2_m, hf2__m___1_, hf2__m___2_, hf2__m___3_, hf2__m___4_, hf2__m___5_, hf2__m___6_, hf2__m___7_, hf2__m___8_, hf2__m___9_, hf2__m___10_, hpo, hso⟩, hF_2⟩⟩)
  · refine r_iconst hC dX9_height_8 (v := 0) (by decide) ?_
    refine r_goto hC dX9_height_9 (tgt := 13) (by decide) ?_
    refine r_put' hC pX9_height_13 hm (Nat.le_of_ble_eq_true rfl) (fun _ => rfl) (fun _ => rfl) (fun w_3 ew_3 => ?_)
    replace ew_3 : w_3 = (w).set (m) (mO 10 [.int 0, .int (nI l.length), .int ea, .int fa, .int (bI so.isSome), .ref (m + 1), .ref (m + 2), .ref (m + 3), .ref (m + 4), .ref (m + 5), .ref (m + 6), .ref (m + 7), .ref (m + 8), .ref (m + 9), .ref (m + 10), .int (nI tn), .int he, .int en, .int (nI ln), .int iw, .int id0]) := ew_3
    have hf3_m : w_3[m]? = some (mO 10 [.int 0, .int (nI l.length), .int ea, .int fa, .int (bI so.isSome), .ref (m + 1), .ref (m + 2), .ref (m + 3), .ref (m + 4), .ref (m + 5), .ref (m + 6), .ref (m + 7), .ref (m + 8), .ref (m + 9), .ref (m + 10), .int (nI tn), .int he, .int en, .int (nI ln), .int iw, .int id0]) := by rw [ew_3]; exact List.getElem?_set_self (lt_of_get hm)
    have hf3__m___1_ : w_3[(m + 1)]? = some (mI 0 67 (enc ((f, g, sl, op, lo), hd, rs, np, tp, av, lg, pl, tk))) := by rw [ew_3, List.getElem?_set_ne (by omega)]; exact hv
    have hf3__m___2_ : w_3[(m + 2)]? = some (mI 0 67 bf) := by rw [ew_3, List.getElem?_set_ne (by omega)]; exact hbf
    have hf3__m___3_ : w_3[(m + 3)]? = some (mI 0 67 sf) := by rw [ew_3, List.getElem?_set_ne (by omega)]; exact hsf
    have hf3__m___4_ : w_3[(m + 4)]? = some (mI 0 67 kf) := by rw [ew_3, List.getElem?_set_ne (by omega)]; exact hkf
    have hf3__m___5_ : w_3[(m + 5)]? = some (mI 0 536 pf) := by rw [ew_3, List.getElem?_set_ne (by omega)]; exact hpf
    have hf3__m___6_ : w_3[(m + 6)]? = some (mI 0 60 tx) := by rw [ew_3, List.getElem?_set_ne (by omega)]; exact htx
    have hf3__m___7_ : w_3[(m + 7)]? = some (mI 0 40 lf) := by rw [ew_3, List.getElem?_set_ne (by omega)]; exact hlf
    have hf3__m___8_ : w_3[(m + 8)]? = some (mI 0 8 lt) := by rw [ew_3, List.getElem?_set_ne (by omega)]; exact hlt
    have hf3__m___9_ : w_3[(m + 9)]? = some (mI 0 41 wdF) := by rw [ew_3, List.getElem?_set_ne (by omega)]; exact hwd
    have hf3__m___10_ : w_3[(m + 10)]? = some (mI 0 9 waF) := by rw [ew_3, List.getElem?_set_ne (by omega)]; exact hwa
    have hF_3 : Fr m w w_3 := by rw [ew_3]; exact (Fr.set hF0 (by omega) (by omega))
    refine r_aload_n hC dX9_height_16 rfl (j := 0) rfl ?_
    refine r_get hC gX9_height_17 hf3_m (v := .int 0) rfl ?_
    refine r_if_ne hC dX9_height_20 (tgt := 35) (by decide) (fun h => absurd (by decide) h) (fun _ => ?_)
    have p1 : isC c = true := bI_ne.mp c5
    have hb9 := isC_lt p1
    have hb8 := hb9.1
    rw [show Wp X 0 0 w_3 [(0, .ref m), (1, .int c)] [] 23 = Wp X 0 0 w_3 [(0, .ref m), (1, .int (nI c.toNatClampNeg))] [] 23 from by rw [← hb9.2]]
    refine r_aload_n hC dX9_height_23 rfl (j := 0) rfl ?_
    refine r_get hC gX9_height_24 hf3_m (v := .ref (m + 1)) rfl ?_
    refine r_bipush hC dX9_height_27 (v := 17) (by decide) ?_
    refine r_iload_n hC dX9_height_29 rfl (j := 1) rfl ?_
    refine r_iadd hC dX9_height_30 ?_
    refine r_iald hC dX9_height_31 (j := (17 + c.toNatClampNeg)) hf3__m___1_ (ix17 (c := c.toNatClampNeg) (by omega)) ?_
    rw [enc_hi (c := c.toNatClampNeg) (by omega)]
    refine r_goto hC dX9_height_32 (tgt := 36) (by decide) ?_
    refine r_iret hC hE hR dX9_height_36 (by omega) (by omega) (hF_3.1) ?_
    exact (Or.inl ⟨p1, rfl, ⟨⟨_, _, _, _, _, _, _, _, _, hf3_m, hf3__m___1_, hf3__m___2_, hf3__m___3_, hf3__m___4_, hf3__m___5_, hf3__m___6_, hf3__m___7_, hf3__m___8_, hf3__m___9_, hf3__m___10_, hpo, hso⟩, hF_3⟩⟩)
theorem ownz {x : Int32} (h : x + 1 = 0) : x = -1 := by
  have := congrArg (fun z => z - 1) h
  simpa [Int32.add_sub_cancel] using this
set_option maxRecDepth 100000 in
set_option maxHeartbeats 4000000 in
theorem sm_owner {d : Nat} {c : Int32} {w : mW} {m : Nat} {th : Int32} {f g : Nat → Int32} {sl op lo : Int32} {hd rs : Nat → Int32} {np : Nat} {tp av lg pl tk : Int32} {l : List sv} {ea fa : Int32} {so : Option sv} {tx : Nat → Int32} {tn : Nat} {lf : Nat → Int32} {ln : Nat} (H : MdAt w m th ((f, g, sl, op, lo), hd, rs, np, tp, av, lg, pl, tk) l ea fa so tx tn lf ln)  : Sp (d + 2) yX9_owner cX9_owner 2 (some .int) [.ref m, .int c] w 0 0 (fun v w' => ((isC c = true ∧ ¬ g c.toNatClampNeg = -1) ∧ v = some (.int (g c.toNatClampNeg)) ∧ MdTo w w' m 0 ((f, g, sl, op, lo), hd, rs, np, tp, av, lg, pl, tk) l ea fa so tx tn lf ln) ∨ ((isC c = true ∧ g c.toNatClampNeg = -1) ∧ v = some (.int 0) ∧ MdTo w w' m 2 ((f, g, sl, op, lo), hd, rs, np, tp, av, lg, pl, tk) l ea fa so tx tn lf ln) ∨ (isC c = false ∧ v = some (.int 0) ∧ MdTo w w' m 1 ((f, g, sl, op, lo), hd, rs, np, tp, av, lg, pl, tk) l ea fa so tx tn lf ln)) noX := by
  refine Sp.of (by decide +kernel) (Nat.le_of_ble_eq_true rfl) (fun X hC hnl hE hR hN => ?_)
  have hC : Cx X RX9 cX9_owner (d + 2) 0 0 := hC
  show Wp X 0 0 w [(0, .ref m), (1, .int c)] [] 0
  obtain ⟨he, en, iw, id0, bf, sf, kf, pf, lt, hm, hv, hbf, hsf, hkf, hpf, htx, hlf, hlt, hwd, hwa, hpo, hso⟩ := H
  have hF0 : Fr m w w := Fr.rfl
  refine r_aload_n hC dX9_owner_0 rfl (j := 0) rfl ?_
  refine r_iload_n hC dX9_owner_1 rfl (j := 1) rfl ?_
  refine r_callS hC (vs := [.int c]) vX9_owner_2 (sm_isCell (d := d)) rfl (by omega) (by omega) (by omega) (Nat.le_of_ble_eq_true rfl) (fun v_1 w_1 hP_1 hlen_1 => ?_) (fun _ _ h => h.elim)
  rw [hP_1.1, hP_1.2]
  show Wp X 0 0 w [(0, .ref m), (1, .int c)] [.int (bI (isC c)), .ref m] 5
  refine r_if_ne hC dX9_owner_5 (tgt := 12) (by decide) (fun c5 => ?_) (fun c5 => ?_)
  · have p1 : isC c = true := bI_ne.mp c5
    have hb9 := isC_lt p1
    have hb8 := hb9.1
    rw [show Wp X 0 0 w [(0, .ref m), (1, .int c)] [.ref m] 12 = Wp X 0 0 w [(0, .ref m), (1, .int (nI c.toNatClampNeg))] [.ref m] 12 from by rw [← hb9.2]]
    refine r_aload_n hC dX9_owner_12 rfl (j := 0) rfl ?_
    refine r_get hC gX9_owner_13 hm (v := .ref (m + 1)) rfl ?_
    refine r_bipush hC dX9_owner_16 (v := 42) (by decide) ?_
    refine r_iload_n hC dX9_owner_18 rfl (j := 1) rfl ?_
    refine r_iadd hC dX9_owner_19 ?_
    refine r_iald hC dX9_owner_20 (j := (42 + c.toNatClampNeg)) hv (ix42 (c := c.toNatClampNeg) (by omega)) ?_
    rw [enc_ow (c := c.toNatClampNeg) (by omega)]
    refine r_if_ne hC dX9_owner_21 (tgt := 28) (by decide) (fun c21 => ?_) (fun c21 => ?_)
    · refine r_iconst hC dX9_owner_28 (v := 0) (by decide) ?_
      refine r_put' hC pX9_owner_29 hm (Nat.le_of_ble_eq_true rfl) (fun _ => rfl) (fun _ => rfl) (fun w_2 ew_2 => ?_)
      replace ew_2 : w_2 = (w).set (m) (mO 10 [.int 0, .int (nI l.length), .int ea, .int fa, .int (bI so.isSome), .ref (m + 1), .ref (m + 2), .ref (m + 3), .ref (m + 4), .ref (m + 5), .ref (m + 6), .ref (m + 7), .ref (m + 8), .ref (m + 9), .ref (m + 10), .int (nI tn), .int he, .int en, .int (nI ln), .int iw, .int id0]) := ew_2
      have hf2_m : w_2[m]? = some (mO 10 [.int 0, .int (nI l.length), .int ea, .int fa, .int (bI so.isSome), .ref (m + 1), .ref (m + 2), .ref (m + 3), .ref (m + 4), .ref (m + 5), .ref (m + 6), .ref (m + 7), .ref (m + 8), .ref (m + 9), .ref (m + 10), .int (nI tn), .int he, .int en, .int (nI ln), .int iw, .int id0]) := by rw [ew_2]; exact List.getElem?_set_self (lt_of_get hm)
      have hf2__m___1_ : w_2[(m + 1)]? = some (mI 0 67 (enc ((f, g, sl, op, lo), hd, rs, np, tp, av, lg, pl, tk))) := by rw [ew_2, List.getElem?_set_ne (by omega)]; exact hv
      have hf2__m___2_ : w_2[(m + 2)]? = some (mI 0 67 bf) := by rw [ew_2, List.getElem?_set_ne (by omega)]; exact hbf
      have hf2__m___3_ : w_2[(m + 3)]? = some (mI 0 67 sf) := by rw [ew_2, List.getElem?_set_ne (by omega)]; exact hsf
      have hf2__m___4_ : w_2[(m + 4)]? = some (mI 0 67 kf) := by rw [ew_2, List.getElem?_set_ne (by omega)]; exact hkf
      have hf2__m___5_ : w_2[(m + 5)]? = some (mI 0 536 pf) := by rw [ew_2, List.getElem?_set_ne (by omega)]; exact hpf
      have hf2__m___6_ : w_2[(m + 6)]? = some (mI 0 60 tx) := by rw [ew_2, List.getElem?_set_ne (by omega)]; exact htx
      have hf2__m___7_ : w_2[(m + 7)]? = some (mI 0 40 lf) := by rw [ew_2, List.getElem?_set_ne (by omega)]; exact hlf
      have hf2__m___8_ : w_2[(m + 8)]? = some (mI 0 8 lt) := by rw [ew_2, List.getElem?_set_ne (by omega)]; exact hlt
      have hf2__m___9_ : w_2[(m + 9)]? = some (mI 0 41 wdF) := by rw [ew_2, List.getElem?_set_ne (by omega)]; exact hwd
      have hf2__m___10_ : w_2[(m + 10)]? = some (mI 0 9 waF) := by rw [ew_2, List.getElem?_set_ne (by omega)]; exact hwa
      have hF_2 : Fr m w w_2 := by rw [ew_2]; exact (Fr.set hF0 (by omega) (by omega))
      refine r_aload_n hC dX9_owner_32 rfl (j := 0) rfl ?_
      refine r_get hC gX9_owner_33 hf2_m (v := .int 0) rfl ?_
      refine r_if_ne hC dX9_owner_36 (tgt := 53) (by decide) (fun h => absurd (by decide) h) (fun _ => ?_)
      refine r_aload_n hC dX9_owner_39 rfl (j := 0) rfl ?_
      refine r_get hC gX9_owner_40 hf2_m (v := .ref (m + 1)) rfl ?_
      refine r_bipush hC dX9_owner_43 (v := 42) (by decide) ?_
      refine r_iload_n hC dX9_owner_45 rfl (j := 1) rfl ?_
      refine r_iadd hC dX9_owner_46 ?_
      refine r_iald hC dX9_owner_47 (j := (42 + c.toNatClampNeg)) hf2__m___1_ (ix42 (c := c.toNatClampNeg) (by omega)) ?_
      rw [enc_ow (c := c.toNatClampNeg) (by omega)]
      refine r_iconst hC dX9_owner_48 (v := 1) (by decide) ?_
      refine r_isub hC dX9_owner_49 ?_
      refine r_goto hC dX9_owner_50 (tgt := 54) (by decide) ?_
      refine r_iret hC hE hR dX9_owner_54 (by omega) (by omega) (hF_2.1) ?_
      exact (Or.inl ⟨⟨p1, fun z => c21 (by rw [z]; decide)⟩, (by rw [Int32.add_sub_cancel]), ⟨⟨_, _, _, _, _, _, _, _, _, hf2_m, hf2__m___1_, hf2__m___2_, hf2__m___3_, hf2__m___4_, hf2__m___5_, hf2__m___6_, hf2__m___7_, hf2__m___8_, hf2__m___9_, hf2__m___10_, hpo, hso⟩, hF_2⟩⟩)
    · refine r_iconst hC dX9_owner_24 (v := 2) (by decide) ?_
      refine r_goto hC dX9_owner_25 (tgt := 29) (by decide) ?_
      refine r_put' hC pX9_owner_29 hm (Nat.le_of_ble_eq_true rfl) (fun _ => rfl) (fun _ => rfl) (fun w_3 ew_3 => ?_)
      replace ew_3 : w_3 = (w).set (m) (mO 10 [.int 2, .int (nI l.length), .int ea, .int fa, .int (bI so.isSome), .ref (m + 1), .ref (m + 2), .ref (m + 3), .ref (m + 4), .ref (m + 5), .ref (m + 6), .ref (m + 7), .ref (m + 8), .ref (m + 9), .ref (m + 10), .int (nI tn), .int he, .int en, .int (nI ln), .int iw, .int id0]) := ew_3
      have hf3_m : w_3[m]? = some (mO 10 [.int 2, .int (nI l.length), .int ea, .int fa, .int (bI so.isSome), .ref (m + 1), .ref (m + 2), .ref (m + 3), .ref (m + 4), .ref (m + 5), .ref (m + 6), .ref (m + 7), .ref (m + 8), .ref (m + 9), .ref (m + 10), .int (nI tn), .int he, .int en, .int (nI ln), .int iw, .int id0]) := by rw [ew_3]; exact List.getElem?_set_self (lt_of_get hm)
      have hf3__m___1_ : w_3[(m + 1)]? = some (mI 0 67 (enc ((f, g, sl, op, lo), hd, rs, np, tp, av, lg, pl, tk))) := by rw [ew_3, List.getElem?_set_ne (by omega)]; exact hv
      have hf3__m___2_ : w_3[(m + 2)]? = some (mI 0 67 bf) := by rw [ew_3, List.getElem?_set_ne (by omega)]; exact hbf
      have hf3__m___3_ : w_3[(m + 3)]? = some (mI 0 67 sf) := by rw [ew_3, List.getElem?_set_ne (by omega)]; exact hsf
      have hf3__m___4_ : w_3[(m + 4)]? = some (mI 0 67 kf) := by rw [ew_3, List.getElem?_set_ne (by omega)]; exact hkf
      have hf3__m___5_ : w_3[(m + 5)]? = some (mI 0 536 pf) := by rw [ew_3, List.getElem?_set_ne (by omega)]; exact hpf
      have hf3__m___6_ : w_3[(m + 6)]? = some (mI 0 60 tx) := by rw [ew_3, List.getElem?_set_ne (by omega)]; exact htx
      have hf3__m___7_ : w_3[(m + 7)]? = some (mI 0 40 lf) := by rw [ew_3, List.getElem?_set_ne (by omega)]; exact hlf
      have hf3__m___8_ : w_3[(m + 8)]? = some (mI 0 8 lt) := by rw [ew_3, List.getElem?_set_ne (by omega)]; exact hlt
      have hf3__m___9_ : w_3[(m + 9)]? = some (mI 0 41 wdF) := by rw [ew_3, List.getElem?_set_ne (by omega)]; exact hwd
      have hf3__m___10_ : w_3[(m + 10)]? = some (mI 0 9 waF) := by rw [ew_3, List.getElem?_set_ne (by omega)]; exact hwa
      have hF_3 : Fr m w w_3 := by rw [ew_3]; exact (Fr.set hF0 (by omega) (by omega))
      refine r_aload_n hC dX9_owner_32 rfl (j := 0) rfl ?_
      refine r_get hC gX9_owner_33 hf3_m (v := .int 2) rfl ?_
      refine r_if_ne hC dX9_owner_36 (tgt := 53) (by decide) (fun _ => ?_) (fun h => absurd h (by decide))
      refine r_iconst hC dX9_owner_53 (v := 0) (by decide) ?_
      refine r_iret hC hE hR dX9_owner_54 (by omega) (by omega) (hF_3.1) ?_
      exact (Or.inr (Or.inl ⟨⟨p1, ownz (Decidable.not_not.mp (fun z => absurd c21 z))⟩, rfl, ⟨⟨_, _, _, _, _, _, _, _, _, hf3_m, hf3__m___1_, hf3__m___2_, hf3__m___3_, hf3__m___4_, hf3__m___5_, hf3__m___6_, hf3__m___7_, hf3__m___8_, hf3__m___9_, hf3__m___10_, hpo, hso⟩, hF_3⟩⟩))
  · refine r_iconst hC dX9_owner_8 (v := 1) (by decide) ?_
    refine r_goto hC dX9_owner_9 (tgt := 29) (by decide) ?_
    refine r_put' hC pX9_owner_29 hm (Nat.le_of_ble_eq_true rfl) (fun _ => rfl) (fun _ => rfl) (fun w_4 ew_4 => ?_)
    replace ew_4 : w_4 = (w).set (m) (mO 10 [.int 1, .int (nI l.length), .int ea, .int fa, .int (bI so.isSome), .ref (m + 1), .ref (m + 2), .ref (m + 3), .ref (m + 4), .ref (m + 5), .ref (m + 6), .ref (m + 7), .ref (m + 8), .ref (m + 9), .ref (m + 10), .int (nI tn), .int he, .int en, .int (nI ln), .int iw, .int id0]) := ew_4
    have hf4_m : w_4[m]? = some (mO 10 [.int 1, .int (nI l.length), .int ea, .int fa, .int (bI so.isSome), .ref (m + 1), .ref (m + 2), .ref (m + 3), .ref (m + 4), .ref (m + 5), .ref (m + 6), .ref (m + 7), .ref (m + 8), .ref (m + 9), .ref (m + 10), .int (nI tn), .int he, .int en, .int (nI ln), .int iw, .int id0]) := by rw [ew_4]; exact List.getElem?_set_self (lt_of_get hm)
    have hf4__m___1_ : w_4[(m + 1)]? = some (mI 0 67 (enc ((f, g, sl, op, lo), hd, rs, np, tp, av, lg, pl, tk))) := by rw [ew_4, List.getElem?_set_ne (by omega)]; exact hv
    have hf4__m___2_ : w_4[(m + 2)]? = some (mI 0 67 bf) := by rw [ew_4, List.getElem?_set_ne (by omega)]; exact hbf
    have hf4__m___3_ : w_4[(m + 3)]? = some (mI 0 67 sf) := by rw [ew_4, List.getElem?_set_ne (by omega)]; exact hsf
    have hf4__m___4_ : w_4[(m + 4)]? = some (mI 0 67 kf) := by rw [ew_4, List.getElem?_set_ne (by omega)]; exact hkf
    have hf4__m___5_ : w_4[(m + 5)]? = some (mI 0 536 pf) := by rw [ew_4, List.getElem?_set_ne (by omega)]; exact hpf
    have hf4__m___6_ : w_4[(m + 6)]? = some (mI 0 60 tx) := by rw [ew_4, List.getElem?_set_ne (by omega)]; exact htx
    have hf4__m___7_ : w_4[(m + 7)]? = some (mI 0 40 lf) := by rw [ew_4, List.getElem?_set_ne (by omega)]; exact hlf
    have hf4__m___8_ : w_4[(m + 8)]? = some (mI 0 8 lt) := by rw [ew_4, List.getElem?_set_ne (by omega)]; exact hlt
    have hf4__m___9_ : w_4[(m + 9)]? = some (mI 0 41 wdF) := by rw [ew_4, List.getElem?_set_ne (by omega)]; exact hwd
    have hf4__m___10_ : w_4[(m + 10)]? = some (mI 0 9 waF) := by rw [ew_4, List.getElem?_set_ne (by omega)]; exact hwa
    have hF_4 : Fr m w w_4 := by rw [ew_4]; exact (Fr.set hF0 (by omega) (by omega))
    refine r_aload_n hC dX9_owner_32 rfl (j := 0) rfl ?_
    refine r_get hC gX9_owner_33 hf4_m (v := .int 1) rfl ?_
    refine r_if_ne hC dX9_owner_36 (tgt := 53) (by decide) (fun _ => ?_) (fun h => absurd h (by decide))
    refine r_iconst hC dX9_owner_53 (v := 0) (by decide) ?_
    refine r_iret hC hE hR dX9_owner_54 (by omega) (by omega) (hF_4.1) ?_
    exact (Or.inr (Or.inr ⟨(bI_0.mp c5), rfl, ⟨⟨_, _, _, _, _, _, _, _, _, hf4_m, hf4__m___1_, hf4__m___2_, hf4__m___3_, hf4__m___4_, hf4__m___5_, hf4__m___6_, hf4__m___7_, hf4__m___8_, hf4__m___9_, hf4__m___10_, hpo, hso⟩, hF_4⟩⟩))
set_option maxRecDepth 100000 in
set_option maxHeartbeats 4000000 in
theorem sm_steepness {d : Nat} {c : Int32} {w : mW} {m : Nat} {th : Int32} {f g : Nat → Int32} {sl op lo : Int32} {hd rs : Nat → Int32} {np : Nat} {tp av lg pl tk : Int32} {l : List sv} {ea fa : Int32} {so : Option sv} {tx : Nat → Int32} {tn : Nat} {lf : Nat → Int32} {ln : Nat} (H : MdAt w m th ((f, g, sl, op, lo), hd, rs, np, tp, av, lg, pl, tk) l ea fa so tx tn lf ln) (h25 : f 25 = 0) (hop : op = 0 ∨ op = 1) : Sp (d + 4) yX9_steepness cX9_steepness 2 (some .int) [.ref m, .int c] w 0 0 (fun v w' => (isC c = true ∧ v = some (.int (hSteep f op c.toNatClampNeg)) ∧ MdTo w w' m 0 ((f, g, sl, op, lo), hd, rs, np, tp, av, lg, pl, tk) l ea fa so tx tn lf ln) ∨ (isC c = false ∧ v = some (.int 0) ∧ MdTo w w' m 1 ((f, g, sl, op, lo), hd, rs, np, tp, av, lg, pl, tk) l ea fa so tx tn lf ln)) noX := by
  refine Sp.of (by decide +kernel) (Nat.le_of_ble_eq_true rfl) (fun X hC hnl hE hR hN => ?_)
  have hC : Cx X RX9 cX9_steepness (d + 4) 0 0 := hC
  show Wp X 0 0 w [(0, .ref m), (1, .int c)] [] 0
  obtain ⟨he, en, iw, id0, bf, sf, kf, pf, lt, hm, hv, hbf, hsf, hkf, hpf, htx, hlf, hlt, hwd, hwa, hpo, hso⟩ := H
  have hF0 : Fr m w w := Fr.rfl
  refine r_aload_n hC dX9_steepness_0 rfl (j := 0) rfl ?_
  refine r_iload_n hC dX9_steepness_1 rfl (j := 1) rfl ?_
  refine r_callS hC (vs := [.int c]) vX9_steepness_2 (sm_isCell (d := d + 2)) rfl (by omega) (by omega) (by omega) (Nat.le_of_ble_eq_true rfl) (fun v_1 w_1 hP_1 hlen_1 => ?_) (fun _ _ h => h.elim)
  rw [hP_1.1, hP_1.2]
  show Wp X 0 0 w [(0, .ref m), (1, .int c)] [.int (bI (isC c)), .ref m] 5
  refine r_if_eq hC dX9_steepness_5 (tgt := 12) (by decide) (fun c5 => ?_) (fun c5 => ?_)
  · refine r_iconst hC dX9_steepness_12 (v := 1) (by decide) ?_
    refine r_put' hC pX9_steepness_13 hm (Nat.le_of_ble_eq_true rfl) (fun _ => rfl) (fun _ => rfl) (fun w_2 ew_2 => ?_)
    replace ew_2 : w_2 = (w).set (m) (mO 10 [.int 1, .int (nI l.length), .int ea, .int fa, .int (bI so.isSome), .ref (m + 1), .ref (m + 2), .ref (m + 3), .ref (m + 4), .ref (m + 5), .ref (m + 6), .ref (m + 7), .ref (m + 8), .ref (m + 9), .ref (m + 10), .int (nI tn), .int he, .int en, .int (nI ln), .int iw, .int id0]) := ew_2
    have hf2_m : w_2[m]? = some (mO 10 [.int 1, .int (nI l.length), .int ea, .int fa, .int (bI so.isSome), .ref (m + 1), .ref (m + 2), .ref (m + 3), .ref (m + 4), .ref (m + 5), .ref (m + 6), .ref (m + 7), .ref (m + 8), .ref (m + 9), .ref (m + 10), .int (nI tn), .int he, .int en, .int (nI ln), .int iw, .int id0]) := by rw [ew_2]; exact List.getElem?_set_self (lt_of_get hm)
    have hf2__m___1_ : w_2[(m + 1)]? = some (mI 0 67 (enc ((f, g, sl, op, lo), hd, rs, np, tp, av, lg, pl, tk))) := by rw [ew_2, List.getElem?_set_ne (by omega)]; exact hv
    have hf2__m___2_ : w_2[(m + 2)]? = some (mI 0 67 bf) := by rw [ew_2, List.getElem?_set_ne (by omega)]; exact hbf
    have hf2__m___3_ : w_2[(m + 3)]? = some (mI 0 67 sf) := by rw [ew_2, List.getElem?_set_ne (by omega)]; exact hsf
    have hf2__m___4_ : w_2[(m + 4)]? = some (mI 0 67 kf) := by rw [ew_2, List.getElem?_set_ne (by omega)]; exact hkf
    have hf2__m___5_ : w_2[(m + 5)]? = some (mI 0 536 pf) := by rw [ew_2, List.getElem?_set_ne (by omega)]; exact hpf
    have hf2__m___6_ : w_2[(m + 6)]? = some (mI 0 60 tx) := by rw [ew_2, List.getElem?_set_ne (by omega)]; exact htx
    have hf2__m___7_ : w_2[(m + 7)]? = some (mI 0 40 lf) := by rw [ew_2, List.getElem?_set_ne (by omega)]; exact hlf
    have hf2__m___8_ : w_2[(m + 8)]? = some (mI 0 8 lt) := by rw [ew_2, List.getElem?_set_ne (by omega)]; exact hlt
    have hf2__m___9_ : w_2[(m + 9)]? = some (mI 0 41 wdF) := by rw [ew_2, List.getElem?_set_ne (by omega)]; exact hwd
    have hf2__m___10_ : w_2[(m + 10)]? = some (mI 0 9 waF) := by rw [ew_2, List.getElem?_set_ne (by omega)]; exact hwa
    have hF_2 : Fr m w w_2 := by rw [ew_2]; exact (Fr.set hF0 (by omega) (by omega))
    refine r_aload_n hC dX9_steepness_16 rfl (j := 0) rfl ?_
    refine r_get hC gX9_steepness_17 hf2_m (v := .int 1) rfl ?_
    refine r_if_ne hC dX9_steepness_20 (tgt := 31) (by decide) (fun _ => ?_) (fun h => absurd h (by decide))
    refine r_iconst hC dX9_steepness_31 (v := 0) (by decide) ?_
    refine r_iret hC hE hR dX9_steepness_32 (by omega) (by omega) (hF_2.1) ?_
    exact (Or.inr ⟨(bI_0.mp c5), rfl, ⟨⟨_, _, _, _, _, _, _, _, _, hf2_m, hf2__m___1_, hf2__m___2_, hf2__m___3_, hf2__m___4_, hf2__m___5_, hf2__m___6_, hf2__m___7_, hf2__m___8_, hf2__m___9_, hf2__m___10_, hpo, hso⟩, hF_2⟩⟩)
  · refine r_iconst hC dX9_steepness_8 (v := 0) (by decide) ?_
    refine r_goto hC dX9_steepness_9 (tgt := 13) (by decide) ?_
    refine r_put' hC pX9_steepness_13 hm (Nat.le_of_ble_eq_true rfl) (fun _ => rfl) (fun _ => rfl) (fun w_3 ew_3 => ?_)
    replace ew_3 : w_3 = (w).set (m) (mO 10 [.int 0, .int (nI l.length), .int ea, .int fa, .int (bI so.isSome), .ref (m + 1), .ref (m + 2), .ref (m + 3), .ref (m + 4), .ref (m + 5), .ref (m + 6), .ref (m + 7), .ref (m + 8), .ref (m + 9), .ref (m + 10), .int (nI tn), .int he, .int en, .int (nI ln), .int iw, .int id0]) := ew_3
    have hf3_m : w_3[m]? = some (mO 10 [.int 0, .int (nI l.length), .int ea, .int fa, .int (bI so.isSome), .ref (m + 1), .ref (m + 2), .ref (m + 3), .ref (m + 4), .ref (m + 5), .ref (m + 6), .ref (m + 7), .ref (m + 8), .ref (m + 9), .ref (m + 10), .int (nI tn), .int he, .int en, .int (nI ln), .int iw, .int id0]) := by rw [ew_3]; exact List.getElem?_set_self (lt_of_get hm)
    have hf3__m___1_ : w_3[(m + 1)]? = some (mI 0 67 (enc ((f, g, sl, op, lo), hd, rs, np, tp, av, lg, pl, tk))) := by rw [ew_3, List.getElem?_set_ne (by omega)]; exact hv
    have hf3__m___2_ : w_3[(m + 2)]? = some (mI 0 67 bf) := by rw [ew_3, List.getElem?_set_ne (by omega)]; exact hbf
    have hf3__m___3_ : w_3[(m + 3)]? = some (mI 0 67 sf) := by rw [ew_3, List.getElem?_set_ne (by omega)]; exact hsf
    have hf3__m___4_ : w_3[(m + 4)]? = some (mI 0 67 kf) := by rw [ew_3, List.getElem?_set_ne (by omega)]; exact hkf
    have hf3__m___5_ : w_3[(m + 5)]? = some (mI 0 536 pf) := by rw [ew_3, List.getElem?_set_ne (by omega)]; exact hpf
    have hf3__m___6_ : w_3[(m + 6)]? = some (mI 0 60 tx) := by rw [ew_3, List.getElem?_set_ne (by omega)]; exact htx
    have hf3__m___7_ : w_3[(m + 7)]? = some (mI 0 40 lf) := by rw [ew_3, List.getElem?_set_ne (by omega)]; exact hlf
    have hf3__m___8_ : w_3[(m + 8)]? = some (mI 0 8 lt) := by rw [ew_3, List.getElem?_set_ne (by omega)]; exact hlt
    have hf3__m___9_ : w_3[(m + 9)]? = some (mI 0 41 wdF) := by rw [ew_3, List.getElem?_set_ne (by omega)]; exact hwd
    have hf3__m___10_ : w_3[(m + 10)]? = some (mI 0 9 waF) := by rw [ew_3, List.getElem?_set_ne (by omega)]; exact hwa
    have hF_3 : Fr m w w_3 := by rw [ew_3]; exact (Fr.set hF0 (by omega) (by omega))
    refine r_aload_n hC dX9_steepness_16 rfl (j := 0) rfl ?_
    refine r_get hC gX9_steepness_17 hf3_m (v := .int 0) rfl ?_
    refine r_if_ne hC dX9_steepness_20 (tgt := 31) (by decide) (fun h => absurd (by decide) h) (fun _ => ?_)
    have p1 : isC c = true := bI_ne.mp c5
    have hb9 := isC_lt p1
    have hb8 := hb9.1
    rw [show Wp X 0 0 w_3 [(0, .ref m), (1, .int c)] [] 23 = Wp X 0 0 w_3 [(0, .ref m), (1, .int (nI c.toNatClampNeg))] [] 23 from by rw [← hb9.2]]
    refine r_aload_n hC dX9_steepness_23 rfl (j := 0) rfl ?_
    refine r_iload_n hC dX9_steepness_24 rfl (j := 1) rfl ?_
    refine r_callV hC (vs := [.int (nI c.toNatClampNeg)]) vX9_steepness_25 (sm_steep (d := d) hf3_m hf3__m___1_ h25 hop hb8) hf3_m rfl rfl (by omega) (by omega) (by omega) (Nat.le_of_ble_eq_true rfl) (fun v_4 w_4 hP_4 hlen_4 => ?_) (fun _ _ h => h.elim)
    rw [hP_4.1, hP_4.2]
    show Wp X 0 0 w_3 [(0, .ref m), (1, .int (nI c.toNatClampNeg))] [.int (hSteep f op c.toNatClampNeg)] 28
    refine r_goto hC dX9_steepness_28 (tgt := 32) (by decide) ?_
    refine r_iret hC hE hR dX9_steepness_32 (by omega) (by omega) (hF_3.1) ?_
    exact (Or.inl ⟨p1, rfl, ⟨⟨_, _, _, _, _, _, _, _, _, hf3_m, hf3__m___1_, hf3__m___2_, hf3__m___3_, hf3__m___4_, hf3__m___5_, hf3__m___6_, hf3__m___7_, hf3__m___8_, hf3__m___9_, hf3__m___10_, hpo, hso⟩, hF_3⟩⟩)
set_option maxRecDepth 100000 in
set_option maxHeartbeats 4000000 in
theorem sm_lowestNeighbour {d : Nat} {c : Int32} {w : mW} {m : Nat} {th : Int32} {f g : Nat → Int32} {sl op lo : Int32} {hd rs : Nat → Int32} {np : Nat} {tp av lg pl tk : Int32} {l : List sv} {ea fa : Int32} {so : Option sv} {tx : Nat → Int32} {tn : Nat} {lf : Nat → Int32} {ln : Nat} (H : MdAt w m th ((f, g, sl, op, lo), hd, rs, np, tp, av, lg, pl, tk) l ea fa so tx tn lf ln) (h25 : f 25 = 0) (hop : op = 0 ∨ op = 1) : Sp (d + 3) yX9_lowestNeighbour cX9_lowestNeighbour 2 (some .int) [.ref m, .int c] w 0 0 (fun v w' => (isC c = true ∧ v = some (.int (nI (hLow f op c.toNatClampNeg))) ∧ MdTo w w' m 0 ((f, g, sl, op, lo), hd, rs, np, tp, av, lg, pl, tk) l ea fa so tx tn lf ln) ∨ (isC c = false ∧ v = some (.int 0) ∧ MdTo w w' m 1 ((f, g, sl, op, lo), hd, rs, np, tp, av, lg, pl, tk) l ea fa so tx tn lf ln)) noX := by
  refine Sp.of (by decide +kernel) (Nat.le_of_ble_eq_true rfl) (fun X hC hnl hE hR hN => ?_)
  have hC : Cx X RX9 cX9_lowestNeighbour (d + 3) 0 0 := hC
  show Wp X 0 0 w [(0, .ref m), (1, .int c)] [] 0
  obtain ⟨he, en, iw, id0, bf, sf, kf, pf, lt, hm, hv, hbf, hsf, hkf, hpf, htx, hlf, hlt, hwd, hwa, hpo, hso⟩ := H
  have hF0 : Fr m w w := Fr.rfl
  refine r_aload_n hC dX9_lowestNeighbour_0 rfl (j := 0) rfl ?_
  refine r_iload_n hC dX9_lowestNeighbour_1 rfl (j := 1) rfl ?_
  refine r_callS hC (vs := [.int c]) vX9_lowestNeighbour_2 (sm_isCell (d := d + 1)) rfl (by omega) (by omega) (by omega) (Nat.le_of_ble_eq_true rfl) (fun v_1 w_1 hP_1 hlen_1 => ?_) (fun _ _ h => h.elim)
  rw [hP_1.1, hP_1.2]
  show Wp X 0 0 w [(0, .ref m), (1, .int c)] [.int (bI (isC c)), .ref m] 5
  refine r_if_eq hC dX9_lowestNeighbour_5 (tgt := 12) (by decide) (fun c5 => ?_) (fun c5 => ?_)
  · refine r_iconst hC dX9_lowestNeighbour_12 (v := 1) (by decide) ?_
    refine r_put' hC pX9_lowestNeighbour_13 hm (Nat.le_of_ble_eq_true rfl) (fun _ => rfl) (fun _ => rfl) (fun w_2 ew_2 => ?_)
    replace ew_2 : w_2 = (w).set (m) (mO 10 [.int 1, .int (nI l.length), .int ea, .int fa, .int (bI so.isSome), .ref (m + 1), .ref (m + 2), .ref (m + 3), .ref (m + 4), .ref (m + 5), .ref (m + 6), .ref (m + 7), .ref (m + 8), .ref (m + 9), .ref (m + 10), .int (nI tn), .int he, .int en, .int (nI ln), .int iw, .int id0]) := ew_2
    have hf2_m : w_2[m]? = some (mO 10 [.int 1, .int (nI l.length), .int ea, .int fa, .int (bI so.isSome), .ref (m + 1), .ref (m + 2), .ref (m + 3), .ref (m + 4), .ref (m + 5), .ref (m + 6), .ref (m + 7), .ref (m + 8), .ref (m + 9), .ref (m + 10), .int (nI tn), .int he, .int en, .int (nI ln), .int iw, .int id0]) := by rw [ew_2]; exact List.getElem?_set_self (lt_of_get hm)
    have hf2__m___1_ : w_2[(m + 1)]? = some (mI 0 67 (enc ((f, g, sl, op, lo), hd, rs, np, tp, av, lg, pl, tk))) := by rw [ew_2, List.getElem?_set_ne (by omega)]; exact hv
    have hf2__m___2_ : w_2[(m + 2)]? = some (mI 0 67 bf) := by rw [ew_2, List.getElem?_set_ne (by omega)]; exact hbf
    have hf2__m___3_ : w_2[(m + 3)]? = some (mI 0 67 sf) := by rw [ew_2, List.getElem?_set_ne (by omega)]; exact hsf
    have hf2__m___4_ : w_2[(m + 4)]? = some (mI 0 67 kf) := by rw [ew_2, List.getElem?_set_ne (by omega)]; exact hkf
    have hf2__m___5_ : w_2[(m + 5)]? = some (mI 0 536 pf) := by rw [ew_2, List.getElem?_set_ne (by omega)]; exact hpf
    have hf2__m___6_ : w_2[(m + 6)]? = some (mI 0 60 tx) := by rw [ew_2, List.getElem?_set_ne (by omega)]; exact htx
    have hf2__m___7_ : w_2[(m + 7)]? = some (mI 0 40 lf) := by rw [ew_2, List.getElem?_set_ne (by omega)]; exact hlf
    have hf2__m___8_ : w_2[(m + 8)]? = some (mI 0 8 lt) := by rw [ew_2, List.getElem?_set_ne (by omega)]; exact hlt
    have hf2__m___9_ : w_2[(m + 9)]? = some (mI 0 41 wdF) := by rw [ew_2, List.getElem?_set_ne (by omega)]; exact hwd
    have hf2__m___10_ : w_2[(m + 10)]? = some (mI 0 9 waF) := by rw [ew_2, List.getElem?_set_ne (by omega)]; exact hwa
    have hF_2 : Fr m w w_2 := by rw [ew_2]; exact (Fr.set hF0 (by omega) (by omega))
    refine r_aload_n hC dX9_lowestNeighbour_16 rfl (j := 0) rfl ?_
    refine r_get hC gX9_lowestNeighbour_17 hf2_m (v := .int 1) rfl ?_
    refine r_if_ne hC dX9_lowestNeighbour_20 (tgt := 31) (by decide) (fun _ => ?_) (fun h => absurd h (by decide))
    refine r_iconst hC dX9_lowestNeighbour_31 (v := 0) (by decide) ?_
    refine r_iret hC hE hR dX9_lowestNeighbour_32 (by omega) (by omega) (hF_2.1) ?_
    exact (Or.inr ⟨(bI_0.mp c5), rfl, ⟨⟨_, _, _, _, _, _, _, _, _, hf2_m, hf2__m___1_, hf2__m___2_, hf2__m___3_, hf2__m___4_, hf2__m___5_, hf2__m___6_, hf2__m___7_, hf2__m___8_, hf2__m___9_, hf2__m___10_, hpo, hso⟩, hF_2⟩⟩)
  · refine r_iconst hC dX9_lowestNeighbour_8 (v := 0) (by decide) ?_
    refine r_goto hC dX9_lowestNeighbour_9 (tgt := 13) (by decide) ?_
    refine r_put' hC pX9_lowestNeighbour_13 hm (Nat.le_of_ble_eq_true rfl) (fun _ => rfl) (fun _ => rfl) (fun w_3 ew_3 => ?_)
    replace ew_3 : w_3 = (w).set (m) (mO 10 [.int 0, .int (nI l.length), .int ea, .int fa, .int (bI so.isSome), .ref (m + 1), .ref (m + 2), .ref (m + 3), .ref (m + 4), .ref (m + 5), .ref (m + 6), .ref (m + 7), .ref (m + 8), .ref (m + 9), .ref (m + 10), .int (nI tn), .int he, .int en, .int (nI ln), .int iw, .int id0]) := ew_3
    have hf3_m : w_3[m]? = some (mO 10 [.int 0, .int (nI l.length), .int ea, .int fa, .int (bI so.isSome), .ref (m + 1), .ref (m + 2), .ref (m + 3), .ref (m + 4), .ref (m + 5), .ref (m + 6), .ref (m + 7), .ref (m + 8), .ref (m + 9), .ref (m + 10), .int (nI tn), .int he, .int en, .int (nI ln), .int iw, .int id0]) := by rw [ew_3]; exact List.getElem?_set_self (lt_of_get hm)
    have hf3__m___1_ : w_3[(m + 1)]? = some (mI 0 67 (enc ((f, g, sl, op, lo), hd, rs, np, tp, av, lg, pl, tk))) := by rw [ew_3, List.getElem?_set_ne (by omega)]; exact hv
    have hf3__m___2_ : w_3[(m + 2)]? = some (mI 0 67 bf) := by rw [ew_3, List.getElem?_set_ne (by omega)]; exact hbf
    have hf3__m___3_ : w_3[(m + 3)]? = some (mI 0 67 sf) := by rw [ew_3, List.getElem?_set_ne (by omega)]; exact hsf
    have hf3__m___4_ : w_3[(m + 4)]? = some (mI 0 67 kf) := by rw [ew_3, List.getElem?_set_ne (by omega)]; exact hkf
    have hf3__m___5_ : w_3[(m + 5)]? = some (mI 0 536 pf) := by rw [ew_3, List.getElem?_set_ne (by omega)]; exact hpf
    have hf3__m___6_ : w_3[(m + 6)]? = some (mI 0 60 tx) := by rw [ew_3, List.getElem?_set_ne (by omega)]; exact htx
    have hf3__m___7_ : w_3[(m + 7)]? = some (mI 0 40 lf) := by rw [ew_3, List.getElem?_set_ne (by omega)]; exact hlf
    have hf3__m___8_ : w_3[(m + 8)]? = some (mI 0 8 lt) := by rw [ew_3, List.getElem?_set_ne (by omega)]; exact hlt
    have hf3__m___9_ : w_3[(m + 9)]? = some (mI 0 41 wdF) := by rw [ew_3, List.getElem?_set_ne (by omega)]; exact hwd
    have hf3__m___10_ : w_3[(m + 10)]? = some (mI 0 9 waF) := by rw [ew_3, List.getElem?_set_ne (by omega)]; exact hwa
    have hF_3 : Fr m w w_3 := by rw [ew_3]; exact (Fr.set hF0 (by omega) (by omega))
    refine r_aload_n hC dX9_lowestNeighbour_16 rfl (j := 0) rfl ?_
    refine r_get hC gX9_lowestNeighbour_17 hf3_m (v := .int 0) rfl ?_
    refine r_if_ne hC dX9_lowestNeighbour_20 (tgt := 31) (by decide) (fun h => absurd (by decide) h) (fun _ => ?_)
    have p1 : isC c = true := bI_ne.mp c5
    have hb9 := isC_lt p1
    have hb8 := hb9.1
    rw [show Wp X 0 0 w_3 [(0, .ref m), (1, .int c)] [] 23 = Wp X 0 0 w_3 [(0, .ref m), (1, .int (nI c.toNatClampNeg))] [] 23 from by rw [← hb9.2]]
    refine r_aload_n hC dX9_lowestNeighbour_23 rfl (j := 0) rfl ?_
    refine r_iload_n hC dX9_lowestNeighbour_24 rfl (j := 1) rfl ?_
    refine r_callV hC (vs := [.int (nI c.toNatClampNeg)]) vX9_lowestNeighbour_25 (sm_lowest (d := d) hf3_m hf3__m___1_ h25 hop hb8) hf3_m rfl rfl (by omega) (by omega) (by omega) (Nat.le_of_ble_eq_true rfl) (fun v_4 w_4 hP_4 hlen_4 => ?_) (fun _ _ h => h.elim)
    rw [hP_4.1, hP_4.2]
    show Wp X 0 0 w_3 [(0, .ref m), (1, .int (nI c.toNatClampNeg))] [.int (nI (hLow f op c.toNatClampNeg))] 28
    refine r_goto hC dX9_lowestNeighbour_28 (tgt := 32) (by decide) ?_
    refine r_iret hC hE hR dX9_lowestNeighbour_32 (by omega) (by omega) (hF_3.1) ?_
    exact (Or.inl ⟨p1, rfl, ⟨⟨_, _, _, _, _, _, _, _, _, hf3_m, hf3__m___1_, hf3__m___2_, hf3__m___3_, hf3__m___4_, hf3__m___5_, hf3__m___6_, hf3__m___7_, hf3__m___8_, hf3__m___9_, hf3__m___10_, hpo, hso⟩, hF_3⟩⟩)
set_option maxRecDepth 100000 in
set_option maxHeartbeats 4000000 in
theorem sm_stonesOnHill {d : Nat} {w : mW} {m : Nat} {th : Int32} {f g : Nat → Int32} {sl op lo : Int32} {hd rs : Nat → Int32} {np : Nat} {tp av lg pl tk : Int32} {l : List sv} {ea fa : Int32} {so : Option sv} {tx : Nat → Int32} {tn : Nat} {lf : Nat → Int32} {ln : Nat} (H : MdAt w m th ((f, g, sl, op, lo), hd, rs, np, tp, av, lg, pl, tk) l ea fa so tx tn lf ln)  : Sp (d + 1) yX9_stonesOnHill cX9_stonesOnHill 1 (some .int) [.ref m] w 0 0 (fun v w' => (v = some (.int (hSum f 25)) ∧ MdTo w w' m 0 ((f, g, sl, op, lo), hd, rs, np, tp, av, lg, pl, tk) l ea fa so tx tn lf ln)) noX := by
  refine Sp.of (by decide +kernel) (Nat.le_of_ble_eq_true rfl) (fun X hC hnl hE hR hN => ?_)
  have hC : Cx X RX9 cX9_stonesOnHill (d + 1) 0 0 := hC
  show Wp X 0 0 w [(0, .ref m)] [] 0
  obtain ⟨he, en, iw, id0, bf, sf, kf, pf, lt, hm, hv, hbf, hsf, hkf, hpf, htx, hlf, hlt, hwd, hwa, hpo, hso⟩ := H
  have hF0 : Fr m w w := Fr.rfl
  refine r_aload_n hC dX9_stonesOnHill_0 rfl (j := 0) rfl ?_
  refine r_iconst hC dX9_stonesOnHill_1 (v := 0) (by decide) ?_
  refine r_put' hC pX9_stonesOnHill_2 hm (Nat.le_of_ble_eq_true rfl) (fun _ => rfl) (fun _ => rfl) (fun w_1 ew_1 => ?_)
  replace ew_1 : w_1 = (w).set (m) (mO 10 [.int 0, .int (nI l.length), .int ea, .int fa, .int (bI so.isSome), .ref (m + 1), .ref (m + 2), .ref (m + 3), .ref (m + 4), .ref (m + 5), .ref (m + 6), .ref (m + 7), .ref (m + 8), .ref (m + 9), .ref (m + 10), .int (nI tn), .int he, .int en, .int (nI ln), .int iw, .int id0]) := ew_1
  have hf1_m : w_1[m]? = some (mO 10 [.int 0, .int (nI l.length), .int ea, .int fa, .int (bI so.isSome), .ref (m + 1), .ref (m + 2), .ref (m + 3), .ref (m + 4), .ref (m + 5), .ref (m + 6), .ref (m + 7), .ref (m + 8), .ref (m + 9), .ref (m + 10), .int (nI tn), .int he, .int en, .int (nI ln), .int iw, .int id0]) := by rw [ew_1]; exact List.getElem?_set_self (lt_of_get hm)
  have hf1__m___1_ : w_1[(m + 1)]? = some (mI 0 67 (enc ((f, g, sl, op, lo), hd, rs, np, tp, av, lg, pl, tk))) := by rw [ew_1, List.getElem?_set_ne (by omega)]; exact hv
  have hf1__m___2_ : w_1[(m + 2)]? = some (mI 0 67 bf) := by rw [ew_1, List.getElem?_set_ne (by omega)]; exact hbf
  have hf1__m___3_ : w_1[(m + 3)]? = some (mI 0 67 sf) := by rw [ew_1, List.getElem?_set_ne (by omega)]; exact hsf
  have hf1__m___4_ : w_1[(m + 4)]? = some (mI 0 67 kf) := by rw [ew_1, List.getElem?_set_ne (by omega)]; exact hkf
  have hf1__m___5_ : w_1[(m + 5)]? = some (mI 0 536 pf) := by rw [ew_1, List.getElem?_set_ne (by omega)]; exact hpf
  have hf1__m___6_ : w_1[(m + 6)]? = some (mI 0 60 tx) := by rw [ew_1, List.getElem?_set_ne (by omega)]; exact htx
  have hf1__m___7_ : w_1[(m + 7)]? = some (mI 0 40 lf) := by rw [ew_1, List.getElem?_set_ne (by omega)]; exact hlf
  have hf1__m___8_ : w_1[(m + 8)]? = some (mI 0 8 lt) := by rw [ew_1, List.getElem?_set_ne (by omega)]; exact hlt
  have hf1__m___9_ : w_1[(m + 9)]? = some (mI 0 41 wdF) := by rw [ew_1, List.getElem?_set_ne (by omega)]; exact hwd
  have hf1__m___10_ : w_1[(m + 10)]? = some (mI 0 9 waF) := by rw [ew_1, List.getElem?_set_ne (by omega)]; exact hwa
  have hF_1 : Fr m w w_1 := by rw [ew_1]; exact (Fr.set hF0 (by omega) (by omega))
  refine r_aload_n hC dX9_stonesOnHill_5 rfl (j := 0) rfl ?_
  refine r_callV hC (vs := []) vX9_stonesOnHill_6 (sm_stones (d := d) hf1_m hf1__m___1_) hf1_m rfl rfl (by omega) (by omega) (by omega) (Nat.le_of_ble_eq_true rfl) (fun v_2 w_2 hP_2 hlen_2 => ?_) (fun _ _ h => h.elim)
  rw [hP_2.1, hP_2.2]
  show Wp X 0 0 w_1 [(0, .ref m)] [.int (hSum f 25)] 9
  refine r_iret hC hE hR dX9_stonesOnHill_9 (by omega) (by omega) (hF_1.1) ?_
  exact ⟨rfl, ⟨⟨_, _, _, _, _, _, _, _, _, hf1_m, hf1__m___1_, hf1__m___2_, hf1__m___3_, hf1__m___4_, hf1__m___5_, hf1__m___6_, hf1__m___7_, hf1__m___8_, hf1__m___9_, hf1__m___10_, hpo, hso⟩, hF_1⟩⟩
set_option maxRecDepth 100000 in
set_option maxHeartbeats 4000000 in
theorem sm_stonesByLevels {d : Nat} {w : mW} {m : Nat} {th : Int32} {f g : Nat → Int32} {sl op lo : Int32} {hd rs : Nat → Int32} {np : Nat} {tp av lg pl tk : Int32} {l : List sv} {ea fa : Int32} {so : Option sv} {tx : Nat → Int32} {tn : Nat} {lf : Nat → Int32} {ln : Nat} (H : MdAt w m th ((f, g, sl, op, lo), hd, rs, np, tp, av, lg, pl, tk) l ea fa so tx tn lf ln)  : Sp (d + 1) yX9_stonesByLevels cX9_stonesByLevels 1 (some .int) [.ref m] w 0 0 (fun v w' => (v = some (.int (hSum f 25)) ∧ MdTo w w' m 0 ((f, g, sl, op, lo), hd, rs, np, tp, av, lg, pl, tk) l ea fa so tx tn lf ln)) noX := by
  refine Sp.of (by decide +kernel) (Nat.le_of_ble_eq_true rfl) (fun X hC hnl hE hR hN => ?_)
  have hC : Cx X RX9 cX9_stonesByLevels (d + 1) 0 0 := hC
  show Wp X 0 0 w [(0, .ref m)] [] 0
  obtain ⟨he, en, iw, id0, bf, sf, kf, pf, lt, hm, hv, hbf, hsf, hkf, hpf, htx, hlf, hlt, hwd, hwa, hpo, hso⟩ := H
  have hF0 : Fr m w w := Fr.rfl
  refine r_aload_n hC dX9_stonesByLevels_0 rfl (j := 0) rfl ?_
  refine r_iconst hC dX9_stonesByLevels_1 (v := 0) (by decide) ?_
  refine r_put' hC pX9_stonesByLevels_2 hm (Nat.le_of_ble_eq_true rfl) (fun _ => rfl) (fun _ => rfl) (fun w_1 ew_1 => ?_)
  replace ew_1 : w_1 = (w).set (m) (mO 10 [.int 0, .int (nI l.length), .int ea, .int fa, .int (bI so.isSome), .ref (m + 1), .ref (m + 2), .ref (m + 3), .ref (m + 4), .ref (m + 5), .ref (m + 6), .ref (m + 7), .ref (m + 8), .ref (m + 9), .ref (m + 10), .int (nI tn), .int he, .int en, .int (nI ln), .int iw, .int id0]) := ew_1
  have hf1_m : w_1[m]? = some (mO 10 [.int 0, .int (nI l.length), .int ea, .int fa, .int (bI so.isSome), .ref (m + 1), .ref (m + 2), .ref (m + 3), .ref (m + 4), .ref (m + 5), .ref (m + 6), .ref (m + 7), .ref (m + 8), .ref (m + 9), .ref (m + 10), .int (nI tn), .int he, .int en, .int (nI ln), .int iw, .int id0]) := by rw [ew_1]; exact List.getElem?_set_self (lt_of_get hm)
  have hf1__m___1_ : w_1[(m + 1)]? = some (mI 0 67 (enc ((f, g, sl, op, lo), hd, rs, np, tp, av, lg, pl, tk))) := by rw [ew_1, List.getElem?_set_ne (by omega)]; exact hv
  have hf1__m___2_ : w_1[(m + 2)]? = some (mI 0 67 bf) := by rw [ew_1, List.getElem?_set_ne (by omega)]; exact hbf
  have hf1__m___3_ : w_1[(m + 3)]? = some (mI 0 67 sf) := by rw [ew_1, List.getElem?_set_ne (by omega)]; exact hsf
  have hf1__m___4_ : w_1[(m + 4)]? = some (mI 0 67 kf) := by rw [ew_1, List.getElem?_set_ne (by omega)]; exact hkf
  have hf1__m___5_ : w_1[(m + 5)]? = some (mI 0 536 pf) := by rw [ew_1, List.getElem?_set_ne (by omega)]; exact hpf
  have hf1__m___6_ : w_1[(m + 6)]? = some (mI 0 60 tx) := by rw [ew_1, List.getElem?_set_ne (by omega)]; exact htx
  have hf1__m___7_ : w_1[(m + 7)]? = some (mI 0 40 lf) := by rw [ew_1, List.getElem?_set_ne (by omega)]; exact hlf
  have hf1__m___8_ : w_1[(m + 8)]? = some (mI 0 8 lt) := by rw [ew_1, List.getElem?_set_ne (by omega)]; exact hlt
  have hf1__m___9_ : w_1[(m + 9)]? = some (mI 0 41 wdF) := by rw [ew_1, List.getElem?_set_ne (by omega)]; exact hwd
  have hf1__m___10_ : w_1[(m + 10)]? = some (mI 0 9 waF) := by rw [ew_1, List.getElem?_set_ne (by omega)]; exact hwa
  have hF_1 : Fr m w w_1 := by rw [ew_1]; exact (Fr.set hF0 (by omega) (by omega))
  refine r_aload_n hC dX9_stonesByLevels_5 rfl (j := 0) rfl ?_
  refine r_callV hC (vs := []) vX9_stonesByLevels_6 (sm_stones (d := d) hf1_m hf1__m___1_) hf1_m rfl rfl (by omega) (by omega) (by omega) (Nat.le_of_ble_eq_true rfl) (fun v_2 w_2 hP_2 hlen_2 => ?_) (fun _ _ h => h.elim)
  rw [hP_2.1, hP_2.2]
  show Wp X 0 0 w_1 [(0, .ref m)] [.int (hSum f 25)] 9
  refine r_iret hC hE hR dX9_stonesByLevels_9 (by omega) (by omega) (hF_1.1) ?_
  exact ⟨rfl, ⟨⟨_, _, _, _, _, _, _, _, _, hf1_m, hf1__m___1_, hf1__m___2_, hf1__m___3_, hf1__m___4_, hf1__m___5_, hf1__m___6_, hf1__m___7_, hf1__m___8_, hf1__m___9_, hf1__m___10_, hpo, hso⟩, hF_1⟩⟩
set_option maxRecDepth 100000 in
set_option maxHeartbeats 4000000 in
theorem sm_errorPosition {d : Nat} {w : mW} {m : Nat} {th : Int32} {f g : Nat → Int32} {sl op lo : Int32} {hd rs : Nat → Int32} {np : Nat} {tp av lg pl tk : Int32} {l : List sv} {ea fa : Int32} {so : Option sv} {tx : Nat → Int32} {tn : Nat} {lf : Nat → Int32} {ln : Nat} (H : MdAt w m th ((f, g, sl, op, lo), hd, rs, np, tp, av, lg, pl, tk) l ea fa so tx tn lf ln)  : Sp d yX9_errorPosition cX9_errorPosition 1 (some .int) [.ref m] w 0 0 (fun v w' => (¬ ea < 0 ∧ v = some (.int ea) ∧ MdTo w w' m 0 ((f, g, sl, op, lo), hd, rs, np, tp, av, lg, pl, tk) l ea fa so tx tn lf ln) ∨ (ea < 0 ∧ v = some (.int 0) ∧ MdTo w w' m 1 ((f, g, sl, op, lo), hd, rs, np, tp, av, lg, pl, tk) l ea fa so tx tn lf ln)) noX := by
  refine Sp.of (by decide +kernel) (Nat.le_of_ble_eq_true rfl) (fun X hC hnl hE hR hN => ?_)
  have hC : Cx X RX9 cX9_errorPosition d 0 0 := hC
  show Wp X 0 0 w [(0, .ref m)] [] 0
  obtain ⟨he, en, iw, id0, bf, sf, kf, pf, lt, hm, hv, hbf, hsf, hkf, hpf, htx, hlf, hlt, hwd, hwa, hpo, hso⟩ := H
  have hF0 : Fr m w w := Fr.rfl
  refine r_aload_n hC dX9_errorPosition_0 rfl (j := 0) rfl ?_
  refine r_aload_n hC dX9_errorPosition_1 rfl (j := 0) rfl ?_
  refine r_get hC gX9_errorPosition_2 hm (v := .int ea) rfl ?_
  refine r_if_ge hC dX9_errorPosition_5 (tgt := 12) (by decide) (fun c5 => ?_) (fun c5 => ?_)
  · refine r_iconst hC dX9_errorPosition_12 (v := 0) (by decide) ?_
    refine r_put' hC pX9_errorPosition_13 hm (Nat.le_of_ble_eq_true rfl) (fun _ => rfl) (fun _ => rfl) (fun w_1 ew_1 => ?_)
    replace ew_1 : w_1 = (w).set (m) (mO 10 [.int 0, .int (nI l.length), .int ea, .int fa, .int (bI so.isSome), .ref (m + 1), .ref (m + 2), .ref (m + 3), .ref (m + 4), .ref (m + 5), .ref (m + 6), .ref (m + 7), .ref (m + 8), .ref (m + 9), .ref (m + 10), .int (nI tn), .int he, .int en, .int (nI ln), .int iw, .int id0]) := ew_1
    have hf1_m : w_1[m]? = some (mO 10 [.int 0, .int (nI l.length), .int ea, .int fa, .int (bI so.isSome), .ref (m + 1), .ref (m + 2), .ref (m + 3), .ref (m + 4), .ref (m + 5), .ref (m + 6), .ref (m + 7), .ref (m + 8), .ref (m + 9), .ref (m + 10), .int (nI tn), .int he, .int en, .int (nI ln), .int iw, .int id0]) := by rw [ew_1]; exact List.getElem?_set_self (lt_of_get hm)
    have hf1__m___1_ : w_1[(m + 1)]? = some (mI 0 67 (enc ((f, g, sl, op, lo), hd, rs, np, tp, av, lg, pl, tk))) := by rw [ew_1, List.getElem?_set_ne (by omega)]; exact hv
    have hf1__m___2_ : w_1[(m + 2)]? = some (mI 0 67 bf) := by rw [ew_1, List.getElem?_set_ne (by omega)]; exact hbf
    have hf1__m___3_ : w_1[(m + 3)]? = some (mI 0 67 sf) := by rw [ew_1, List.getElem?_set_ne (by omega)]; exact hsf
    have hf1__m___4_ : w_1[(m + 4)]? = some (mI 0 67 kf) := by rw [ew_1, List.getElem?_set_ne (by omega)]; exact hkf
    have hf1__m___5_ : w_1[(m + 5)]? = some (mI 0 536 pf) := by rw [ew_1, List.getElem?_set_ne (by omega)]; exact hpf
    have hf1__m___6_ : w_1[(m + 6)]? = some (mI 0 60 tx) := by rw [ew_1, List.getElem?_set_ne (by omega)]; exact htx
    have hf1__m___7_ : w_1[(m + 7)]? = some (mI 0 40 lf) := by rw [ew_1, List.getElem?_set_ne (by omega)]; exact hlf
    have hf1__m___8_ : w_1[(m + 8)]? = some (mI 0 8 lt) := by rw [ew_1, List.getElem?_set_ne (by omega)]; exact hlt
    have hf1__m___9_ : w_1[(m + 9)]? = some (mI 0 41 wdF) := by rw [ew_1, List.getElem?_set_ne (by omega)]; exact hwd
    have hf1__m___10_ : w_1[(m + 10)]? = some (mI 0 9 waF) := by rw [ew_1, List.getElem?_set_ne (by omega)]; exact hwa
    have hF_1 : Fr m w w_1 := by rw [ew_1]; exact (Fr.set hF0 (by omega) (by omega))
    refine r_aload_n hC dX9_errorPosition_16 rfl (j := 0) rfl ?_
    refine r_get hC gX9_errorPosition_17 hf1_m (v := .int 0) rfl ?_
    refine r_if_ne hC dX9_errorPosition_20 (tgt := 30) (by decide) (fun h => absurd (by decide) h) (fun _ => ?_)
    refine r_aload_n hC dX9_errorPosition_23 rfl (j := 0) rfl ?_
    refine r_get hC gX9_errorPosition_24 hf1_m (v := .int ea) rfl ?_
    refine r_goto hC dX9_errorPosition_27 (tgt := 31) (by decide) ?_
    refine r_iret hC hE hR dX9_errorPosition_31 (by omega) (by omega) (hF_1.1) ?_
    exact (Or.inl ⟨(Int32.not_lt.mpr c5), rfl, ⟨⟨_, _, _, _, _, _, _, _, _, hf1_m, hf1__m___1_, hf1__m___2_, hf1__m___3_, hf1__m___4_, hf1__m___5_, hf1__m___6_, hf1__m___7_, hf1__m___8_, hf1__m___9_, hf1__m___10_, hpo, hso⟩, hF_1⟩⟩)
  · refine r_iconst hC dX9_errorPosition_8 (v := 1) (by decide) ?_
    refine r_goto hC dX9_errorPosition_9 (tgt := 13) (by decide) ?_
    refine r_put' hC pX9_errorPosition_13 hm (Nat.le_of_ble_eq_true rfl) (fun _ => rfl) (fun _ => rfl) (fun w_2 ew_2 => ?_)
    replace ew_2 : w_2 = (w).set (m) (mO 10 [.int 1, .int (nI l.length), .int ea, .int fa, .int (bI so.isSome), .ref (m + 1), .ref (m + 2), .ref (m + 3), .ref (m + 4), .ref (m + 5), .ref (m + 6), .ref (m + 7), .ref (m + 8), .ref (m + 9), .ref (m + 10), .int (nI tn), .int he, .int en, .int (nI ln), .int iw, .int id0]) := ew_2
    have hf2_m : w_2[m]? = some (mO 10 [.int 1, .int (nI l.length), .int ea, .int fa, .int (bI so.isSome), .ref (m + 1), .ref (m + 2), .ref (m + 3), .ref (m + 4), .ref (m + 5), .ref (m + 6), .ref (m + 7), .ref (m + 8), .ref (m + 9), .ref (m + 10), .int (nI tn), .int he, .int en, .int (nI ln), .int iw, .int id0]) := by rw [ew_2]; exact List.getElem?_set_self (lt_of_get hm)
    have hf2__m___1_ : w_2[(m + 1)]? = some (mI 0 67 (enc ((f, g, sl, op, lo), hd, rs, np, tp, av, lg, pl, tk))) := by rw [ew_2, List.getElem?_set_ne (by omega)]; exact hv
    have hf2__m___2_ : w_2[(m + 2)]? = some (mI 0 67 bf) := by rw [ew_2, List.getElem?_set_ne (by omega)]; exact hbf
    have hf2__m___3_ : w_2[(m + 3)]? = some (mI 0 67 sf) := by rw [ew_2, List.getElem?_set_ne (by omega)]; exact hsf
    have hf2__m___4_ : w_2[(m + 4)]? = some (mI 0 67 kf) := by rw [ew_2, List.getElem?_set_ne (by omega)]; exact hkf
    have hf2__m___5_ : w_2[(m + 5)]? = some (mI 0 536 pf) := by rw [ew_2, List.getElem?_set_ne (by omega)]; exact hpf
    have hf2__m___6_ : w_2[(m + 6)]? = some (mI 0 60 tx) := by rw [ew_2, List.getElem?_set_ne (by omega)]; exact htx
    have hf2__m___7_ : w_2[(m + 7)]? = some (mI 0 40 lf) := by rw [ew_2, List.getElem?_set_ne (by omega)]; exact hlf
    have hf2__m___8_ : w_2[(m + 8)]? = some (mI 0 8 lt) := by rw [ew_2, List.getElem?_set_ne (by omega)]; exact hlt
    have hf2__m___9_ : w_2[(m + 9)]? = some (mI 0 41 wdF) := by rw [ew_2, List.getElem?_set_ne (by omega)]; exact hwd
    have hf2__m___10_ : w_2[(m + 10)]? = some (mI 0 9 waF) := by rw [ew_2, List.getElem?_set_ne (by omega)]; exact hwa
    have hF_2 : Fr m w w_2 := by rw [ew_2]; exact (Fr.set hF0 (by omega) (by omega))
    refine r_aload_n hC dX9_errorPosition_16 rfl (j := 0) rfl ?_
    refine r_get hC gX9_errorPosition_17 hf2_m (v := .int 1) rfl ?_
    refine r_if_ne hC dX9_errorPosition_20 (tgt := 30) (by decide) (fun _ => ?_) (fun h => absurd h (by decide))
    refine r_iconst hC dX9_errorPosition_30 (v := 0) (by decide) ?_
    refine r_iret hC hE hR dX9_errorPosition_31 (by omega) (by omega) (hF_2.1) ?_
    exact (Or.inr ⟨(Int32.not_le.mp c5), rfl, ⟨⟨_, _, _, _, _, _, _, _, _, hf2_m, hf2__m___1_, hf2__m___2_, hf2__m___3_, hf2__m___4_, hf2__m___5_, hf2__m___6_, hf2__m___7_, hf2__m___8_, hf2__m___9_, hf2__m___10_, hpo, hso⟩, hF_2⟩⟩)
set_option maxRecDepth 100000 in
set_option maxHeartbeats 4000000 in
theorem sm_failedCommand {d : Nat} {w : mW} {m : Nat} {th : Int32} {f g : Nat → Int32} {sl op lo : Int32} {hd rs : Nat → Int32} {np : Nat} {tp av lg pl tk : Int32} {l : List sv} {ea fa : Int32} {so : Option sv} {tx : Nat → Int32} {tn : Nat} {lf : Nat → Int32} {ln : Nat} (H : MdAt w m th ((f, g, sl, op, lo), hd, rs, np, tp, av, lg, pl, tk) l ea fa so tx tn lf ln)  : Sp d yX9_failedCommand cX9_failedCommand 1 (some .int) [.ref m] w 0 0 (fun v w' => (¬ fa < 0 ∧ v = some (.int fa) ∧ MdTo w w' m 0 ((f, g, sl, op, lo), hd, rs, np, tp, av, lg, pl, tk) l ea fa so tx tn lf ln) ∨ (fa < 0 ∧ v = some (.int 0) ∧ MdTo w w' m 1 ((f, g, sl, op, lo), hd, rs, np, tp, av, lg, pl, tk) l ea fa so tx tn lf ln)) noX := by
  refine Sp.of (by decide +kernel) (Nat.le_of_ble_eq_true rfl) (fun X hC hnl hE hR hN => ?_)
  have hC : Cx X RX9 cX9_failedCommand d 0 0 := hC
  show Wp X 0 0 w [(0, .ref m)] [] 0
  obtain ⟨he, en, iw, id0, bf, sf, kf, pf, lt, hm, hv, hbf, hsf, hkf, hpf, htx, hlf, hlt, hwd, hwa, hpo, hso⟩ := H
  have hF0 : Fr m w w := Fr.rfl
  refine r_aload_n hC dX9_failedCommand_0 rfl (j := 0) rfl ?_
  refine r_aload_n hC dX9_failedCommand_1 rfl (j := 0) rfl ?_
  refine r_get hC gX9_failedCommand_2 hm (v := .int fa) rfl ?_
  refine r_if_ge hC dX9_failedCommand_5 (tgt := 12) (by decide) (fun c5 => ?_) (fun c5 => ?_)
  · refine r_iconst hC dX9_failedCommand_12 (v := 0) (by decide) ?_
    refine r_put' hC pX9_failedCommand_13 hm (Nat.le_of_ble_eq_true rfl) (fun _ => rfl) (fun _ => rfl) (fun w_1 ew_1 => ?_)
    replace ew_1 : w_1 = (w).set (m) (mO 10 [.int 0, .int (nI l.length), .int ea, .int fa, .int (bI so.isSome), .ref (m + 1), .ref (m + 2), .ref (m + 3), .ref (m + 4), .ref (m + 5), .ref (m + 6), .ref (m + 7), .ref (m + 8), .ref (m + 9), .ref (m + 10), .int (nI tn), .int he, .int en, .int (nI ln), .int iw, .int id0]) := ew_1
    have hf1_m : w_1[m]? = some (mO 10 [.int 0, .int (nI l.length), .int ea, .int fa, .int (bI so.isSome), .ref (m + 1), .ref (m + 2), .ref (m + 3), .ref (m + 4), .ref (m + 5), .ref (m + 6), .ref (m + 7), .ref (m + 8), .ref (m + 9), .ref (m + 10), .int (nI tn), .int he, .int en, .int (nI ln), .int iw, .int id0]) := by rw [ew_1]; exact List.getElem?_set_self (lt_of_get hm)
    have hf1__m___1_ : w_1[(m + 1)]? = some (mI 0 67 (enc ((f, g, sl, op, lo), hd, rs, np, tp, av, lg, pl, tk))) := by rw [ew_1, List.getElem?_set_ne (by omega)]; exact hv
    have hf1__m___2_ : w_1[(m + 2)]? = some (mI 0 67 bf) := by rw [ew_1, List.getElem?_set_ne (by omega)]; exact hbf
    have hf1__m___3_ : w_1[(m + 3)]? = some (mI 0 67 sf) := by rw [ew_1, List.getElem?_set_ne (by omega)]; exact hsf
    have hf1__m___4_ : w_1[(m + 4)]? = some (mI 0 67 kf) := by rw [ew_1, List.getElem?_set_ne (by omega)]; exact hkf
    have hf1__m___5_ : w_1[(m + 5)]? = some (mI 0 536 pf) := by rw [ew_1, List.getElem?_set_ne (by omega)]; exact hpf
    have hf1__m___6_ : w_1[(m + 6)]? = some (mI 0 60 tx) := by rw [ew_1, List.getElem?_set_ne (by omega)]; exact htx
    have hf1__m___7_ : w_1[(m + 7)]? = some (mI 0 40 lf) := by rw [ew_1, List.getElem?_set_ne (by omega)]; exact hlf
    have hf1__m___8_ : w_1[(m + 8)]? = some (mI 0 8 lt) := by rw [ew_1, List.getElem?_set_ne (by omega)]; exact hlt
    have hf1__m___9_ : w_1[(m + 9)]? = some (mI 0 41 wdF) := by rw [ew_1, List.getElem?_set_ne (by omega)]; exact hwd
    have hf1__m___10_ : w_1[(m + 10)]? = some (mI 0 9 waF) := by rw [ew_1, List.getElem?_set_ne (by omega)]; exact hwa
    have hF_1 : Fr m w w_1 := by rw [ew_1]; exact (Fr.set hF0 (by omega) (by omega))
    refine r_aload_n hC dX9_failedCommand_16 rfl (j := 0) rfl ?_
    refine r_get hC gX9_failedCommand_17 hf1_m (v := .int 0) rfl ?_
    refine r_if_ne hC dX9_failedCommand_20 (tgt := 30) (by decide) (fun h => absurd (by decide) h) (fun _ => ?_)
    refine r_aload_n hC dX9_failedCommand_23 rfl (j := 0) rfl ?_
    refine r_get hC gX9_failedCommand_24 hf1_m (v := .int fa) rfl ?_
    refine r_goto hC dX9_failedCommand_27 (tgt := 31) (by decide) ?_
    refine r_iret hC hE hR dX9_failedCommand_31 (by omega) (by omega) (hF_1.1) ?_
    exact (Or.inl ⟨(Int32.not_lt.mpr c5), rfl, ⟨⟨_, _, _, _, _, _, _, _, _, hf1_m, hf1__m___1_, hf1__m___2_, hf1__m___3_, hf1__m___4_, hf1__m___5_, hf1__m___6_, hf1__m___7_, hf1__m___8_, hf1__m___9_, hf1__m___10_, hpo, hso⟩, hF_1⟩⟩)
  · refine r_iconst hC dX9_failedCommand_8 (v := 1) (by decide) ?_
    refine r_goto hC dX9_failedCommand_9 (tgt := 13) (by decide) ?_
    refine r_put' hC pX9_failedCommand_13 hm (Nat.le_of_ble_eq_true rfl) (fun _ => rfl) (fun _ => rfl) (fun w_2 ew_2 => ?_)
    replace ew_2 : w_2 = (w).set (m) (mO 10 [.int 1, .int (nI l.length), .int ea, .int fa, .int (bI so.isSome), .ref (m + 1), .ref (m + 2), .ref (m + 3), .ref (m + 4), .ref (m + 5), .ref (m + 6), .ref (m + 7), .ref (m + 8), .ref (m + 9), .ref (m + 10), .int (nI tn), .int he, .int en, .int (nI ln), .int iw, .int id0]) := ew_2
    have hf2_m : w_2[m]? = some (mO 10 [.int 1, .int (nI l.length), .int ea, .int fa, .int (bI so.isSome), .ref (m + 1), .ref (m + 2), .ref (m + 3), .ref (m + 4), .ref (m + 5), .ref (m + 6), .ref (m + 7), .ref (m + 8), .ref (m + 9), .ref (m + 10), .int (nI tn), .int he, .int en, .int (nI ln), .int iw, .int id0]) := by rw [ew_2]; exact List.getElem?_set_self (lt_of_get hm)
    have hf2__m___1_ : w_2[(m + 1)]? = some (mI 0 67 (enc ((f, g, sl, op, lo), hd, rs, np, tp, av, lg, pl, tk))) := by rw [ew_2, List.getElem?_set_ne (by omega)]; exact hv
    have hf2__m___2_ : w_2[(m + 2)]? = some (mI 0 67 bf) := by rw [ew_2, List.getElem?_set_ne (by omega)]; exact hbf
    have hf2__m___3_ : w_2[(m + 3)]? = some (mI 0 67 sf) := by rw [ew_2, List.getElem?_set_ne (by omega)]; exact hsf
    have hf2__m___4_ : w_2[(m + 4)]? = some (mI 0 67 kf) := by rw [ew_2, List.getElem?_set_ne (by omega)]; exact hkf
    have hf2__m___5_ : w_2[(m + 5)]? = some (mI 0 536 pf) := by rw [ew_2, List.getElem?_set_ne (by omega)]; exact hpf
    have hf2__m___6_ : w_2[(m + 6)]? = some (mI 0 60 tx) := by rw [ew_2, List.getElem?_set_ne (by omega)]; exact htx
    have hf2__m___7_ : w_2[(m + 7)]? = some (mI 0 40 lf) := by rw [ew_2, List.getElem?_set_ne (by omega)]; exact hlf
    have hf2__m___8_ : w_2[(m + 8)]? = some (mI 0 8 lt) := by rw [ew_2, List.getElem?_set_ne (by omega)]; exact hlt
    have hf2__m___9_ : w_2[(m + 9)]? = some (mI 0 41 wdF) := by rw [ew_2, List.getElem?_set_ne (by omega)]; exact hwd
    have hf2__m___10_ : w_2[(m + 10)]? = some (mI 0 9 waF) := by rw [ew_2, List.getElem?_set_ne (by omega)]; exact hwa
    have hF_2 : Fr m w w_2 := by rw [ew_2]; exact (Fr.set hF0 (by omega) (by omega))
    refine r_aload_n hC dX9_failedCommand_16 rfl (j := 0) rfl ?_
    refine r_get hC gX9_failedCommand_17 hf2_m (v := .int 1) rfl ?_
    refine r_if_ne hC dX9_failedCommand_20 (tgt := 30) (by decide) (fun _ => ?_) (fun h => absurd h (by decide))
    refine r_iconst hC dX9_failedCommand_30 (v := 0) (by decide) ?_
    refine r_iret hC hE hR dX9_failedCommand_31 (by omega) (by omega) (hF_2.1) ?_
    exact (Or.inr ⟨(Int32.not_le.mp c5), rfl, ⟨⟨_, _, _, _, _, _, _, _, _, hf2_m, hf2__m___1_, hf2__m___2_, hf2__m___3_, hf2__m___4_, hf2__m___5_, hf2__m___6_, hf2__m___7_, hf2__m___8_, hf2__m___9_, hf2__m___10_, hpo, hso⟩, hF_2⟩⟩)
set_option maxRecDepth 100000 in
set_option maxHeartbeats 4000000 in
theorem sm_meanAvalanche {d : Nat} {w : mW} {m : Nat} {th : Int32} {f g : Nat → Int32} {sl op lo : Int32} {hd rs : Nat → Int32} {np : Nat} {tp av lg pl tk : Int32} {l : List sv} {ea fa : Int32} {so : Option sv} {tx : Nat → Int32} {tn : Nat} {lf : Nat → Int32} {ln : Nat} (H : MdAt w m th ((f, g, sl, op, lo), hd, rs, np, tp, av, lg, pl, tk) l ea fa so tx tn lf ln) (hne : ¬ av = 0 → vf_n64 (FP.ddiv (FP.i2d tp) (FP.i2d av))) : Sp d yX9_meanAvalanche cX9_meanAvalanche 1 (some .double) [.ref m] w 0 0 (fun v w' => (¬ av = 0 ∧ v = some (.double (FP.ddiv (FP.i2d tp) (FP.i2d av))) ∧ MdTo w w' m 0 ((f, g, sl, op, lo), hd, rs, np, tp, av, lg, pl, tk) l ea fa so tx tn lf ln) ∨ (av = 0 ∧ v = some (.double 0) ∧ MdTo w w' m 1 ((f, g, sl, op, lo), hd, rs, np, tp, av, lg, pl, tk) l ea fa so tx tn lf ln)) noX := by
  refine Sp.of (by decide +kernel) (Nat.le_of_ble_eq_true rfl) (fun X hC hnl hE hR hN => ?_)
  have hC : Cx X RX9 cX9_meanAvalanche d 0 0 := hC
  show Wp X 0 0 w [(0, .ref m)] [] 0
  obtain ⟨he, en, iw, id0, bf, sf, kf, pf, lt, hm, hv, hbf, hsf, hkf, hpf, htx, hlf, hlt, hwd, hwa, hpo, hso⟩ := H
  have hF0 : Fr m w w := Fr.rfl
  refine r_aload_n hC dX9_meanAvalanche_0 rfl (j := 0) rfl ?_
  refine r_aload_n hC dX9_meanAvalanche_1 rfl (j := 0) rfl ?_
  refine r_get hC gX9_meanAvalanche_2 hm (v := .ref (m + 1)) rfl ?_
  refine r_iconst hC dX9_meanAvalanche_5 (v := 4) (by decide) ?_
  refine r_iald hC dX9_meanAvalanche_6 (j := 4) hv ⟨by decide, by decide, by decide⟩ ?_
  rw [show enc ((f, g, sl, op, lo), hd, rs, np, tp, av, lg, pl, tk) 4 = av from rfl]
  refine r_if_ne hC dX9_meanAvalanche_7 (tgt := 14) (by decide) (fun c7 => ?_) (fun c7 => ?_)
  · refine r_iconst hC dX9_meanAvalanche_14 (v := 0) (by decide) ?_
    refine r_put' hC pX9_meanAvalanche_15 hm (Nat.le_of_ble_eq_true rfl) (fun _ => rfl) (fun _ => rfl) (fun w_1 ew_1 => ?_)
    replace ew_1 : w_1 = (w).set (m) (mO 10 [.int 0, .int (nI l.length), .int ea, .int fa, .int (bI so.isSome), .ref (m + 1), .ref (m + 2), .ref (m + 3), .ref (m + 4), .ref (m + 5), .ref (m + 6), .ref (m + 7), .ref (m + 8), .ref (m + 9), .ref (m + 10), .int (nI tn), .int he, .int en, .int (nI ln), .int iw, .int id0]) := ew_1
    have hf1_m : w_1[m]? = some (mO 10 [.int 0, .int (nI l.length), .int ea, .int fa, .int (bI so.isSome), .ref (m + 1), .ref (m + 2), .ref (m + 3), .ref (m + 4), .ref (m + 5), .ref (m + 6), .ref (m + 7), .ref (m + 8), .ref (m + 9), .ref (m + 10), .int (nI tn), .int he, .int en, .int (nI ln), .int iw, .int id0]) := by rw [ew_1]; exact List.getElem?_set_self (lt_of_get hm)
    have hf1__m___1_ : w_1[(m + 1)]? = some (mI 0 67 (enc ((f, g, sl, op, lo), hd, rs, np, tp, av, lg, pl, tk))) := by rw [ew_1, List.getElem?_set_ne (by omega)]; exact hv
    have hf1__m___2_ : w_1[(m + 2)]? = some (mI 0 67 bf) := by rw [ew_1, List.getElem?_set_ne (by omega)]; exact hbf
    have hf1__m___3_ : w_1[(m + 3)]? = some (mI 0 67 sf) := by rw [ew_1, List.getElem?_set_ne (by omega)]; exact hsf
    have hf1__m___4_ : w_1[(m + 4)]? = some (mI 0 67 kf) := by rw [ew_1, List.getElem?_set_ne (by omega)]; exact hkf
    have hf1__m___5_ : w_1[(m + 5)]? = some (mI 0 536 pf) := by rw [ew_1, List.getElem?_set_ne (by omega)]; exact hpf
    have hf1__m___6_ : w_1[(m + 6)]? = some (mI 0 60 tx) := by rw [ew_1, List.getElem?_set_ne (by omega)]; exact htx
    have hf1__m___7_ : w_1[(m + 7)]? = some (mI 0 40 lf) := by rw [ew_1, List.getElem?_set_ne (by omega)]; exact hlf
    have hf1__m___8_ : w_1[(m + 8)]? = some (mI 0 8 lt) := by rw [ew_1, List.getElem?_set_ne (by omega)]; exact hlt
    have hf1__m___9_ : w_1[(m + 9)]? = some (mI 0 41 wdF) := by rw [ew_1, List.getElem?_set_ne (by omega)]; exact hwd
    have hf1__m___10_ : w_1[(m + 10)]? = some (mI 0 9 waF) := by rw [ew_1, List.getElem?_set_ne (by omega)]; exact hwa
    have hF_1 : Fr m w w_1 := by rw [ew_1]; exact (Fr.set hF0 (by omega) (by omega))
    refine r_aload_n hC dX9_meanAvalanche_18 rfl (j := 0) rfl ?_
    refine r_get hC gX9_meanAvalanche_19 hf1_m (v := .int 0) rfl ?_
    refine r_if_ne hC dX9_meanAvalanche_22 (tgt := 43) (by decide) (fun h => absurd (by decide) h) (fun _ => ?_)
    refine r_aload_n hC dX9_meanAvalanche_25 rfl (j := 0) rfl ?_
    refine r_get hC gX9_meanAvalanche_26 hf1_m (v := .ref (m + 1)) rfl ?_
    refine r_iconst hC dX9_meanAvalanche_29 (v := 3) (by decide) ?_
    refine r_iald hC dX9_meanAvalanche_30 (j := 3) hf1__m___1_ ⟨by decide, by decide, by decide⟩ ?_
    rw [show enc ((f, g, sl, op, lo), hd, rs, np, tp, av, lg, pl, tk) 3 = tp from rfl]
    refine r_i2d hC dX9_meanAvalanche_31 ?_
    refine r_aload_n hC dX9_meanAvalanche_32 rfl (j := 0) rfl ?_
    refine r_get hC gX9_meanAvalanche_33 hf1_m (v := .ref (m + 1)) rfl ?_
    refine r_iconst hC dX9_meanAvalanche_36 (v := 4) (by decide) ?_
    refine r_iald hC dX9_meanAvalanche_37 (j := 4) hf1__m___1_ ⟨by decide, by decide, by decide⟩ ?_
    rw [show enc ((f, g, sl, op, lo), hd, rs, np, tp, av, lg, pl, tk) 4 = av from rfl]
    refine r_i2d hC dX9_meanAvalanche_38 ?_
    refine r_ddiv hC dX9_meanAvalanche_39 (hne c7) ?_
    refine r_goto hC dX9_meanAvalanche_40 (tgt := 44) (by decide) ?_
    refine r_dret hC hE hR dX9_meanAvalanche_44 (by omega) (by omega) (hF_1.1) ?_
    exact (Or.inl ⟨c7, rfl, ⟨⟨_, _, _, _, _, _, _, _, _, hf1_m, hf1__m___1_, hf1__m___2_, hf1__m___3_, hf1__m___4_, hf1__m___5_, hf1__m___6_, hf1__m___7_, hf1__m___8_, hf1__m___9_, hf1__m___10_, hpo, hso⟩, hF_1⟩⟩)
  · refine r_iconst hC dX9_meanAvalanche_10 (v := 1) (by decide) ?_
    refine r_goto hC dX9_meanAvalanche_11 (tgt := 15) (by decide) ?_
    refine r_put' hC pX9_meanAvalanche_15 hm (Nat.le_of_ble_eq_true rfl) (fun _ => rfl) (fun _ => rfl) (fun w_2 ew_2 => ?_)
    replace ew_2 : w_2 = (w).set (m) (mO 10 [.int 1, .int (nI l.length), .int ea, .int fa, .int (bI so.isSome), .ref (m + 1), .ref (m + 2), .ref (m + 3), .ref (m + 4), .ref (m + 5), .ref (m + 6), .ref (m + 7), .ref (m + 8), .ref (m + 9), .ref (m + 10), .int (nI tn), .int he, .int en, .int (nI ln), .int iw, .int id0]) := ew_2
    have hf2_m : w_2[m]? = some (mO 10 [.int 1, .int (nI l.length), .int ea, .int fa, .int (bI so.isSome), .ref (m + 1), .ref (m + 2), .ref (m + 3), .ref (m + 4), .ref (m + 5), .ref (m + 6), .ref (m + 7), .ref (m + 8), .ref (m + 9), .ref (m + 10), .int (nI tn), .int he, .int en, .int (nI ln), .int iw, .int id0]) := by rw [ew_2]; exact List.getElem?_set_self (lt_of_get hm)
    have hf2__m___1_ : w_2[(m + 1)]? = some (mI 0 67 (enc ((f, g, sl, op, lo), hd, rs, np, tp, av, lg, pl, tk))) := by rw [ew_2, List.getElem?_set_ne (by omega)]; exact hv
    have hf2__m___2_ : w_2[(m + 2)]? = some (mI 0 67 bf) := by rw [ew_2, List.getElem?_set_ne (by omega)]; exact hbf
    have hf2__m___3_ : w_2[(m + 3)]? = some (mI 0 67 sf) := by rw [ew_2, List.getElem?_set_ne (by omega)]; exact hsf
    have hf2__m___4_ : w_2[(m + 4)]? = some (mI 0 67 kf) := by rw [ew_2, List.getElem?_set_ne (by omega)]; exact hkf
    have hf2__m___5_ : w_2[(m + 5)]? = some (mI 0 536 pf) := by rw [ew_2, List.getElem?_set_ne (by omega)]; exact hpf
    have hf2__m___6_ : w_2[(m + 6)]? = some (mI 0 60 tx) := by rw [ew_2, List.getElem?_set_ne (by omega)]; exact htx
    have hf2__m___7_ : w_2[(m + 7)]? = some (mI 0 40 lf) := by rw [ew_2, List.getElem?_set_ne (by omega)]; exact hlf
    have hf2__m___8_ : w_2[(m + 8)]? = some (mI 0 8 lt) := by rw [ew_2, List.getElem?_set_ne (by omega)]; exact hlt
    have hf2__m___9_ : w_2[(m + 9)]? = some (mI 0 41 wdF) := by rw [ew_2, List.getElem?_set_ne (by omega)]; exact hwd
    have hf2__m___10_ : w_2[(m + 10)]? = some (mI 0 9 waF) := by rw [ew_2, List.getElem?_set_ne (by omega)]; exact hwa
    have hF_2 : Fr m w w_2 := by rw [ew_2]; exact (Fr.set hF0 (by omega) (by omega))
    refine r_aload_n hC dX9_meanAvalanche_18 rfl (j := 0) rfl ?_
    refine r_get hC gX9_meanAvalanche_19 hf2_m (v := .int 1) rfl ?_
    refine r_if_ne hC dX9_meanAvalanche_22 (tgt := 43) (by decide) (fun _ => ?_) (fun h => absurd h (by decide))
    refine r_dconst0 hC dX9_meanAvalanche_43 ?_
    refine r_dret hC hE hR dX9_meanAvalanche_44 (by omega) (by omega) (hF_2.1) ?_
    exact (Or.inr ⟨c7, rfl, ⟨⟨_, _, _, _, _, _, _, _, _, hf2_m, hf2__m___1_, hf2__m___2_, hf2__m___3_, hf2__m___4_, hf2__m___5_, hf2__m___6_, hf2__m___7_, hf2__m___8_, hf2__m___9_, hf2__m___10_, hpo, hso⟩, hF_2⟩⟩)
set_option maxRecDepth 100000 in
set_option maxHeartbeats 4000000 in
theorem sm_isConsistent {d : Nat} {w : mW} {m : Nat} {th : Int32} {f g : Nat → Int32} {sl op lo : Int32} {hd rs : Nat → Int32} {np : Nat} {tp av lg pl tk : Int32} {l : List sv} {ea fa : Int32} {so : Option sv} {tx : Nat → Int32} {tn : Nat} {lf : Nat → Int32} {ln : Nat} (H : MdAt w m th ((f, g, sl, op, lo), hd, rs, np, tp, av, lg, pl, tk) l ea fa so tx tn lf ln) (h25 : f 25 = 0) (hop : op = 0 ∨ op = 1) : Sp (d + 5) yX9_isConsistent cX9_isConsistent 1 (some .boolean) [.ref m] w 0 0 (fun v w' => (v = some (.int (bI (decide (hNx (f, g, sl, op, lo) = none) && decide (pl = hSum f 25 + lo + tk)))) ∧ MdTo w w' m 0 ((f, g, sl, op, lo), hd, rs, np, tp, av, lg, pl, tk) l ea fa so tx tn lf ln)) noX := by
  refine Sp.of (by decide +kernel) (Nat.le_of_ble_eq_true rfl) (fun X hC hnl hE hR hN => ?_)
  have hC : Cx X RX9 cX9_isConsistent (d + 5) 0 0 := hC
  show Wp X 0 0 w [(0, .ref m)] [] 0
  obtain ⟨he, en, iw, id0, bf, sf, kf, pf, lt, hm, hv, hbf, hsf, hkf, hpf, htx, hlf, hlt, hwd, hwa, hpo, hso⟩ := H
  have hF0 : Fr m w w := Fr.rfl
  refine r_aload_n hC dX9_isConsistent_0 rfl (j := 0) rfl ?_
  refine r_iconst hC dX9_isConsistent_1 (v := 0) (by decide) ?_
  refine r_put' hC pX9_isConsistent_2 hm (Nat.le_of_ble_eq_true rfl) (fun _ => rfl) (fun _ => rfl) (fun w_1 ew_1 => ?_)
  replace ew_1 : w_1 = (w).set (m) (mO 10 [.int 0, .int (nI l.length), .int ea, .int fa, .int (bI so.isSome), .ref (m + 1), .ref (m + 2), .ref (m + 3), .ref (m + 4), .ref (m + 5), .ref (m + 6), .ref (m + 7), .ref (m + 8), .ref (m + 9), .ref (m + 10), .int (nI tn), .int he, .int en, .int (nI ln), .int iw, .int id0]) := ew_1
  have hf1_m : w_1[m]? = some (mO 10 [.int 0, .int (nI l.length), .int ea, .int fa, .int (bI so.isSome), .ref (m + 1), .ref (m + 2), .ref (m + 3), .ref (m + 4), .ref (m + 5), .ref (m + 6), .ref (m + 7), .ref (m + 8), .ref (m + 9), .ref (m + 10), .int (nI tn), .int he, .int en, .int (nI ln), .int iw, .int id0]) := by rw [ew_1]; exact List.getElem?_set_self (lt_of_get hm)
  have hf1__m___1_ : w_1[(m + 1)]? = some (mI 0 67 (enc ((f, g, sl, op, lo), hd, rs, np, tp, av, lg, pl, tk))) := by rw [ew_1, List.getElem?_set_ne (by omega)]; exact hv
  have hf1__m___2_ : w_1[(m + 2)]? = some (mI 0 67 bf) := by rw [ew_1, List.getElem?_set_ne (by omega)]; exact hbf
  have hf1__m___3_ : w_1[(m + 3)]? = some (mI 0 67 sf) := by rw [ew_1, List.getElem?_set_ne (by omega)]; exact hsf
  have hf1__m___4_ : w_1[(m + 4)]? = some (mI 0 67 kf) := by rw [ew_1, List.getElem?_set_ne (by omega)]; exact hkf
  have hf1__m___5_ : w_1[(m + 5)]? = some (mI 0 536 pf) := by rw [ew_1, List.getElem?_set_ne (by omega)]; exact hpf
  have hf1__m___6_ : w_1[(m + 6)]? = some (mI 0 60 tx) := by rw [ew_1, List.getElem?_set_ne (by omega)]; exact htx
  have hf1__m___7_ : w_1[(m + 7)]? = some (mI 0 40 lf) := by rw [ew_1, List.getElem?_set_ne (by omega)]; exact hlf
  have hf1__m___8_ : w_1[(m + 8)]? = some (mI 0 8 lt) := by rw [ew_1, List.getElem?_set_ne (by omega)]; exact hlt
  have hf1__m___9_ : w_1[(m + 9)]? = some (mI 0 41 wdF) := by rw [ew_1, List.getElem?_set_ne (by omega)]; exact hwd
  have hf1__m___10_ : w_1[(m + 10)]? = some (mI 0 9 waF) := by rw [ew_1, List.getElem?_set_ne (by omega)]; exact hwa
  have hF_1 : Fr m w w_1 := by rw [ew_1]; exact (Fr.set hF0 (by omega) (by omega))
  refine r_aload_n hC dX9_isConsistent_5 rfl (j := 0) rfl ?_
  refine r_callV hC (vs := []) vX9_isConsistent_6 (sm_next (d := d) hf1_m hf1__m___1_ h25 hop) hf1_m rfl rfl (by omega) (by omega) (by omega) (Nat.le_of_ble_eq_true rfl) (fun v_2 w_2 hP_2 hlen_2 => ?_) (fun _ _ h => h.elim)
  rw [hP_2.1, hP_2.2]
  show Wp X 0 0 w_1 [(0, .ref m)] [.int (oI (hNx (f, g, sl, op, lo)))] 9
  refine r_if_ge hC dX9_isConsistent_9 (tgt := 46) (by decide) (fun c9 => ?_) (fun c9 => ?_)
  · refine r_iconst hC dX9_isConsistent_46 (v := 0) (by decide) ?_
    refine r_nret hC hE hR dX9_isConsistent_47 (by decide) (by omega) (by omega) (hF_1.1) ?_
    have e9 : bI (decide (hNx (f, g, sl, op, lo) = none) && decide (pl = hSum f 25 + lo + tk)) = 0 := by
      have e1 : hNx (f, g, sl, op, lo) ≠ none := fun z => absurd ((oI_lt0 (N := 25) (fun k h => hNext_lt h) (by decide)).mpr z) (Int32.not_lt.mpr c9)
      simp [e1, bI]
    exact ⟨(by rw [e9]), ⟨⟨_, _, _, _, _, _, _, _, _, hf1_m, hf1__m___1_, hf1__m___2_, hf1__m___3_, hf1__m___4_, hf1__m___5_, hf1__m___6_, hf1__m___7_, hf1__m___8_, hf1__m___9_, hf1__m___10_, hpo, hso⟩, hF_1⟩⟩
  · refine r_aload_n hC dX9_isConsistent_12 rfl (j := 0) rfl ?_
    refine r_get hC gX9_isConsistent_13 hf1_m (v := .ref (m + 1)) rfl ?_
    refine r_bipush hC dX9_isConsistent_16 (v := 6) (by decide) ?_
    refine r_iald hC dX9_isConsistent_18 (j := 6) hf1__m___1_ ⟨by decide, by decide, by decide⟩ ?_
    rw [show enc ((f, g, sl, op, lo), hd, rs, np, tp, av, lg, pl, tk) 6 = pl from rfl]
    refine r_aload_n hC dX9_isConsistent_19 rfl (j := 0) rfl ?_
    refine r_callV hC (vs := []) vX9_isConsistent_20 (sm_stones (d := d + 4) hf1_m hf1__m___1_) hf1_m rfl rfl (by omega) (by omega) (by omega) (Nat.le_of_ble_eq_true rfl) (fun v_3 w_3 hP_3 hlen_3 => ?_) (fun _ _ h => h.elim)
    rw [hP_3.1, hP_3.2]
    show Wp X 0 0 w_1 [(0, .ref m)] [.int (hSum f 25), .int pl] 23
    refine r_aload_n hC dX9_isConsistent_23 rfl (j := 0) rfl ?_
    refine r_get hC gX9_isConsistent_24 hf1_m (v := .ref (m + 1)) rfl ?_
    refine r_bipush hC dX9_isConsistent_27 (v := 7) (by decide) ?_
    refine r_iald hC dX9_isConsistent_29 (j := 7) hf1__m___1_ ⟨by decide, by decide, by decide⟩ ?_
    rw [show enc ((f, g, sl, op, lo), hd, rs, np, tp, av, lg, pl, tk) 7 = lo from rfl]
    refine r_iadd hC dX9_isConsistent_30 ?_
    refine r_aload_n hC dX9_isConsistent_31 rfl (j := 0) rfl ?_
    refine r_get hC gX9_isConsistent_32 hf1_m (v := .ref (m + 1)) rfl ?_
    refine r_bipush hC dX9_isConsistent_35 (v := 8) (by decide) ?_
    refine r_iald hC dX9_isConsistent_37 (j := 8) hf1__m___1_ ⟨by decide, by decide, by decide⟩ ?_
    rw [show enc ((f, g, sl, op, lo), hd, rs, np, tp, av, lg, pl, tk) 8 = tk from rfl]
    refine r_iadd hC dX9_isConsistent_38 ?_
    refine r_icmp_ne hC dX9_isConsistent_39 (tgt := 46) (by decide) (fun c39 => ?_) (fun c39 => ?_)
    · refine r_iconst hC dX9_isConsistent_46 (v := 0) (by decide) ?_
      refine r_nret hC hE hR dX9_isConsistent_47 (by decide) (by omega) (by omega) (hF_1.1) ?_
      have e9 : bI (decide (hNx (f, g, sl, op, lo) = none) && decide (pl = hSum f 25 + lo + tk)) = 0 := by
        have e1 : hNx (f, g, sl, op, lo) = none := (oI_lt0 (N := 25) (fun k h => hNext_lt h) (by decide)).mp (Int32.not_le.mp c9)
        simp [e1, bI, c39]
      exact ⟨(by rw [e9]), ⟨⟨_, _, _, _, _, _, _, _, _, hf1_m, hf1__m___1_, hf1__m___2_, hf1__m___3_, hf1__m___4_, hf1__m___5_, hf1__m___6_, hf1__m___7_, hf1__m___8_, hf1__m___9_, hf1__m___10_, hpo, hso⟩, hF_1⟩⟩
    · refine r_iconst hC dX9_isConsistent_42 (v := 1) (by decide) ?_
      refine r_goto hC dX9_isConsistent_43 (tgt := 47) (by decide) ?_
      refine r_nret hC hE hR dX9_isConsistent_47 (by decide) (by omega) (by omega) (hF_1.1) ?_
      have e9 : bI (decide (hNx (f, g, sl, op, lo) = none) && decide (pl = hSum f 25 + lo + tk)) = 1 := by
        have e1 : hNx (f, g, sl, op, lo) = none := (oI_lt0 (N := 25) (fun k h => hNext_lt h) (by decide)).mp (Int32.not_le.mp c9)
        simp [e1, bI, c39]
      exact ⟨(by rw [e9]), ⟨⟨_, _, _, _, _, _, _, _, _, hf1_m, hf1__m___1_, hf1__m___2_, hf1__m___3_, hf1__m___4_, hf1__m___5_, hf1__m___6_, hf1__m___7_, hf1__m___8_, hf1__m___9_, hf1__m___10_, hpo, hso⟩, hF_1⟩⟩
end MD9
