section MD8
theorem nE_ne {h : Nat} : ¬ nE h = 0 := by unfold nE; split <;> decide
theorem nD_ne {h : Nat} : ¬ nD h = 0 := by unfold nD; split; decide; split; decide; split <;> decide
theorem nT_ne {h : Nat} : ¬ nT h = 0 := by unfold nT; split; decide; split <;> decide
set_option maxRecDepth 100000 in
set_option maxHeartbeats 4000000 in
theorem sm_addPlayer {d : Nat} {x : Int32} {w : mW} {m : Nat} {th : Int32} {f g : Nat → Int32} {sl op lo : Int32} {hd rs : Nat → Int32} {np : Nat} {tp av lg pl tk : Int32} {l : List sv} {ea fa : Int32} {so : Option sv} {tx : Nat → Int32} {tn : Nat} {lf : Nat → Int32} {ln : Nat} (H : MdAt w m th ((f, g, sl, op, lo), hd, rs, np, tp, av, lg, pl, tk) l ea fa so tx tn lf ln) (hnp : np ≤ 4) : Sp (d + 2) yX9_addPlayer cX9_addPlayer 2 (some .int) [.ref m, .int x] w 0 0 (fun v w' => (fltEntry np x = 1000010 ∧ v = some (.int (nI np)) ∧ MdTo w w' m 0 ((f, g, sl, op, lo), upd hd np x, upd rs np 0, np + 1, tp, av, lg, pl, tk) (push8 l ((f, g, sl, op, lo), hd, rs, np, tp, av, lg, pl, tk)) ea fa so tx tn lf ln) ∨ (¬ fltEntry np x = 1000010 ∧ v = some (.int 0) ∧ MdTo w w' m (nE (fltEntry np x)) ((f, g, sl, op, lo), hd, rs, np, tp, av, lg, pl, tk) l ea fa so tx tn lf ln)) noX := by
  refine Sp.of (by decide +kernel) (Nat.le_of_ble_eq_true rfl) (fun X hC hnl hE hR hN => ?_)
  have hC : Cx X RX9 cX9_addPlayer (d + 2) 0 0 := hC
  show Wp X 0 0 w [(0, .ref m), (1, .int x)] [] 0
  obtain ⟨he, en, iw, id0, bf, sf, kf, pf, lt, hm, hv, hbf, hsf, hkf, hpf, htx, hlf, hlt, hwd, hwa, hpo, hso⟩ := H
  have hF0 : Fr m w w := Fr.rfl
  refine r_aload_n hC dX9_addPlayer_0 rfl (j := 0) rfl ?_
  refine r_callV hC (vs := []) vX9_addPlayer_1 (sm_begins (d := d + 0) hm hv hbf) hm rfl rfl (by omega) (by omega) (by omega) (Nat.le_of_ble_eq_true rfl) (fun v_1 w_1 hP_1 hlen_1 => ?_) (fun _ _ h => h.elim)
  obtain ⟨hv_1, ew_1⟩ := hP_1
  rw [hv_1]
  have hf1_m : w_1[m]? = some (mO 10 [.int 0, .int (nI l.length), .int ea, .int fa, .int (bI so.isSome), .ref (m + 1), .ref (m + 2), .ref (m + 3), .ref (m + 4), .ref (m + 5), .ref (m + 6), .ref (m + 7), .ref (m + 8), .ref (m + 9), .ref (m + 10), .int (nI tn), .int he, .int en, .int (nI ln), .int iw, .int id0]) := by rw [ew_1, List.getElem?_set_ne (by omega)]; exact List.getElem?_set_self (lt_of_get hm)
  have hf1__m___1_ : w_1[(m + 1)]? = some (mI 0 67 (enc ((f, g, sl, op, lo), hd, rs, np, tp, av, lg, pl, tk))) := by rw [ew_1, List.getElem?_set_ne (by omega), List.getElem?_set_ne (by omega)]; exact hv
  have hf1__m___2_ : w_1[(m + 2)]? = some (mI 0 67 (enc ((f, g, sl, op, lo), hd, rs, np, tp, av, lg, pl, tk))) := by rw [ew_1]; exact List.getElem?_set_self (by simp only [List.length_set]; exact lt_of_get hbf)
  have hf1__m___3_ : w_1[(m + 3)]? = some (mI 0 67 sf) := by rw [ew_1, List.getElem?_set_ne (by omega), List.getElem?_set_ne (by omega)]; exact hsf
  have hf1__m___4_ : w_1[(m + 4)]? = some (mI 0 67 kf) := by rw [ew_1, List.getElem?_set_ne (by omega), List.getElem?_set_ne (by omega)]; exact hkf
  have hf1__m___5_ : w_1[(m + 5)]? = some (mI 0 536 pf) := by rw [ew_1, List.getElem?_set_ne (by omega), List.getElem?_set_ne (by omega)]; exact hpf
  have hf1__m___6_ : w_1[(m + 6)]? = some (mI 0 60 tx) := by rw [ew_1, List.getElem?_set_ne (by omega), List.getElem?_set_ne (by omega)]; exact htx
  have hf1__m___7_ : w_1[(m + 7)]? = some (mI 0 40 lf) := by rw [ew_1, List.getElem?_set_ne (by omega), List.getElem?_set_ne (by omega)]; exact hlf
  have hf1__m___8_ : w_1[(m + 8)]? = some (mI 0 8 lt) := by rw [ew_1, List.getElem?_set_ne (by omega), List.getElem?_set_ne (by omega)]; exact hlt
  have hf1__m___9_ : w_1[(m + 9)]? = some (mI 0 41 wdF) := by rw [ew_1, List.getElem?_set_ne (by omega), List.getElem?_set_ne (by omega)]; exact hwd
  have hf1__m___10_ : w_1[(m + 10)]? = some (mI 0 9 waF) := by rw [ew_1, List.getElem?_set_ne (by omega), List.getElem?_set_ne (by omega)]; exact hwa
  have hF_1 : Fr m w w_1 := by rw [ew_1]; exact (Fr.set (Fr.set hF0 (by omega) (by omega)) (by omega) (by omega))
  show Wp X 0 0 w_1 [(0, .ref m), (1, .int x)] [] 4
  refine r_aload_n hC dX9_addPlayer_4 rfl (j := 0) rfl ?_
  refine r_aload_n hC dX9_addPlayer_5 rfl (j := 0) rfl ?_
  refine r_iload_n hC dX9_addPlayer_6 rfl (j := 1) rfl ?_
  refine r_callV hC (vs := [.int x]) vX9_addPlayer_7 (sm_adds (d := d) hf1_m hf1__m___1_ hnp) hf1_m rfl rfl (by omega) (by omega) (by omega) (Nat.le_of_ble_eq_true rfl) (fun v_2 w_2 hP_2 hlen_2 => ?_) (fun _ _ h => h.elim)
  rcases hP_2 with ⟨he_2, hv_2, ew_2⟩ | ⟨he_2, hv_2, ew_2⟩
  · rw [hv_2]
    have hf2_m : w_2[m]? = some (mO 10 [.int 0, .int (nI l.length), .int ea, .int fa, .int (bI so.isSome), .ref (m + 1), .ref (m + 2), .ref (m + 3), .ref (m + 4), .ref (m + 5), .ref (m + 6), .ref (m + 7), .ref (m + 8), .ref (m + 9), .ref (m + 10), .int (nI tn), .int he, .int en, .int (nI ln), .int iw, .int id0]) := by rw [ew_2, List.getElem?_set_ne (by omega)]; exact hf1_m
    have hf2__m___1_ : w_2[(m + 1)]? = some (mI 0 67 (enc ((f, g, sl, op, lo), upd hd np x, upd rs np 0, np + 1, tp, av, lg, pl, tk))) := by rw [ew_2]; exact List.getElem?_set_self (lt_of_get hf1__m___1_)
    have hf2__m___2_ : w_2[(m + 2)]? = some (mI 0 67 (enc ((f, g, sl, op, lo), hd, rs, np, tp, av, lg, pl, tk))) := by rw [ew_2, List.getElem?_set_ne (by omega)]; exact hf1__m___2_
    have hf2__m___3_ : w_2[(m + 3)]? = some (mI 0 67 sf) := by rw [ew_2, List.getElem?_set_ne (by omega)]; exact hf1__m___3_
    have hf2__m___4_ : w_2[(m + 4)]? = some (mI 0 67 kf) := by rw [ew_2, List.getElem?_set_ne (by omega)]; exact hf1__m___4_
    have hf2__m___5_ : w_2[(m + 5)]? = some (mI 0 536 pf) := by rw [ew_2, List.getElem?_set_ne (by omega)]; exact hf1__m___5_
    have hf2__m___6_ : w_2[(m + 6)]? = some (mI 0 60 tx) := by rw [ew_2, List.getElem?_set_ne (by omega)]; exact hf1__m___6_
    have hf2__m___7_ : w_2[(m + 7)]? = some (mI 0 40 lf) := by rw [ew_2, List.getElem?_set_ne (by omega)]; exact hf1__m___7_
    have hf2__m___8_ : w_2[(m + 8)]? = some (mI 0 8 lt) := by rw [ew_2, List.getElem?_set_ne (by omega)]; exact hf1__m___8_
    have hf2__m___9_ : w_2[(m + 9)]? = some (mI 0 41 wdF) := by rw [ew_2, List.getElem?_set_ne (by omega)]; exact hf1__m___9_
    have hf2__m___10_ : w_2[(m + 10)]? = some (mI 0 9 waF) := by rw [ew_2, List.getElem?_set_ne (by omega)]; exact hf1__m___10_
    have hF_2 : Fr m w w_2 := by rw [ew_2]; exact (Fr.set hF_1 (by omega) (by omega))
    show Wp X 0 0 w_2 [(0, .ref m), (1, .int x)] [.int (nI np), .ref m] 10
    refine r_callV hC (vs := [.int (nI np)]) vX9_addPlayer_10 (sm_endsK (y := ((f, g, sl, op, lo), hd, rs, np, tp, av, lg, pl, tk)) (d := d + 0 + 1) hf2_m hf2__m___2_ hf2__m___5_ hpo) hf2_m rfl rfl (by omega) (by omega) (by omega) (Nat.le_of_ble_eq_true rfl) (fun v_3 w_3 hP_3 hlen_3 => ?_) (fun _ _ h => h.elim)
    obtain ⟨hv_3, q_3, hq_3, ew_3⟩ := hP_3
    rw [hv_3]
    have hf3_m : w_3[m]? = some (mO 10 [.int 0, .int (nI (push8 l ((f, g, sl, op, lo), hd, rs, np, tp, av, lg, pl, tk)).length), .int ea, .int fa, .int (bI so.isSome), .ref (m + 1), .ref (m + 2), .ref (m + 3), .ref (m + 4), .ref (m + 5), .ref (m + 6), .ref (m + 7), .ref (m + 8), .ref (m + 9), .ref (m + 10), .int (nI tn), .int he, .int en, .int (nI ln), .int iw, .int id0]) := by rw [ew_3]; exact List.getElem?_set_self (by simp only [List.length_set]; exact lt_of_get hf2_m)
    have hf3__m___1_ : w_3[(m + 1)]? = some (mI 0 67 (enc ((f, g, sl, op, lo), upd hd np x, upd rs np 0, np + 1, tp, av, lg, pl, tk))) := by rw [ew_3, List.getElem?_set_ne (by omega), List.getElem?_set_ne (by omega)]; exact hf2__m___1_
    have hf3__m___2_ : w_3[(m + 2)]? = some (mI 0 67 (enc ((f, g, sl, op, lo), hd, rs, np, tp, av, lg, pl, tk))) := by rw [ew_3, List.getElem?_set_ne (by omega), List.getElem?_set_ne (by omega)]; exact hf2__m___2_
    have hf3__m___3_ : w_3[(m + 3)]? = some (mI 0 67 sf) := by rw [ew_3, List.getElem?_set_ne (by omega), List.getElem?_set_ne (by omega)]; exact hf2__m___3_
    have hf3__m___4_ : w_3[(m + 4)]? = some (mI 0 67 kf) := by rw [ew_3, List.getElem?_set_ne (by omega), List.getElem?_set_ne (by omega)]; exact hf2__m___4_
    have hf3__m___5_ : w_3[(m + 5)]? = some (mI 0 536 q_3) := by rw [ew_3, List.getElem?_set_ne (by omega)]; exact List.getElem?_set_self (lt_of_get hf2__m___5_)
    have hf3__m___6_ : w_3[(m + 6)]? = some (mI 0 60 tx) := by rw [ew_3, List.getElem?_set_ne (by omega), List.getElem?_set_ne (by omega)]; exact hf2__m___6_
    have hf3__m___7_ : w_3[(m + 7)]? = some (mI 0 40 lf) := by rw [ew_3, List.getElem?_set_ne (by omega), List.getElem?_set_ne (by omega)]; exact hf2__m___7_
    have hf3__m___8_ : w_3[(m + 8)]? = some (mI 0 8 lt) := by rw [ew_3, List.getElem?_set_ne (by omega), List.getElem?_set_ne (by omega)]; exact hf2__m___8_
    have hf3__m___9_ : w_3[(m + 9)]? = some (mI 0 41 wdF) := by rw [ew_3, List.getElem?_set_ne (by omega), List.getElem?_set_ne (by omega)]; exact hf2__m___9_
    have hf3__m___10_ : w_3[(m + 10)]? = some (mI 0 9 waF) := by rw [ew_3, List.getElem?_set_ne (by omega), List.getElem?_set_ne (by omega)]; exact hf2__m___10_
    have hF_3 : Fr m w w_3 := by rw [ew_3]; exact (Fr.set (Fr.set hF_2 (by omega) (by omega)) (by omega) (by omega))
    show Wp X 0 0 w_3 [(0, .ref m), (1, .int x)] [.int (nI np)] 13
    refine r_iret hC hE hR dX9_addPlayer_13 (by omega) (by omega) (hF_3.1) ?_
    exact Or.inl ⟨he_2, rfl, ⟨⟨_, _, _, _, _, _, _, _, _, hf3_m, hf3__m___1_, hf3__m___2_, hf3__m___3_, hf3__m___4_, hf3__m___5_, hf3__m___6_, hf3__m___7_, hf3__m___8_, hf3__m___9_, hf3__m___10_, hq_3, hso⟩, hF_3⟩⟩
  · rw [hv_2]
    have hf2_m : w_2[m]? = some (mO 10 [.int (nE (fltEntry np x)), .int (nI l.length), .int ea, .int fa, .int (bI so.isSome), .ref (m + 1), .ref (m + 2), .ref (m + 3), .ref (m + 4), .ref (m + 5), .ref (m + 6), .ref (m + 7), .ref (m + 8), .ref (m + 9), .ref (m + 10), .int (nI tn), .int he, .int en, .int (nI ln), .int iw, .int id0]) := by rw [ew_2]; exact List.getElem?_set_self (lt_of_get hf1_m)
    have hf2__m___1_ : w_2[(m + 1)]? = some (mI 0 67 (enc ((f, g, sl, op, lo), hd, rs, np, tp, av, lg, pl, tk))) := by rw [ew_2, List.getElem?_set_ne (by omega)]; exact hf1__m___1_
    have hf2__m___2_ : w_2[(m + 2)]? = some (mI 0 67 (enc ((f, g, sl, op, lo), hd, rs, np, tp, av, lg, pl, tk))) := by rw [ew_2, List.getElem?_set_ne (by omega)]; exact hf1__m___2_
    have hf2__m___3_ : w_2[(m + 3)]? = some (mI 0 67 sf) := by rw [ew_2, List.getElem?_set_ne (by omega)]; exact hf1__m___3_
    have hf2__m___4_ : w_2[(m + 4)]? = some (mI 0 67 kf) := by rw [ew_2, List.getElem?_set_ne (by omega)]; exact hf1__m___4_
    have hf2__m___5_ : w_2[(m + 5)]? = some (mI 0 536 pf) := by rw [ew_2, List.getElem?_set_ne (by omega)]; exact hf1__m___5_
    have hf2__m___6_ : w_2[(m + 6)]? = some (mI 0 60 tx) := by rw [ew_2, List.getElem?_set_ne (by omega)]; exact hf1__m___6_
    have hf2__m___7_ : w_2[(m + 7)]? = some (mI 0 40 lf) := by rw [ew_2, List.getElem?_set_ne (by omega)]; exact hf1__m___7_
    have hf2__m___8_ : w_2[(m + 8)]? = some (mI 0 8 lt) := by rw [ew_2, List.getElem?_set_ne (by omega)]; exact hf1__m___8_
    have hf2__m___9_ : w_2[(m + 9)]? = some (mI 0 41 wdF) := by rw [ew_2, List.getElem?_set_ne (by omega)]; exact hf1__m___9_
    have hf2__m___10_ : w_2[(m + 10)]? = some (mI 0 9 waF) := by rw [ew_2, List.getElem?_set_ne (by omega)]; exact hf1__m___10_
    have hF_2 : Fr m w w_2 := by rw [ew_2]; exact (Fr.set hF_1 (by omega) (by omega))
    show Wp X 0 0 w_2 [(0, .ref m), (1, .int x)] [.int 0, .ref m] 10
    refine r_callV hC (vs := [.int 0]) vX9_addPlayer_10 (sm_endsF (d := d + 0) hf2_m hf2__m___1_ hf2__m___2_ nE_ne) hf2_m rfl rfl (by omega) (by omega) (by omega) (Nat.le_of_ble_eq_true rfl) (fun v_4 w_4 hP_4 hlen_4 => ?_) (fun _ _ h => h.elim)
    obtain ⟨hv_4, ew_4⟩ := hP_4
    rw [hv_4]
    have hf4_m : w_4[m]? = some (mO 10 [.int (nE (fltEntry np x)), .int (nI l.length), .int ea, .int fa, .int (bI so.isSome), .ref (m + 1), .ref (m + 2), .ref (m + 3), .ref (m + 4), .ref (m + 5), .ref (m + 6), .ref (m + 7), .ref (m + 8), .ref (m + 9), .ref (m + 10), .int (nI tn), .int he, .int en, .int (nI ln), .int iw, .int id0]) := by rw [ew_4, List.getElem?_set_ne (by omega)]; exact hf2_m
    have hf4__m___1_ : w_4[(m + 1)]? = some (mI 0 67 (enc ((f, g, sl, op, lo), hd, rs, np, tp, av, lg, pl, tk))) := by rw [ew_4]; exact List.getElem?_set_self (lt_of_get hf2__m___1_)
    have hf4__m___2_ : w_4[(m + 2)]? = some (mI 0 67 (enc ((f, g, sl, op, lo), hd, rs, np, tp, av, lg, pl, tk))) := by rw [ew_4, List.getElem?_set_ne (by omega)]; exact hf2__m___2_
    have hf4__m___3_ : w_4[(m + 3)]? = some (mI 0 67 sf) := by rw [ew_4, List.getElem?_set_ne (by omega)]; exact hf2__m___3_
    have hf4__m___4_ : w_4[(m + 4)]? = some (mI 0 67 kf) := by rw [ew_4, List.getElem?_set_ne (by omega)]; exact hf2__m___4_
    have hf4__m___5_ : w_4[(m + 5)]? = some (mI 0 536 pf) := by rw [ew_4, List.getElem?_set_ne (by omega)]; exact hf2__m___5_
    have hf4__m___6_ : w_4[(m + 6)]? = some (mI 0 60 tx) := by rw [ew_4, List.getElem?_set_ne (by omega)]; exact hf2__m___6_
    have hf4__m___7_ : w_4[(m + 7)]? = some (mI 0 40 lf) := by rw [ew_4, List.getElem?_set_ne (by omega)]; exact hf2__m___7_
    have hf4__m___8_ : w_4[(m + 8)]? = some (mI 0 8 lt) := by rw [ew_4, List.getElem?_set_ne (by omega)]; exact hf2__m___8_
    have hf4__m___9_ : w_4[(m + 9)]? = some (mI 0 41 wdF) := by rw [ew_4, List.getElem?_set_ne (by omega)]; exact hf2__m___9_
    have hf4__m___10_ : w_4[(m + 10)]? = some (mI 0 9 waF) := by rw [ew_4, List.getElem?_set_ne (by omega)]; exact hf2__m___10_
    have hF_4 : Fr m w w_4 := by rw [ew_4]; exact (Fr.set hF_2 (by omega) (by omega))
    show Wp X 0 0 w_4 [(0, .ref m), (1, .int x)] [.int 0] 13
    refine r_iret hC hE hR dX9_addPlayer_13 (by omega) (by omega) (hF_4.1) ?_
    exact Or.inr ⟨he_2, rfl, ⟨⟨_, _, _, _, _, _, _, _, _, hf4_m, hf4__m___1_, hf4__m___2_, hf4__m___3_, hf4__m___4_, hf4__m___5_, hf4__m___6_, hf4__m___7_, hf4__m___8_, hf4__m___9_, hf4__m___10_, hpo, hso⟩, hF_4⟩⟩
set_option maxRecDepth 100000 in
set_option maxHeartbeats 4000000 in
theorem sm_drop {d : Nat} {q c x : Int32} {w : mW} {m : Nat} {th : Int32} {f g : Nat → Int32} {sl op lo : Int32} {hd rs : Nat → Int32} {np : Nat} {tp av lg pl tk : Int32} {l : List sv} {ea fa : Int32} {so : Option sv} {tx : Nat → Int32} {tn : Nat} {lf : Nat → Int32} {ln : Nat} (H : MdAt w m th ((f, g, sl, op, lo), hd, rs, np, tp, av, lg, pl, tk) l ea fa so tx tn lf ln) (h25 : f 25 = 0) (hop : op = 0 ∨ op = 1) (hlg : ¬ lg < 0) (hnp : np ≤ 4) (hT : fltDrop f hd rs np q c x = 1000010 → hNx (hRestF (hPlace (f, g, sl, op, lo) c.toNatClampNeg x (nI q.toNatClampNeg))).2 = none) : Sp (d + 8) yX9_drop cX9_drop 4 (some .int) [.ref m, .int q, .int c, .int x] w 0 0 (fun v w' => (fltDrop f hd rs np q c x = 1000010 ∧ v = some (.int (sDropN ((f, g, sl, op, lo), hd, rs, np, tp, av, lg, pl, tk) c.toNatClampNeg x (nI q.toNatClampNeg))) ∧ MdTo w w' m 0 (sDrop ((f, g, sl, op, lo), hd, rs, np, tp, av, lg, pl, tk) q.toNatClampNeg c.toNatClampNeg x) (push8 l ((f, g, sl, op, lo), hd, rs, np, tp, av, lg, pl, tk)) ea fa so tx tn lf ln) ∨ (¬ fltDrop f hd rs np q c x = 1000010 ∧ v = some (.int 0) ∧ MdTo w w' m (nD (fltDrop f hd rs np q c x)) ((f, g, sl, op, lo), hd, rs, np, tp, av, lg, pl, tk) l ea fa so tx tn lf ln)) noX := by
  refine Sp.of (by decide +kernel) (Nat.le_of_ble_eq_true rfl) (fun X hC hnl hE hR hN => ?_)
  have hC : Cx X RX9 cX9_drop (d + 8) 0 0 := hC
  show Wp X 0 0 w [(0, .ref m), (1, .int q), (2, .int c), (3, .int x)] [] 0
  obtain ⟨he, en, iw, id0, bf, sf, kf, pf, lt, hm, hv, hbf, hsf, hkf, hpf, htx, hlf, hlt, hwd, hwa, hpo, hso⟩ := H
  have hF0 : Fr m w w := Fr.rfl
  refine r_aload_n hC dX9_drop_0 rfl (j := 0) rfl ?_
  refine r_callV hC (vs := []) vX9_drop_1 (sm_begins (d := d + 6) hm hv hbf) hm rfl rfl (by omega) (by omega) (by omega) (Nat.le_of_ble_eq_true rfl) (fun v_1 w_1 hP_1 hlen_1 => ?_) (fun _ _ h => h.elim)
  obtain ⟨hv_1, ew_1⟩ := hP_1
  rw [hv_1]
  have hf1_m : w_1[m]? = some (mO 10 [.int 0, .int (nI l.length), .int ea, .int fa, .int (bI so.isSome), .ref (m + 1), .ref (m + 2), .ref (m + 3), .ref (m + 4), .ref (m + 5), .ref (m + 6), .ref (m + 7), .ref (m + 8), .ref (m + 9), .ref (m + 10), .int (nI tn), .int he, .int en, .int (nI ln), .int iw, .int id0]) := by rw [ew_1, List.getElem?_set_ne (by omega)]; exact List.getElem?_set_self (lt_of_get hm)
  have hf1__m___1_ : w_1[(m + 1)]? = some (mI 0 67 (enc ((f, g, sl, op, lo), hd, rs, np, tp, av, lg, pl, tk))) := by rw [ew_1, List.getElem?_set_ne (by omega), List.getElem?_set_ne (by omega)]; exact hv
  have hf1__m___2_ : w_1[(m + 2)]? = some (mI 0 67 (enc ((f, g, sl, op, lo), hd, rs, np, tp, av, lg, pl, tk))) := by rw [ew_1]; exact List.getElem?_set_self (by simp only [List.length_set]; exact lt_of_get hbf)
  have hf1__m___3_ : w_1[(m + 3)]? = some (mI 0 67 sf) := by rw [ew_1, List.getElem?_set_ne (by omega), List.getElem?_set_ne (by omega)]; exact hsf
  have hf1__m___4_ : w_1[(m + 4)]? = some (mI 0 67 kf) := by rw [ew_1, List.getElem?_set_ne (by omega), List.getElem?_set_ne (by omega)]; exact hkf
  have hf1__m___5_ : w_1[(m + 5)]? = some (mI 0 536 pf) := by rw [ew_1, List.getElem?_set_ne (by omega), List.getElem?_set_ne (by omega)]; exact hpf
  have hf1__m___6_ : w_1[(m + 6)]? = some (mI 0 60 tx) := by rw [ew_1, List.getElem?_set_ne (by omega), List.getElem?_set_ne (by omega)]; exact htx
  have hf1__m___7_ : w_1[(m + 7)]? = some (mI 0 40 lf) := by rw [ew_1, List.getElem?_set_ne (by omega), List.getElem?_set_ne (by omega)]; exact hlf
  have hf1__m___8_ : w_1[(m + 8)]? = some (mI 0 8 lt) := by rw [ew_1, List.getElem?_set_ne (by omega), List.getElem?_set_ne (by omega)]; exact hlt
  have hf1__m___9_ : w_1[(m + 9)]? = some (mI 0 41 wdF) := by rw [ew_1, List.getElem?_set_ne (by omega), List.getElem?_set_ne (by omega)]; exact hwd
  have hf1__m___10_ : w_1[(m + 10)]? = some (mI 0 9 waF) := by rw [ew_1, List.getElem?_set_ne (by omega), List.getElem?_set_ne (by omega)]; exact hwa
  have hF_1 : Fr m w w_1 := by rw [ew_1]; exact (Fr.set (Fr.set hF0 (by omega) (by omega)) (by omega) (by omega))
  show Wp X 0 0 w_1 [(0, .ref m), (1, .int q), (2, .int c), (3, .int x)] [] 4
  refine r_aload_n hC dX9_drop_4 rfl (j := 0) rfl ?_
  refine r_aload_n hC dX9_drop_5 rfl (j := 0) rfl ?_
  refine r_iload_n hC dX9_drop_6 rfl (j := 1) rfl ?_
  refine r_iload_n hC dX9_drop_7 rfl (j := 2) rfl ?_
  refine r_iload_n hC dX9_drop_8 rfl (j := 3) rfl ?_
  refine r_callV hC (vs := [.int q, .int c, .int x]) vX9_drop_9 (sm_drops (d := d) hf1_m hf1__m___1_ h25 hop hlg hnp hT) hf1_m rfl rfl (by omega) (by omega) (by omega) (Nat.le_of_ble_eq_true rfl) (fun v_2 w_2 hP_2 hlen_2 => ?_) (fun _ _ h => h.elim)
  rcases hP_2 with ⟨he_2, hv_2, ew_2⟩ | ⟨he_2, hv_2, ew_2⟩
  · rw [hv_2]
    have hf2_m : w_2[m]? = some (mO 10 [.int 0, .int (nI l.length), .int ea, .int fa, .int (bI so.isSome), .ref (m + 1), .ref (m + 2), .ref (m + 3), .ref (m + 4), .ref (m + 5), .ref (m + 6), .ref (m + 7), .ref (m + 8), .ref (m + 9), .ref (m + 10), .int (nI tn), .int he, .int en, .int (nI ln), .int iw, .int id0]) := by rw [ew_2, List.getElem?_set_ne (by omega)]; exact hf1_m
    have hf2__m___1_ : w_2[(m + 1)]? = some (mI 0 67 (enc (sDrop ((f, g, sl, op, lo), hd, rs, np, tp, av, lg, pl, tk) q.toNatClampNeg c.toNatClampNeg x))) := by rw [ew_2]; exact List.getElem?_set_self (lt_of_get hf1__m___1_)
    have hf2__m___2_ : w_2[(m + 2)]? = some (mI 0 67 (enc ((f, g, sl, op, lo), hd, rs, np, tp, av, lg, pl, tk))) := by rw [ew_2, List.getElem?_set_ne (by omega)]; exact hf1__m___2_
    have hf2__m___3_ : w_2[(m + 3)]? = some (mI 0 67 sf) := by rw [ew_2, List.getElem?_set_ne (by omega)]; exact hf1__m___3_
    have hf2__m___4_ : w_2[(m + 4)]? = some (mI 0 67 kf) := by rw [ew_2, List.getElem?_set_ne (by omega)]; exact hf1__m___4_
    have hf2__m___5_ : w_2[(m + 5)]? = some (mI 0 536 pf) := by rw [ew_2, List.getElem?_set_ne (by omega)]; exact hf1__m___5_
    have hf2__m___6_ : w_2[(m + 6)]? = some (mI 0 60 tx) := by rw [ew_2, List.getElem?_set_ne (by omega)]; exact hf1__m___6_
    have hf2__m___7_ : w_2[(m + 7)]? = some (mI 0 40 lf) := by rw [ew_2, List.getElem?_set_ne (by omega)]; exact hf1__m___7_
    have hf2__m___8_ : w_2[(m + 8)]? = some (mI 0 8 lt) := by rw [ew_2, List.getElem?_set_ne (by omega)]; exact hf1__m___8_
    have hf2__m___9_ : w_2[(m + 9)]? = some (mI 0 41 wdF) := by rw [ew_2, List.getElem?_set_ne (by omega)]; exact hf1__m___9_
    have hf2__m___10_ : w_2[(m + 10)]? = some (mI 0 9 waF) := by rw [ew_2, List.getElem?_set_ne (by omega)]; exact hf1__m___10_
    have hF_2 : Fr m w w_2 := by rw [ew_2]; exact (Fr.set hF_1 (by omega) (by omega))
    show Wp X 0 0 w_2 [(0, .ref m), (1, .int q), (2, .int c), (3, .int x)] [.int (sDropN ((f, g, sl, op, lo), hd, rs, np, tp, av, lg, pl, tk) c.toNatClampNeg x (nI q.toNatClampNeg)), .ref m] 12
    refine r_callV hC (vs := [.int (sDropN ((f, g, sl, op, lo), hd, rs, np, tp, av, lg, pl, tk) c.toNatClampNeg x (nI q.toNatClampNeg))]) vX9_drop_12 (sm_endsK (y := ((f, g, sl, op, lo), hd, rs, np, tp, av, lg, pl, tk)) (d := d + 6 + 1) hf2_m hf2__m___2_ hf2__m___5_ hpo) hf2_m rfl rfl (by omega) (by omega) (by omega) (Nat.le_of_ble_eq_true rfl) (fun v_3 w_3 hP_3 hlen_3 => ?_) (fun _ _ h => h.elim)
    obtain ⟨hv_3, q_3, hq_3, ew_3⟩ := hP_3
    rw [hv_3]
    have hf3_m : w_3[m]? = some (mO 10 [.int 0, .int (nI (push8 l ((f, g, sl, op, lo), hd, rs, np, tp, av, lg, pl, tk)).length), .int ea, .int fa, .int (bI so.isSome), .ref (m + 1), .ref (m + 2), .ref (m + 3), .ref (m + 4), .ref (m + 5), .ref (m + 6), .ref (m + 7), .ref (m + 8), .ref (m + 9), .ref (m + 10), .int (nI tn), .int he, .int en, .int (nI ln), .int iw, .int id0]) := by rw [ew_3]; exact List.getElem?_set_self (by simp only [List.length_set]; exact lt_of_get hf2_m)
    have hf3__m___1_ : w_3[(m + 1)]? = some (mI 0 67 (enc (sDrop ((f, g, sl, op, lo), hd, rs, np, tp, av, lg, pl, tk) q.toNatClampNeg c.toNatClampNeg x))) := by rw [ew_3, List.getElem?_set_ne (by omega), List.getElem?_set_ne (by omega)]; exact hf2__m___1_
    have hf3__m___2_ : w_3[(m + 2)]? = some (mI 0 67 (enc ((f, g, sl, op, lo), hd, rs, np, tp, av, lg, pl, tk))) := by rw [ew_3, List.getElem?_set_ne (by omega), List.getElem?_set_ne (by omega)]; exact hf2__m___2_
    have hf3__m___3_ : w_3[(m + 3)]? = some (mI 0 67 sf) := by rw [ew_3, List.getElem?_set_ne (by omega), List.getElem?_set_ne (by omega)]; exact hf2__m___3_
    have hf3__m___4_ : w_3[(m + 4)]? = some (mI 0 67 kf) := by rw [ew_3, List.getElem?_set_ne (by omega), List.getElem?_set_ne (by omega)]; exact hf2__m___4_
    have hf3__m___5_ : w_3[(m + 5)]? = some (mI 0 536 q_3) := by rw [ew_3, List.getElem?_set_ne (by omega)]; exact List.getElem?_set_self (lt_of_get hf2__m___5_)
    have hf3__m___6_ : w_3[(m + 6)]? = some (mI 0 60 tx) := by rw [ew_3, List.getElem?_set_ne (by omega), List.getElem?_set_ne (by omega)]; exact hf2__m___6_
    have hf3__m___7_ : w_3[(m + 7)]? = some (mI 0 40 lf) := by rw [ew_3, List.getElem?_set_ne (by omega), List.getElem?_set_ne (by omega)]; exact hf2__m___7_
    have hf3__m___8_ : w_3[(m + 8)]? = some (mI 0 8 lt) := by rw [ew_3, List.getElem?_set_ne (by omega), List.getElem?_set_ne (by omega)]; exact hf2__m___8_
    have hf3__m___9_ : w_3[(m + 9)]? = some (mI 0 41 wdF) := by rw [ew_3, List.getElem?_set_ne (by omega), List.getElem?_set_ne (by omega)]; exact hf2__m___9_
    have hf3__m___10_ : w_3[(m + 10)]? = some (mI 0 9 waF) := by rw [ew_3, List.getElem?_set_ne (by omega), List.getElem?_set_ne (by omega)]; exact hf2__m___10_
    have hF_3 : Fr m w w_3 := by rw [ew_3]; exact (Fr.set (Fr.set hF_2 (by omega) (by omega)) (by omega) (by omega))
    show Wp X 0 0 w_3 [(0, .ref m), (1, .int q), (2, .int c), (3, .int x)] [.int (sDropN ((f, g, sl, op, lo), hd, rs, np, tp, av, lg, pl, tk) c.toNatClampNeg x (nI q.toNatClampNeg))] 15
    refine r_iret hC hE hR dX9_drop_15 (by omega) (by omega) (hF_3.1) ?_
    exact Or.inl ⟨he_2, rfl, ⟨⟨_, _, _, _, _, _, _, _, _, hf3_m, hf3__m___1_, hf3__m___2_, hf3__m___3_, hf3__m___4_, hf3__m___5_, hf3__m___6_, hf3__m___7_, hf3__m___8_, hf3__m___9_, hf3__m___10_, hq_3, hso⟩, hF_3⟩⟩
  · rw [hv_2]
    have hf2_m : w_2[m]? = some (mO 10 [.int (nD (fltDrop f hd rs np q c x)), .int (nI l.length), .int ea, .int fa, .int (bI so.isSome), .ref (m + 1), .ref (m + 2), .ref (m + 3), .ref (m + 4), .ref (m + 5), .ref (m + 6), .ref (m + 7), .ref (m + 8), .ref (m + 9), .ref (m + 10), .int (nI tn), .int he, .int en, .int (nI ln), .int iw, .int id0]) := by rw [ew_2]; exact List.getElem?_set_self (lt_of_get hf1_m)
    have hf2__m___1_ : w_2[(m + 1)]? = some (mI 0 67 (enc ((f, g, sl, op, lo), hd, rs, np, tp, av, lg, pl, tk))) := by rw [ew_2, List.getElem?_set_ne (by omega)]; exact hf1__m___1_
    have hf2__m___2_ : w_2[(m + 2)]? = some (mI 0 67 (enc ((f, g, sl, op, lo), hd, rs, np, tp, av, lg, pl, tk))) := by rw [ew_2, List.getElem?_set_ne (by omega)]; exact hf1__m___2_
    have hf2__m___3_ : w_2[(m + 3)]? = some (mI 0 67 sf) := by rw [ew_2, List.getElem?_set_ne (by omega)]; exact hf1__m___3_
    have hf2__m___4_ : w_2[(m + 4)]? = some (mI 0 67 kf) := by rw [ew_2, List.getElem?_set_ne (by omega)]; exact hf1__m___4_
    have hf2__m___5_ : w_2[(m + 5)]? = some (mI 0 536 pf) := by rw [ew_2, List.getElem?_set_ne (by omega)]; exact hf1__m___5_
    have hf2__m___6_ : w_2[(m + 6)]? = some (mI 0 60 tx) := by rw [ew_2, List.getElem?_set_ne (by omega)]; exact hf1__m___6_
    have hf2__m___7_ : w_2[(m + 7)]? = some (mI 0 40 lf) := by rw [ew_2, List.getElem?_set_ne (by omega)]; exact hf1__m___7_
    have hf2__m___8_ : w_2[(m + 8)]? = some (mI 0 8 lt) := by rw [ew_2, List.getElem?_set_ne (by omega)]; exact hf1__m___8_
    have hf2__m___9_ : w_2[(m + 9)]? = some (mI 0 41 wdF) := by rw [ew_2, List.getElem?_set_ne (by omega)]; exact hf1__m___9_
    have hf2__m___10_ : w_2[(m + 10)]? = some (mI 0 9 waF) := by rw [ew_2, List.getElem?_set_ne (by omega)]; exact hf1__m___10_
    have hF_2 : Fr m w w_2 := by rw [ew_2]; exact (Fr.set hF_1 (by omega) (by omega))
    show Wp X 0 0 w_2 [(0, .ref m), (1, .int q), (2, .int c), (3, .int x)] [.int 0, .ref m] 12
    refine r_callV hC (vs := [.int 0]) vX9_drop_12 (sm_endsF (d := d + 6) hf2_m hf2__m___1_ hf2__m___2_ nD_ne) hf2_m rfl rfl (by omega) (by omega) (by omega) (Nat.le_of_ble_eq_true rfl) (fun v_4 w_4 hP_4 hlen_4 => ?_) (fun _ _ h => h.elim)
    obtain ⟨hv_4, ew_4⟩ := hP_4
    rw [hv_4]
    have hf4_m : w_4[m]? = some (mO 10 [.int (nD (fltDrop f hd rs np q c x)), .int (nI l.length), .int ea, .int fa, .int (bI so.isSome), .ref (m + 1), .ref (m + 2), .ref (m + 3), .ref (m + 4), .ref (m + 5), .ref (m + 6), .ref (m + 7), .ref (m + 8), .ref (m + 9), .ref (m + 10), .int (nI tn), .int he, .int en, .int (nI ln), .int iw, .int id0]) := by rw [ew_4, List.getElem?_set_ne (by omega)]; exact hf2_m
    have hf4__m___1_ : w_4[(m + 1)]? = some (mI 0 67 (enc ((f, g, sl, op, lo), hd, rs, np, tp, av, lg, pl, tk))) := by rw [ew_4]; exact List.getElem?_set_self (lt_of_get hf2__m___1_)
    have hf4__m___2_ : w_4[(m + 2)]? = some (mI 0 67 (enc ((f, g, sl, op, lo), hd, rs, np, tp, av, lg, pl, tk))) := by rw [ew_4, List.getElem?_set_ne (by omega)]; exact hf2__m___2_
    have hf4__m___3_ : w_4[(m + 3)]? = some (mI 0 67 sf) := by rw [ew_4, List.getElem?_set_ne (by omega)]; exact hf2__m___3_
    have hf4__m___4_ : w_4[(m + 4)]? = some (mI 0 67 kf) := by rw [ew_4, List.getElem?_set_ne (by omega)]; exact hf2__m___4_
    have hf4__m___5_ : w_4[(m + 5)]? = some (mI 0 536 pf) := by rw [ew_4, List.getElem?_set_ne (by omega)]; exact hf2__m___5_
    have hf4__m___6_ : w_4[(m + 6)]? = some (mI 0 60 tx) := by rw [ew_4, List.getElem?_set_ne (by omega)]; exact hf2__m___6_
    have hf4__m___7_ : w_4[(m + 7)]? = some (mI 0 40 lf) := by rw [ew_4, List.getElem?_set_ne (by omega)]; exact hf2__m___7_
    have hf4__m___8_ : w_4[(m + 8)]? = some (mI 0 8 lt) := by rw [ew_4, List.getElem?_set_ne (by omega)]; exact hf2__m___8_
    have hf4__m___9_ : w_4[(m + 9)]? = some (mI 0 41 wdF) := by rw [ew_4, List.getElem?_set_ne (by omega)]; exact hf2__m___9_
    have hf4__m___10_ : w_4[(m + 10)]? = some (mI 0 9 waF) := by rw [ew_4, List.getElem?_set_ne (by omega)]; exact hf2__m___10_
    have hF_4 : Fr m w w_4 := by rw [ew_4]; exact (Fr.set hF_2 (by omega) (by omega))
    show Wp X 0 0 w_4 [(0, .ref m), (1, .int q), (2, .int c), (3, .int x)] [.int 0] 15
    refine r_iret hC hE hR dX9_drop_15 (by omega) (by omega) (hF_4.1) ?_
    exact Or.inr ⟨he_2, rfl, ⟨⟨_, _, _, _, _, _, _, _, _, hf4_m, hf4__m___1_, hf4__m___2_, hf4__m___3_, hf4__m___4_, hf4__m___5_, hf4__m___6_, hf4__m___7_, hf4__m___8_, hf4__m___9_, hf4__m___10_, hpo, hso⟩, hF_4⟩⟩
set_option maxRecDepth 100000 in
set_option maxHeartbeats 4000000 in
theorem sm_pile {d : Nat} {c x : Int32} {w : mW} {m : Nat} {th : Int32} {f g : Nat → Int32} {sl op lo : Int32} {hd rs : Nat → Int32} {np : Nat} {tp av lg pl tk : Int32} {l : List sv} {ea fa : Int32} {so : Option sv} {tx : Nat → Int32} {tn : Nat} {lf : Nat → Int32} {ln : Nat} (H : MdAt w m th ((f, g, sl, op, lo), hd, rs, np, tp, av, lg, pl, tk) l ea fa so tx tn lf ln) (h25 : f 25 = 0) (hop : op = 0 ∨ op = 1) (hlg : ¬ lg < 0) (hT : fltPile f c x = 1000010 → hNx (hRestF (hPlace (f, g, sl, op, lo) c.toNatClampNeg x (-1))).2 = none) : Sp (d + 8) yX9_pile cX9_pile 3 (some .int) [.ref m, .int c, .int x] w 0 0 (fun v w' => (fltPile f c x = 1000010 ∧ v = some (.int (sDropN ((f, g, sl, op, lo), hd, rs, np, tp, av, lg, pl, tk) c.toNatClampNeg x (-1))) ∧ MdTo w w' m 0 (sPile ((f, g, sl, op, lo), hd, rs, np, tp, av, lg, pl, tk) c.toNatClampNeg x) (push8 l ((f, g, sl, op, lo), hd, rs, np, tp, av, lg, pl, tk)) ea fa so tx tn lf ln) ∨ (¬ fltPile f c x = 1000010 ∧ v = some (.int 0) ∧ MdTo w w' m (nD (fltPile f c x)) ((f, g, sl, op, lo), hd, rs, np, tp, av, lg, pl, tk) l ea fa so tx tn lf ln)) noX := by
  refine Sp.of (by decide +kernel) (Nat.le_of_ble_eq_true rfl) (fun X hC hnl hE hR hN => ?_)
  have hC : Cx X RX9 cX9_pile (d + 8) 0 0 := hC
  show Wp X 0 0 w [(0, .ref m), (1, .int c), (2, .int x)] [] 0
  obtain ⟨he, en, iw, id0, bf, sf, kf, pf, lt, hm, hv, hbf, hsf, hkf, hpf, htx, hlf, hlt, hwd, hwa, hpo, hso⟩ := H
  have hF0 : Fr m w w := Fr.rfl
  refine r_aload_n hC dX9_pile_0 rfl (j := 0) rfl ?_
  refine r_callV hC (vs := []) vX9_pile_1 (sm_begins (d := d + 6) hm hv hbf) hm rfl rfl (by omega) (by omega) (by omega) (Nat.le_of_ble_eq_true rfl) (fun v_1 w_1 hP_1 hlen_1 => ?_) (fun _ _ h => h.elim)
  obtain ⟨hv_1, ew_1⟩ := hP_1
  rw [hv_1]
  have hf1_m : w_1[m]? = some (mO 10 [.int 0, .int (nI l.length), .int ea, .int fa, .int (bI so.isSome), .ref (m + 1), .ref (m + 2), .ref (m + 3), .ref (m + 4), .ref (m + 5), .ref (m + 6), .ref (m + 7), .ref (m + 8), .ref (m + 9), .ref (m + 10), .int (nI tn), .int he, .int en, .int (nI ln), .int iw, .int id0]) := by rw [ew_1, List.getElem?_set_ne (by omega)]; exact List.getElem?_set_self (lt_of_get hm)
  have hf1__m___1_ : w_1[(m + 1)]? = some (mI 0 67 (enc ((f, g, sl, op, lo), hd, rs, np, tp, av, lg, pl, tk))) := by rw [ew_1, List.getElem?_set_ne (by omega), List.getElem?_set_ne (by omega)]; exact hv
  have hf1__m___2_ : w_1[(m + 2)]? = some (mI 0 67 (enc ((f, g, sl, op, lo), hd, rs, np, tp, av, lg, pl, tk))) := by rw [ew_1]; exact List.getElem?_set_self (by simp only [List.length_set]; exact lt_of_get hbf)
  have hf1__m___3_ : w_1[(m + 3)]? = some (mI 0 67 sf) := by rw [ew_1, List.getElem?_set_ne (by omega), List.getElem?_set_ne (by omega)]; exact hsf
  have hf1__m___4_ : w_1[(m + 4)]? = some (mI 0 67 kf) := by rw [ew_1, List.getElem?_set_ne (by omega), List.getElem?_set_ne (by omega)]; exact hkf
  have hf1__m___5_ : w_1[(m + 5)]? = some (mI 0 536 pf) := by rw [ew_1, List.getElem?_set_ne (by omega), List.getElem?_set_ne (by omega)]; exact hpf
  have hf1__m___6_ : w_1[(m + 6)]? = some (mI 0 60 tx) := by rw [ew_1, List.getElem?_set_ne (by omega), List.getElem?_set_ne (by omega)]; exact htx
  have hf1__m___7_ : w_1[(m + 7)]? = some (mI 0 40 lf) := by rw [ew_1, List.getElem?_set_ne (by omega), List.getElem?_set_ne (by omega)]; exact hlf
  have hf1__m___8_ : w_1[(m + 8)]? = some (mI 0 8 lt) := by rw [ew_1, List.getElem?_set_ne (by omega), List.getElem?_set_ne (by omega)]; exact hlt
  have hf1__m___9_ : w_1[(m + 9)]? = some (mI 0 41 wdF) := by rw [ew_1, List.getElem?_set_ne (by omega), List.getElem?_set_ne (by omega)]; exact hwd
  have hf1__m___10_ : w_1[(m + 10)]? = some (mI 0 9 waF) := by rw [ew_1, List.getElem?_set_ne (by omega), List.getElem?_set_ne (by omega)]; exact hwa
  have hF_1 : Fr m w w_1 := by rw [ew_1]; exact (Fr.set (Fr.set hF0 (by omega) (by omega)) (by omega) (by omega))
  show Wp X 0 0 w_1 [(0, .ref m), (1, .int c), (2, .int x)] [] 4
  refine r_aload_n hC dX9_pile_4 rfl (j := 0) rfl ?_
  refine r_aload_n hC dX9_pile_5 rfl (j := 0) rfl ?_
  refine r_iload_n hC dX9_pile_6 rfl (j := 1) rfl ?_
  refine r_iload_n hC dX9_pile_7 rfl (j := 2) rfl ?_
  refine r_callV hC (vs := [.int c, .int x]) vX9_pile_8 (sm_piles (d := d) hf1_m hf1__m___1_ h25 hop hlg hT) hf1_m rfl rfl (by omega) (by omega) (by omega) (Nat.le_of_ble_eq_true rfl) (fun v_2 w_2 hP_2 hlen_2 => ?_) (fun _ _ h => h.elim)
  rcases hP_2 with ⟨he_2, hv_2, ew_2⟩ | ⟨he_2, hv_2, ew_2⟩
  · rw [hv_2]
    have hf2_m : w_2[m]? = some (mO 10 [.int 0, .int (nI l.length), .int ea, .int fa, .int (bI so.isSome), .ref (m + 1), .ref (m + 2), .ref (m + 3), .ref (m + 4), .ref (m + 5), .ref (m + 6), .ref (m + 7), .ref (m + 8), .ref (m + 9), .ref (m + 10), .int (nI tn), .int he, .int en, .int (nI ln), .int iw, .int id0]) := by rw [ew_2, List.getElem?_set_ne (by omega)]; exact hf1_m
    have hf2__m___1_ : w_2[(m + 1)]? = some (mI 0 67 (enc (sPile ((f, g, sl, op, lo), hd, rs, np, tp, av, lg, pl, tk) c.toNatClampNeg x))) := by rw [ew_2]; exact List.getElem?_set_self (lt_of_get hf1__m___1_)
    have hf2__m___2_ : w_2[(m + 2)]? = some (mI 0 67 (enc ((f, g, sl, op, lo), hd, rs, np, tp, av, lg, pl, tk))) := by rw [ew_2, List.getElem?_set_ne (by omega)]; exact hf1__m___2_
    have hf2__m___3_ : w_2[(m + 3)]? = some (mI 0 67 sf) := by rw [ew_2, List.getElem?_set_ne (by omega)]; exact hf1__m___3_
    have hf2__m___4_ : w_2[(m + 4)]? = some (mI 0 67 kf) := by rw [ew_2, List.getElem?_set_ne (by omega)]; exact hf1__m___4_
    have hf2__m___5_ : w_2[(m + 5)]? = some (mI 0 536 pf) := by rw [ew_2, List.getElem?_set_ne (by omega)]; exact hf1__m___5_
    have hf2__m___6_ : w_2[(m + 6)]? = some (mI 0 60 tx) := by rw [ew_2, List.getElem?_set_ne (by omega)]; exact hf1__m___6_
    have hf2__m___7_ : w_2[(m + 7)]? = some (mI 0 40 lf) := by rw [ew_2, List.getElem?_set_ne (by omega)]; exact hf1__m___7_
    have hf2__m___8_ : w_2[(m + 8)]? = some (mI 0 8 lt) := by rw [ew_2, List.getElem?_set_ne (by omega)]; exact hf1__m___8_
    have hf2__m___9_ : w_2[(m + 9)]? = some (mI 0 41 wdF) := by rw [ew_2, List.getElem?_set_ne (by omega)]; exact hf1__m___9_
    have hf2__m___10_ : w_2[(m + 10)]? = some (mI 0 9 waF) := by rw [ew_2, List.getElem?_set_ne (by omega)]; exact hf1__m___10_
    have hF_2 : Fr m w w_2 := by rw [ew_2]; exact (Fr.set hF_1 (by omega) (by omega))
    show Wp X 0 0 w_2 [(0, .ref m), (1, .int c), (2, .int x)] [.int (sDropN ((f, g, sl, op, lo), hd, rs, np, tp, av, lg, pl, tk) c.toNatClampNeg x (-1)), .ref m] 11
    refine r_callV hC (vs := [.int (sDropN ((f, g, sl, op, lo), hd, rs, np, tp, av, lg, pl, tk) c.toNatClampNeg x (-1))]) vX9_pile_11 (sm_endsK (y := ((f, g, sl, op, lo), hd, rs, np, tp, av, lg, pl, tk)) (d := d + 6 + 1) hf2_m hf2__m___2_ hf2__m___5_ hpo) hf2_m rfl rfl (by omega) (by omega) (by omega) (Nat.le_of_ble_eq_true rfl) (fun v_3 w_3 hP_3 hlen_3 => ?_) (fun _ _ h => h.elim)
    obtain ⟨hv_3, q_3, hq_3, ew_3⟩ := hP_3
    rw [hv_3]
    have hf3_m : w_3[m]? = some (mO 10 [.int 0, .int (nI (push8 l ((f, g, sl, op, lo), hd, rs, np, tp, av, lg, pl, tk)).length), .int ea, .int fa, .int (bI so.isSome), .ref (m + 1), .ref (m + 2), .ref (m + 3), .ref (m + 4), .ref (m + 5), .ref (m + 6), .ref (m + 7), .ref (m + 8), .ref (m + 9), .ref (m + 10), .int (nI tn), .int he, .int en, .int (nI ln), .int iw, .int id0]) := by rw [ew_3]; exact List.getElem?_set_self (by simp only [List.length_set]; exact lt_of_get hf2_m)
    have hf3__m___1_ : w_3[(m + 1)]? = some (mI 0 67 (enc (sPile ((f, g, sl, op, lo), hd, rs, np, tp, av, lg, pl, tk) c.toNatClampNeg x))) := by rw [ew_3, List.getElem?_set_ne (by omega), List.getElem?_set_ne (by omega)]; exact hf2__m___1_
    have hf3__m___2_ : w_3[(m + 2)]? = some (mI 0 67 (enc ((f, g, sl, op, lo), hd, rs, np, tp, av, lg, pl, tk))) := by rw [ew_3, List.getElem?_set_ne (by omega), List.getElem?_set_ne (by omega)]; exact hf2__m___2_
    have hf3__m___3_ : w_3[(m + 3)]? = some (mI 0 67 sf) := by rw [ew_3, List.getElem?_set_ne (by omega), List.getElem?_set_ne (by omega)]; exact hf2__m___3_
    have hf3__m___4_ : w_3[(m + 4)]? = some (mI 0 67 kf) := by rw [ew_3, List.getElem?_set_ne (by omega), List.getElem?_set_ne (by omega)]; exact hf2__m___4_
    have hf3__m___5_ : w_3[(m + 5)]? = some (mI 0 536 q_3) := by rw [ew_3, List.getElem?_set_ne (by omega)]; exact List.getElem?_set_self (lt_of_get hf2__m___5_)
    have hf3__m___6_ : w_3[(m + 6)]? = some (mI 0 60 tx) := by rw [ew_3, List.getElem?_set_ne (by omega), List.getElem?_set_ne (by omega)]; exact hf2__m___6_
    have hf3__m___7_ : w_3[(m + 7)]? = some (mI 0 40 lf) := by rw [ew_3, List.getElem?_set_ne (by omega), List.getElem?_set_ne (by omega)]; exact hf2__m___7_
    have hf3__m___8_ : w_3[(m + 8)]? = some (mI 0 8 lt) := by rw [ew_3, List.getElem?_set_ne (by omega), List.getElem?_set_ne (by omega)]; exact hf2__m___8_
    have hf3__m___9_ : w_3[(m + 9)]? = some (mI 0 41 wdF) := by rw [ew_3, List.getElem?_set_ne (by omega), List.getElem?_set_ne (by omega)]; exact hf2__m___9_
    have hf3__m___10_ : w_3[(m + 10)]? = some (mI 0 9 waF) := by rw [ew_3, List.getElem?_set_ne (by omega), List.getElem?_set_ne (by omega)]; exact hf2__m___10_
    have hF_3 : Fr m w w_3 := by rw [ew_3]; exact (Fr.set (Fr.set hF_2 (by omega) (by omega)) (by omega) (by omega))
    show Wp X 0 0 w_3 [(0, .ref m), (1, .int c), (2, .int x)] [.int (sDropN ((f, g, sl, op, lo), hd, rs, np, tp, av, lg, pl, tk) c.toNatClampNeg x (-1))] 14
    refine r_iret hC hE hR dX9_pile_14 (by omega) (by omega) (hF_3.1) ?_
    exact Or.inl ⟨he_2, rfl, ⟨⟨_, _, _, _, _, _, _, _, _, hf3_m, hf3__m___1_, hf3__m___2_, hf3__m___3_, hf3__m___4_, hf3__m___5_, hf3__m___6_, hf3__m___7_, hf3__m___8_, hf3__m___9_, hf3__m___10_, hq_3, hso⟩, hF_3⟩⟩
  · rw [hv_2]
    have hf2_m : w_2[m]? = some (mO 10 [.int (nD (fltPile f c x)), .int (nI l.length), .int ea, .int fa, .int (bI so.isSome), .ref (m + 1), .ref (m + 2), .ref (m + 3), .ref (m + 4), .ref (m + 5), .ref (m + 6), .ref (m + 7), .ref (m + 8), .ref (m + 9), .ref (m + 10), .int (nI tn), .int he, .int en, .int (nI ln), .int iw, .int id0]) := by rw [ew_2]; exact List.getElem?_set_self (lt_of_get hf1_m)
    have hf2__m___1_ : w_2[(m + 1)]? = some (mI 0 67 (enc ((f, g, sl, op, lo), hd, rs, np, tp, av, lg, pl, tk))) := by rw [ew_2, List.getElem?_set_ne (by omega)]; exact hf1__m___1_
    have hf2__m___2_ : w_2[(m + 2)]? = some (mI 0 67 (enc ((f, g, sl, op, lo), hd, rs, np, tp, av, lg, pl, tk))) := by rw [ew_2, List.getElem?_set_ne (by omega)]; exact hf1__m___2_
    have hf2__m___3_ : w_2[(m + 3)]? = some (mI 0 67 sf) := by rw [ew_2, List.getElem?_set_ne (by omega)]; exact hf1__m___3_
    have hf2__m___4_ : w_2[(m + 4)]? = some (mI 0 67 kf) := by rw [ew_2, List.getElem?_set_ne (by omega)]; exact hf1__m___4_
    have hf2__m___5_ : w_2[(m + 5)]? = some (mI 0 536 pf) := by rw [ew_2, List.getElem?_set_ne (by omega)]; exact hf1__m___5_
    have hf2__m___6_ : w_2[(m + 6)]? = some (mI 0 60 tx) := by rw [ew_2, List.getElem?_set_ne (by omega)]; exact hf1__m___6_
    have hf2__m___7_ : w_2[(m + 7)]? = some (mI 0 40 lf) := by rw [ew_2, List.getElem?_set_ne (by omega)]; exact hf1__m___7_
    have hf2__m___8_ : w_2[(m + 8)]? = some (mI 0 8 lt) := by rw [ew_2, List.getElem?_set_ne (by omega)]; exact hf1__m___8_
    have hf2__m___9_ : w_2[(m + 9)]? = some (mI 0 41 wdF) := by rw [ew_2, List.getElem?_set_ne (by omega)]; exact hf1__m___9_
    have hf2__m___10_ : w_2[(m + 10)]? = some (mI 0 9 waF) := by rw [ew_2, List.getElem?_set_ne (by omega)]; exact hf1__m___10_
    have hF_2 : Fr m w w_2 := by rw [ew_2]; exact (Fr.set hF_1 (by omega) (by omega))
    show Wp X 0 0 w_2 [(0, .ref m), (1, .int c), (2, .int x)] [.int 0, .ref m] 11
    refine r_callV hC (vs := [.int 0]) vX9_pile_11 (sm_endsF (d := d + 6) hf2_m hf2__m___1_ hf2__m___2_ nD_ne) hf2_m rfl rfl (by omega) (by omega) (by omega) (Nat.le_of_ble_eq_true rfl) (fun v_4 w_4 hP_4 hlen_4 => ?_) (fun _ _ h => h.elim)
    obtain ⟨hv_4, ew_4⟩ := hP_4
    rw [hv_4]
    have hf4_m : w_4[m]? = some (mO 10 [.int (nD (fltPile f c x)), .int (nI l.length), .int ea, .int fa, .int (bI so.isSome), .ref (m + 1), .ref (m + 2), .ref (m + 3), .ref (m + 4), .ref (m + 5), .ref (m + 6), .ref (m + 7), .ref (m + 8), .ref (m + 9), .ref (m + 10), .int (nI tn), .int he, .int en, .int (nI ln), .int iw, .int id0]) := by rw [ew_4, List.getElem?_set_ne (by omega)]; exact hf2_m
    have hf4__m___1_ : w_4[(m + 1)]? = some (mI 0 67 (enc ((f, g, sl, op, lo), hd, rs, np, tp, av, lg, pl, tk))) := by rw [ew_4]; exact List.getElem?_set_self (lt_of_get hf2__m___1_)
    have hf4__m___2_ : w_4[(m + 2)]? = some (mI 0 67 (enc ((f, g, sl, op, lo), hd, rs, np, tp, av, lg, pl, tk))) := by rw [ew_4, List.getElem?_set_ne (by omega)]; exact hf2__m___2_
    have hf4__m___3_ : w_4[(m + 3)]? = some (mI 0 67 sf) := by rw [ew_4, List.getElem?_set_ne (by omega)]; exact hf2__m___3_
    have hf4__m___4_ : w_4[(m + 4)]? = some (mI 0 67 kf) := by rw [ew_4, List.getElem?_set_ne (by omega)]; exact hf2__m___4_
    have hf4__m___5_ : w_4[(m + 5)]? = some (mI 0 536 pf) := by rw [ew_4, List.getElem?_set_ne (by omega)]; exact hf2__m___5_
    have hf4__m___6_ : w_4[(m + 6)]? = some (mI 0 60 tx) := by rw [ew_4, List.getElem?_set_ne (by omega)]; exact hf2__m___6_
    have hf4__m___7_ : w_4[(m + 7)]? = some (mI 0 40 lf) := by rw [ew_4, List.getElem?_set_ne (by omega)]; exact hf2__m___7_
    have hf4__m___8_ : w_4[(m + 8)]? = some (mI 0 8 lt) := by rw [ew_4, List.getElem?_set_ne (by omega)]; exact hf2__m___8_
    have hf4__m___9_ : w_4[(m + 9)]? = some (mI 0 41 wdF) := by rw [ew_4, List.getElem?_set_ne (by omega)]; exact hf2__m___9_
    have hf4__m___10_ : w_4[(m + 10)]? = some (mI 0 9 waF) := by rw [ew_4, List.getElem?_set_ne (by omega)]; exact hf2__m___10_
    have hF_4 : Fr m w w_4 := by rw [ew_4]; exact (Fr.set hF_2 (by omega) (by omega))
    show Wp X 0 0 w_4 [(0, .ref m), (1, .int c), (2, .int x)] [.int 0] 14
    refine r_iret hC hE hR dX9_pile_14 (by omega) (by omega) (hF_4.1) ?_
    exact Or.inr ⟨he_2, rfl, ⟨⟨_, _, _, _, _, _, _, _, _, hf4_m, hf4__m___1_, hf4__m___2_, hf4__m___3_, hf4__m___4_, hf4__m___5_, hf4__m___6_, hf4__m___7_, hf4__m___8_, hf4__m___9_, hf4__m___10_, hpo, hso⟩, hF_4⟩⟩
set_option maxRecDepth 100000 in
set_option maxHeartbeats 4000000 in
theorem sm_take {d : Nat} {q c : Int32} {w : mW} {m : Nat} {th : Int32} {f g : Nat → Int32} {sl op lo : Int32} {hd rs : Nat → Int32} {np : Nat} {tp av lg pl tk : Int32} {l : List sv} {ea fa : Int32} {so : Option sv} {tx : Nat → Int32} {tn : Nat} {lf : Nat → Int32} {ln : Nat} (H : MdAt w m th ((f, g, sl, op, lo), hd, rs, np, tp, av, lg, pl, tk) l ea fa so tx tn lf ln) (h25 : f 25 = 0) (hop : op = 0 ∨ op = 1) (hlg : ¬ lg < 0) (hnp : np ≤ 4) (hT : fltTake f g np q c = 1000010 → hNx (hRestF (hRem (f, g, sl, op, lo) c.toNatClampNeg)).2 = none) : Sp (d + 7) yX9_take cX9_take 3 (some .int) [.ref m, .int q, .int c] w 0 0 (fun v w' => (fltTake f g np q c = 1000010 ∧ v = some (.int (nI (hRestF (hRem (f, g, sl, op, lo) c.toNatClampNeg)).1)) ∧ MdTo w w' m 0 (sTake ((f, g, sl, op, lo), hd, rs, np, tp, av, lg, pl, tk) q.toNatClampNeg c.toNatClampNeg) (push8 l ((f, g, sl, op, lo), hd, rs, np, tp, av, lg, pl, tk)) ea fa so tx tn lf ln) ∨ (¬ fltTake f g np q c = 1000010 ∧ v = some (.int 0) ∧ MdTo w w' m (nT (fltTake f g np q c)) ((f, g, sl, op, lo), hd, rs, np, tp, av, lg, pl, tk) l ea fa so tx tn lf ln)) noX := by
  refine Sp.of (by decide +kernel) (Nat.le_of_ble_eq_true rfl) (fun X hC hnl hE hR hN => ?_)
  have hC : Cx X RX9 cX9_take (d + 7) 0 0 := hC
  show Wp X 0 0 w [(0, .ref m), (1, .int q), (2, .int c)] [] 0
  obtain ⟨he, en, iw, id0, bf, sf, kf, pf, lt, hm, hv, hbf, hsf, hkf, hpf, htx, hlf, hlt, hwd, hwa, hpo, hso⟩ := H
  have hF0 : Fr m w w := Fr.rfl
  refine r_aload_n hC dX9_take_0 rfl (j := 0) rfl ?_
  refine r_callV hC (vs := []) vX9_take_1 (sm_begins (d := d + 5) hm hv hbf) hm rfl rfl (by omega) (by omega) (by omega) (Nat.le_of_ble_eq_true rfl) (fun v_1 w_1 hP_1 hlen_1 => ?_) (fun _ _ h => h.elim)
  obtain ⟨hv_1, ew_1⟩ := hP_1
  rw [hv_1]
  have hf1_m : w_1[m]? = some (mO 10 [.int 0, .int (nI l.length), .int ea, .int fa, .int (bI so.isSome), .ref (m + 1), .ref (m + 2), .ref (m + 3), .ref (m + 4), .ref (m + 5), .ref (m + 6), .ref (m + 7), .ref (m + 8), .ref (m + 9), .ref (m + 10), .int (nI tn), .int he, .int en, .int (nI ln), .int iw, .int id0]) := by rw [ew_1, List.getElem?_set_ne (by omega)]; exact List.getElem?_set_self (lt_of_get hm)
  have hf1__m___1_ : w_1[(m + 1)]? = some (mI 0 67 (enc ((f, g, sl, op, lo), hd, rs, np, tp, av, lg, pl, tk))) := by rw [ew_1, List.getElem?_set_ne (by omega), List.getElem?_set_ne (by omega)]; exact hv
  have hf1__m___2_ : w_1[(m + 2)]? = some (mI 0 67 (enc ((f, g, sl, op, lo), hd, rs, np, tp, av, lg, pl, tk))) := by rw [ew_1]; exact List.getElem?_set_self (by simp only [List.length_set]; exact lt_of_get hbf)
  have hf1__m___3_ : w_1[(m + 3)]? = some (mI 0 67 sf) := by rw [ew_1, List.getElem?_set_ne (by omega), List.getElem?_set_ne (by omega)]; exact hsf
  have hf1__m___4_ : w_1[(m + 4)]? = some (mI 0 67 kf) := by rw [ew_1, List.getElem?_set_ne (by omega), List.getElem?_set_ne (by omega)]; exact hkf
  have hf1__m___5_ : w_1[(m + 5)]? = some (mI 0 536 pf) := by rw [ew_1, List.getElem?_set_ne (by omega), List.getElem?_set_ne (by omega)]; exact hpf
  have hf1__m___6_ : w_1[(m + 6)]? = some (mI 0 60 tx) := by rw [ew_1, List.getElem?_set_ne (by omega), List.getElem?_set_ne (by omega)]; exact htx
  have hf1__m___7_ : w_1[(m + 7)]? = some (mI 0 40 lf) := by rw [ew_1, List.getElem?_set_ne (by omega), List.getElem?_set_ne (by omega)]; exact hlf
  have hf1__m___8_ : w_1[(m + 8)]? = some (mI 0 8 lt) := by rw [ew_1, List.getElem?_set_ne (by omega), List.getElem?_set_ne (by omega)]; exact hlt
  have hf1__m___9_ : w_1[(m + 9)]? = some (mI 0 41 wdF) := by rw [ew_1, List.getElem?_set_ne (by omega), List.getElem?_set_ne (by omega)]; exact hwd
  have hf1__m___10_ : w_1[(m + 10)]? = some (mI 0 9 waF) := by rw [ew_1, List.getElem?_set_ne (by omega), List.getElem?_set_ne (by omega)]; exact hwa
  have hF_1 : Fr m w w_1 := by rw [ew_1]; exact (Fr.set (Fr.set hF0 (by omega) (by omega)) (by omega) (by omega))
  show Wp X 0 0 w_1 [(0, .ref m), (1, .int q), (2, .int c)] [] 4
  refine r_aload_n hC dX9_take_4 rfl (j := 0) rfl ?_
  refine r_aload_n hC dX9_take_5 rfl (j := 0) rfl ?_
  refine r_iload_n hC dX9_take_6 rfl (j := 1) rfl ?_
  refine r_iload_n hC dX9_take_7 rfl (j := 2) rfl ?_
  refine r_callV hC (vs := [.int q, .int c]) vX9_take_8 (sm_takes (d := d) hf1_m hf1__m___1_ h25 hop hlg hnp hT) hf1_m rfl rfl (by omega) (by omega) (by omega) (Nat.le_of_ble_eq_true rfl) (fun v_2 w_2 hP_2 hlen_2 => ?_) (fun _ _ h => h.elim)
  rcases hP_2 with ⟨he_2, hv_2, ew_2⟩ | ⟨he_2, hv_2, ew_2⟩
  · rw [hv_2]
    have hf2_m : w_2[m]? = some (mO 10 [.int 0, .int (nI l.length), .int ea, .int fa, .int (bI so.isSome), .ref (m + 1), .ref (m + 2), .ref (m + 3), .ref (m + 4), .ref (m + 5), .ref (m + 6), .ref (m + 7), .ref (m + 8), .ref (m + 9), .ref (m + 10), .int (nI tn), .int he, .int en, .int (nI ln), .int iw, .int id0]) := by rw [ew_2, List.getElem?_set_ne (by omega)]; exact hf1_m
    have hf2__m___1_ : w_2[(m + 1)]? = some (mI 0 67 (enc (sTake ((f, g, sl, op, lo), hd, rs, np, tp, av, lg, pl, tk) q.toNatClampNeg c.toNatClampNeg))) := by rw [ew_2]; exact List.getElem?_set_self (lt_of_get hf1__m___1_)
    have hf2__m___2_ : w_2[(m + 2)]? = some (mI 0 67 (enc ((f, g, sl, op, lo), hd, rs, np, tp, av, lg, pl, tk))) := by rw [ew_2, List.getElem?_set_ne (by omega)]; exact hf1__m___2_
    have hf2__m___3_ : w_2[(m + 3)]? = some (mI 0 67 sf) := by rw [ew_2, List.getElem?_set_ne (by omega)]; exact hf1__m___3_
    have hf2__m___4_ : w_2[(m + 4)]? = some (mI 0 67 kf) := by rw [ew_2, List.getElem?_set_ne (by omega)]; exact hf1__m___4_
    have hf2__m___5_ : w_2[(m + 5)]? = some (mI 0 536 pf) := by rw [ew_2, List.getElem?_set_ne (by omega)]; exact hf1__m___5_
    have hf2__m___6_ : w_2[(m + 6)]? = some (mI 0 60 tx) := by rw [ew_2, List.getElem?_set_ne (by omega)]; exact hf1__m___6_
    have hf2__m___7_ : w_2[(m + 7)]? = some (mI 0 40 lf) := by rw [ew_2, List.getElem?_set_ne (by omega)]; exact hf1__m___7_
    have hf2__m___8_ : w_2[(m + 8)]? = some (mI 0 8 lt) := by rw [ew_2, List.getElem?_set_ne (by omega)]; exact hf1__m___8_
    have hf2__m___9_ : w_2[(m + 9)]? = some (mI 0 41 wdF) := by rw [ew_2, List.getElem?_set_ne (by omega)]; exact hf1__m___9_
    have hf2__m___10_ : w_2[(m + 10)]? = some (mI 0 9 waF) := by rw [ew_2, List.getElem?_set_ne (by omega)]; exact hf1__m___10_
    have hF_2 : Fr m w w_2 := by rw [ew_2]; exact (Fr.set hF_1 (by omega) (by omega))
    show Wp X 0 0 w_2 [(0, .ref m), (1, .int q), (2, .int c)] [.int (nI (hRestF (hRem (f, g, sl, op, lo) c.toNatClampNeg)).1), .ref m] 11
    refine r_callV hC (vs := [.int (nI (hRestF (hRem (f, g, sl, op, lo) c.toNatClampNeg)).1)]) vX9_take_11 (sm_endsK (y := ((f, g, sl, op, lo), hd, rs, np, tp, av, lg, pl, tk)) (d := d + 5 + 1) hf2_m hf2__m___2_ hf2__m___5_ hpo) hf2_m rfl rfl (by omega) (by omega) (by omega) (Nat.le_of_ble_eq_true rfl) (fun v_3 w_3 hP_3 hlen_3 => ?_) (fun _ _ h => h.elim)
    obtain ⟨hv_3, q_3, hq_3, ew_3⟩ := hP_3
    rw [hv_3]
    have hf3_m : w_3[m]? = some (mO 10 [.int 0, .int (nI (push8 l ((f, g, sl, op, lo), hd, rs, np, tp, av, lg, pl, tk)).length), .int ea, .int fa, .int (bI so.isSome), .ref (m + 1), .ref (m + 2), .ref (m + 3), .ref (m + 4), .ref (m + 5), .ref (m + 6), .ref (m + 7), .ref (m + 8), .ref (m + 9), .ref (m + 10), .int (nI tn), .int he, .int en, .int (nI ln), .int iw, .int id0]) := by rw [ew_3]; exact List.getElem?_set_self (by simp only [List.length_set]; exact lt_of_get hf2_m)
    have hf3__m___1_ : w_3[(m + 1)]? = some (mI 0 67 (enc (sTake ((f, g, sl, op, lo), hd, rs, np, tp, av, lg, pl, tk) q.toNatClampNeg c.toNatClampNeg))) := by rw [ew_3, List.getElem?_set_ne (by omega), List.getElem?_set_ne (by omega)]; exact hf2__m___1_
    have hf3__m___2_ : w_3[(m + 2)]? = some (mI 0 67 (enc ((f, g, sl, op, lo), hd, rs, np, tp, av, lg, pl, tk))) := by rw [ew_3, List.getElem?_set_ne (by omega), List.getElem?_set_ne (by omega)]; exact hf2__m___2_
    have hf3__m___3_ : w_3[(m + 3)]? = some (mI 0 67 sf) := by rw [ew_3, List.getElem?_set_ne (by omega), List.getElem?_set_ne (by omega)]; exact hf2__m___3_
    have hf3__m___4_ : w_3[(m + 4)]? = some (mI 0 67 kf) := by rw [ew_3, List.getElem?_set_ne (by omega), List.getElem?_set_ne (by omega)]; exact hf2__m___4_
    have hf3__m___5_ : w_3[(m + 5)]? = some (mI 0 536 q_3) := by rw [ew_3, List.getElem?_set_ne (by omega)]; exact List.getElem?_set_self (lt_of_get hf2__m___5_)
    have hf3__m___6_ : w_3[(m + 6)]? = some (mI 0 60 tx) := by rw [ew_3, List.getElem?_set_ne (by omega), List.getElem?_set_ne (by omega)]; exact hf2__m___6_
    have hf3__m___7_ : w_3[(m + 7)]? = some (mI 0 40 lf) := by rw [ew_3, List.getElem?_set_ne (by omega), List.getElem?_set_ne (by omega)]; exact hf2__m___7_
    have hf3__m___8_ : w_3[(m + 8)]? = some (mI 0 8 lt) := by rw [ew_3, List.getElem?_set_ne (by omega), List.getElem?_set_ne (by omega)]; exact hf2__m___8_
    have hf3__m___9_ : w_3[(m + 9)]? = some (mI 0 41 wdF) := by rw [ew_3, List.getElem?_set_ne (by omega), List.getElem?_set_ne (by omega)]; exact hf2__m___9_
    have hf3__m___10_ : w_3[(m + 10)]? = some (mI 0 9 waF) := by rw [ew_3, List.getElem?_set_ne (by omega), List.getElem?_set_ne (by omega)]; exact hf2__m___10_
    have hF_3 : Fr m w w_3 := by rw [ew_3]; exact (Fr.set (Fr.set hF_2 (by omega) (by omega)) (by omega) (by omega))
    show Wp X 0 0 w_3 [(0, .ref m), (1, .int q), (2, .int c)] [.int (nI (hRestF (hRem (f, g, sl, op, lo) c.toNatClampNeg)).1)] 14
    refine r_iret hC hE hR dX9_take_14 (by omega) (by omega) (hF_3.1) ?_
    exact Or.inl ⟨he_2, rfl, ⟨⟨_, _, _, _, _, _, _, _, _, hf3_m, hf3__m___1_, hf3__m___2_, hf3__m___3_, hf3__m___4_, hf3__m___5_, hf3__m___6_, hf3__m___7_, hf3__m___8_, hf3__m___9_, hf3__m___10_, hq_3, hso⟩, hF_3⟩⟩
  · rw [hv_2]
    have hf2_m : w_2[m]? = some (mO 10 [.int (nT (fltTake f g np q c)), .int (nI l.length), .int ea, .int fa, .int (bI so.isSome), .ref (m + 1), .ref (m + 2), .ref (m + 3), .ref (m + 4), .ref (m + 5), .ref (m + 6), .ref (m + 7), .ref (m + 8), .ref (m + 9), .ref (m + 10), .int (nI tn), .int he, .int en, .int (nI ln), .int iw, .int id0]) := by rw [ew_2]; exact List.getElem?_set_self (lt_of_get hf1_m)
    have hf2__m___1_ : w_2[(m + 1)]? = some (mI 0 67 (enc ((f, g, sl, op, lo), hd, rs, np, tp, av, lg, pl, tk))) := by rw [ew_2, List.getElem?_set_ne (by omega)]; exact hf1__m___1_
    have hf2__m___2_ : w_2[(m + 2)]? = some (mI 0 67 (enc ((f, g, sl, op, lo), hd, rs, np, tp, av, lg, pl, tk))) := by rw [ew_2, List.getElem?_set_ne (by omega)]; exact hf1__m___2_
    have hf2__m___3_ : w_2[(m + 3)]? = some (mI 0 67 sf) := by rw [ew_2, List.getElem?_set_ne (by omega)]; exact hf1__m___3_
    have hf2__m___4_ : w_2[(m + 4)]? = some (mI 0 67 kf) := by rw [ew_2, List.getElem?_set_ne (by omega)]; exact hf1__m___4_
    have hf2__m___5_ : w_2[(m + 5)]? = some (mI 0 536 pf) := by rw [ew_2, List.getElem?_set_ne (by omega)]; exact hf1__m___5_
    have hf2__m___6_ : w_2[(m + 6)]? = some (mI 0 60 tx) := by rw [ew_2, List.getElem?_set_ne (by omega)]; exact hf1__m___6_
    have hf2__m___7_ : w_2[(m + 7)]? = some (mI 0 40 lf) := by rw [ew_2, List.getElem?_set_ne (by omega)]; exact hf1__m___7_
    have hf2__m___8_ : w_2[(m + 8)]? = some (mI 0 8 lt) := by rw [ew_2, List.getElem?_set_ne (by omega)]; exact hf1__m___8_
    have hf2__m___9_ : w_2[(m + 9)]? = some (mI 0 41 wdF) := by rw [ew_2, List.getElem?_set_ne (by omega)]; exact hf1__m___9_
    have hf2__m___10_ : w_2[(m + 10)]? = some (mI 0 9 waF) := by rw [ew_2, List.getElem?_set_ne (by omega)]; exact hf1__m___10_
    have hF_2 : Fr m w w_2 := by rw [ew_2]; exact (Fr.set hF_1 (by omega) (by omega))
    show Wp X 0 0 w_2 [(0, .ref m), (1, .int q), (2, .int c)] [.int 0, .ref m] 11
    refine r_callV hC (vs := [.int 0]) vX9_take_11 (sm_endsF (d := d + 5) hf2_m hf2__m___1_ hf2__m___2_ nT_ne) hf2_m rfl rfl (by omega) (by omega) (by omega) (Nat.le_of_ble_eq_true rfl) (fun v_4 w_4 hP_4 hlen_4 => ?_) (fun _ _ h => h.elim)
    obtain ⟨hv_4, ew_4⟩ := hP_4
    rw [hv_4]
    have hf4_m : w_4[m]? = some (mO 10 [.int (nT (fltTake f g np q c)), .int (nI l.length), .int ea, .int fa, .int (bI so.isSome), .ref (m + 1), .ref (m + 2), .ref (m + 3), .ref (m + 4), .ref (m + 5), .ref (m + 6), .ref (m + 7), .ref (m + 8), .ref (m + 9), .ref (m + 10), .int (nI tn), .int he, .int en, .int (nI ln), .int iw, .int id0]) := by rw [ew_4, List.getElem?_set_ne (by omega)]; exact hf2_m
    have hf4__m___1_ : w_4[(m + 1)]? = some (mI 0 67 (enc ((f, g, sl, op, lo), hd, rs, np, tp, av, lg, pl, tk))) := by rw [ew_4]; exact List.getElem?_set_self (lt_of_get hf2__m___1_)
    have hf4__m___2_ : w_4[(m + 2)]? = some (mI 0 67 (enc ((f, g, sl, op, lo), hd, rs, np, tp, av, lg, pl, tk))) := by rw [ew_4, List.getElem?_set_ne (by omega)]; exact hf2__m___2_
    have hf4__m___3_ : w_4[(m + 3)]? = some (mI 0 67 sf) := by rw [ew_4, List.getElem?_set_ne (by omega)]; exact hf2__m___3_
    have hf4__m___4_ : w_4[(m + 4)]? = some (mI 0 67 kf) := by rw [ew_4, List.getElem?_set_ne (by omega)]; exact hf2__m___4_
    have hf4__m___5_ : w_4[(m + 5)]? = some (mI 0 536 pf) := by rw [ew_4, List.getElem?_set_ne (by omega)]; exact hf2__m___5_
    have hf4__m___6_ : w_4[(m + 6)]? = some (mI 0 60 tx) := by rw [ew_4, List.getElem?_set_ne (by omega)]; exact hf2__m___6_
    have hf4__m___7_ : w_4[(m + 7)]? = some (mI 0 40 lf) := by rw [ew_4, List.getElem?_set_ne (by omega)]; exact hf2__m___7_
    have hf4__m___8_ : w_4[(m + 8)]? = some (mI 0 8 lt) := by rw [ew_4, List.getElem?_set_ne (by omega)]; exact hf2__m___8_
    have hf4__m___9_ : w_4[(m + 9)]? = some (mI 0 41 wdF) := by rw [ew_4, List.getElem?_set_ne (by omega)]; exact hf2__m___9_
    have hf4__m___10_ : w_4[(m + 10)]? = some (mI 0 9 waF) := by rw [ew_4, List.getElem?_set_ne (by omega)]; exact hf2__m___10_
    have hF_4 : Fr m w w_4 := by rw [ew_4]; exact (Fr.set hF_2 (by omega) (by omega))
    show Wp X 0 0 w_4 [(0, .ref m), (1, .int q), (2, .int c)] [.int 0] 14
    refine r_iret hC hE hR dX9_take_14 (by omega) (by omega) (hF_4.1) ?_
    exact Or.inr ⟨he_2, rfl, ⟨⟨_, _, _, _, _, _, _, _, _, hf4_m, hf4__m___1_, hf4__m___2_, hf4__m___3_, hf4__m___4_, hf4__m___5_, hf4__m___6_, hf4__m___7_, hf4__m___8_, hf4__m___9_, hf4__m___10_, hpo, hso⟩, hF_4⟩⟩
set_option maxRecDepth 100000 in
set_option maxHeartbeats 4000000 in
theorem sm_setSlope {d : Nat} {x : Int32} {w : mW} {m : Nat} {th : Int32} {f g : Nat → Int32} {sl op lo : Int32} {hd rs : Nat → Int32} {np : Nat} {tp av lg pl tk : Int32} {l : List sv} {ea fa : Int32} {so : Option sv} {tx : Nat → Int32} {tn : Nat} {lf : Nat → Int32} {ln : Nat} (H : MdAt w m th ((f, g, sl, op, lo), hd, rs, np, tp, av, lg, pl, tk) l ea fa so tx tn lf ln) (h25 : f 25 = 0) (hop : op = 0 ∨ op = 1) (hlg : ¬ lg < 0) (hT : fltSlope x = 1000010 → hNx (hRestF (f, g, x, op, lo)).2 = none) : Sp (d + 7) yX9_setSlope cX9_setSlope 2 (some .int) [.ref m, .int x] w 0 0 (fun v w' => (fltSlope x = 1000010 ∧ v = some (.int (nI (hRestF (f, g, x, op, lo)).1)) ∧ MdTo w w' m 0 (sSlope ((f, g, sl, op, lo), hd, rs, np, tp, av, lg, pl, tk) x) (push8 l ((f, g, sl, op, lo), hd, rs, np, tp, av, lg, pl, tk)) ea fa so tx tn lf ln) ∨ (¬ fltSlope x = 1000010 ∧ v = some (.int 0) ∧ MdTo w w' m (nE (fltSlope x)) ((f, g, sl, op, lo), hd, rs, np, tp, av, lg, pl, tk) l ea fa so tx tn lf ln)) noX := by
  refine Sp.of (by decide +kernel) (Nat.le_of_ble_eq_true rfl) (fun X hC hnl hE hR hN => ?_)
  have hC : Cx X RX9 cX9_setSlope (d + 7) 0 0 := hC
  show Wp X 0 0 w [(0, .ref m), (1, .int x)] [] 0
  obtain ⟨he, en, iw, id0, bf, sf, kf, pf, lt, hm, hv, hbf, hsf, hkf, hpf, htx, hlf, hlt, hwd, hwa, hpo, hso⟩ := H
  have hF0 : Fr m w w := Fr.rfl
  refine r_aload_n hC dX9_setSlope_0 rfl (j := 0) rfl ?_
  refine r_callV hC (vs := []) vX9_setSlope_1 (sm_begins (d := d + 5) hm hv hbf) hm rfl rfl (by omega) (by omega) (by omega) (Nat.le_of_ble_eq_true rfl) (fun v_1 w_1 hP_1 hlen_1 => ?_) (fun _ _ h => h.elim)
  obtain ⟨hv_1, ew_1⟩ := hP_1
  rw [hv_1]
  have hf1_m : w_1[m]? = some (mO 10 [.int 0, .int (nI l.length), .int ea, .int fa, .int (bI so.isSome), .ref (m + 1), .ref (m + 2), .ref (m + 3), .ref (m + 4), .ref (m + 5), .ref (m + 6), .ref (m + 7), .ref (m + 8), .ref (m + 9), .ref (m + 10), .int (nI tn), .int he, .int en, .int (nI ln), .int iw, .int id0]) := by rw [ew_1, List.getElem?_set_ne (by omega)]; exact List.getElem?_set_self (lt_of_get hm)
  have hf1__m___1_ : w_1[(m + 1)]? = some (mI 0 67 (enc ((f, g, sl, op, lo), hd, rs, np, tp, av, lg, pl, tk))) := by rw [ew_1, List.getElem?_set_ne (by omega), List.getElem?_set_ne (by omega)]; exact hv
  have hf1__m___2_ : w_1[(m + 2)]? = some (mI 0 67 (enc ((f, g, sl, op, lo), hd, rs, np, tp, av, lg, pl, tk))) := by rw [ew_1]; exact List.getElem?_set_self (by simp only [List.length_set]; exact lt_of_get hbf)
  have hf1__m___3_ : w_1[(m + 3)]? = some (mI 0 67 sf) := by rw [ew_1, List.getElem?_set_ne (by omega), List.getElem?_set_ne (by omega)]; exact hsf
  have hf1__m___4_ : w_1[(m + 4)]? = some (mI 0 67 kf) := by rw [ew_1, List.getElem?_set_ne (by omega), List.getElem?_set_ne (by omega)]; exact hkf
  have hf1__m___5_ : w_1[(m + 5)]? = some (mI 0 536 pf) := by rw [ew_1, List.getElem?_set_ne (by omega), List.getElem?_set_ne (by omega)]; exact hpf
  have hf1__m___6_ : w_1[(m + 6)]? = some (mI 0 60 tx) := by rw [ew_1, List.getElem?_set_ne (by omega), List.getElem?_set_ne (by omega)]; exact htx
  have hf1__m___7_ : w_1[(m + 7)]? = some (mI 0 40 lf) := by rw [ew_1, List.getElem?_set_ne (by omega), List.getElem?_set_ne (by omega)]; exact hlf
  have hf1__m___8_ : w_1[(m + 8)]? = some (mI 0 8 lt) := by rw [ew_1, List.getElem?_set_ne (by omega), List.getElem?_set_ne (by omega)]; exact hlt
  have hf1__m___9_ : w_1[(m + 9)]? = some (mI 0 41 wdF) := by rw [ew_1, List.getElem?_set_ne (by omega), List.getElem?_set_ne (by omega)]; exact hwd
  have hf1__m___10_ : w_1[(m + 10)]? = some (mI 0 9 waF) := by rw [ew_1, List.getElem?_set_ne (by omega), List.getElem?_set_ne (by omega)]; exact hwa
  have hF_1 : Fr m w w_1 := by rw [ew_1]; exact (Fr.set (Fr.set hF0 (by omega) (by omega)) (by omega) (by omega))
  show Wp X 0 0 w_1 [(0, .ref m), (1, .int x)] [] 4
  refine r_aload_n hC dX9_setSlope_4 rfl (j := 0) rfl ?_
  refine r_aload_n hC dX9_setSlope_5 rfl (j := 0) rfl ?_
  refine r_iload_n hC dX9_setSlope_6 rfl (j := 1) rfl ?_
  refine r_callV hC (vs := [.int x]) vX9_setSlope_7 (sm_slopes (d := d) hf1_m hf1__m___1_ h25 hop hlg hT) hf1_m rfl rfl (by omega) (by omega) (by omega) (Nat.le_of_ble_eq_true rfl) (fun v_2 w_2 hP_2 hlen_2 => ?_) (fun _ _ h => h.elim)
  rcases hP_2 with ⟨he_2, hv_2, ew_2⟩ | ⟨he_2, hv_2, ew_2⟩
  · rw [hv_2]
    have hf2_m : w_2[m]? = some (mO 10 [.int 0, .int (nI l.length), .int ea, .int fa, .int (bI so.isSome), .ref (m + 1), .ref (m + 2), .ref (m + 3), .ref (m + 4), .ref (m + 5), .ref (m + 6), .ref (m + 7), .ref (m + 8), .ref (m + 9), .ref (m + 10), .int (nI tn), .int he, .int en, .int (nI ln), .int iw, .int id0]) := by rw [ew_2, List.getElem?_set_ne (by omega)]; exact hf1_m
    have hf2__m___1_ : w_2[(m + 1)]? = some (mI 0 67 (enc (sSlope ((f, g, sl, op, lo), hd, rs, np, tp, av, lg, pl, tk) x))) := by rw [ew_2]; exact List.getElem?_set_self (lt_of_get hf1__m___1_)
    have hf2__m___2_ : w_2[(m + 2)]? = some (mI 0 67 (enc ((f, g, sl, op, lo), hd, rs, np, tp, av, lg, pl, tk))) := by rw [ew_2, List.getElem?_set_ne (by omega)]; exact hf1__m___2_
    have hf2__m___3_ : w_2[(m + 3)]? = some (mI 0 67 sf) := by rw [ew_2, List.getElem?_set_ne (by omega)]; exact hf1__m___3_
    have hf2__m___4_ : w_2[(m + 4)]? = some (mI 0 67 kf) := by rw [ew_2, List.getElem?_set_ne (by omega)]; exact hf1__m___4_
    have hf2__m___5_ : w_2[(m + 5)]? = some (mI 0 536 pf) := by rw [ew_2, List.getElem?_set_ne (by omega)]; exact hf1__m___5_
    have hf2__m___6_ : w_2[(m + 6)]? = some (mI 0 60 tx) := by rw [ew_2, List.getElem?_set_ne (by omega)]; exact hf1__m___6_
    have hf2__m___7_ : w_2[(m + 7)]? = some (mI 0 40 lf) := by rw [ew_2, List.getElem?_set_ne (by omega)]; exact hf1__m___7_
    have hf2__m___8_ : w_2[(m + 8)]? = some (mI 0 8 lt) := by rw [ew_2, List.getElem?_set_ne (by omega)]; exact hf1__m___8_
    have hf2__m___9_ : w_2[(m + 9)]? = some (mI 0 41 wdF) := by rw [ew_2, List.getElem?_set_ne (by omega)]; exact hf1__m___9_
    have hf2__m___10_ : w_2[(m + 10)]? = some (mI 0 9 waF) := by rw [ew_2, List.getElem?_set_ne (by omega)]; exact hf1__m___10_
    have hF_2 : Fr m w w_2 := by rw [ew_2]; exact (Fr.set hF_1 (by omega) (by omega))
    show Wp X 0 0 w_2 [(0, .ref m), (1, .int x)] [.int (nI (hRestF (f, g, x, op, lo)).1), .ref m] 10
    refine r_callV hC (vs := [.int (nI (hRestF (f, g, x, op, lo)).1)]) vX9_setSlope_10 (sm_endsK (y := ((f, g, sl, op, lo), hd, rs, np, tp, av, lg, pl, tk)) (d := d + 5 + 1) hf2_m hf2__m___2_ hf2__m___5_ hpo) hf2_m rfl rfl (by omega) (by omega) (by omega) (Nat.le_of_ble_eq_true rfl) (fun v_3 w_3 hP_3 hlen_3 => ?_) (fun _ _ h => h.elim)
    obtain ⟨hv_3, q_3, hq_3, ew_3⟩ := hP_3
    rw [hv_3]
    have hf3_m : w_3[m]? = some (mO 10 [.int 0, .int (nI (push8 l ((f, g, sl, op, lo), hd, rs, np, tp, av, lg, pl, tk)).length), .int ea, .int fa, .int (bI so.isSome), .ref (m + 1), .ref (m + 2), .ref (m + 3), .ref (m + 4), .ref (m + 5), .ref (m + 6), .ref (m + 7), .ref (m + 8), .ref (m + 9), .ref (m + 10), .int (nI tn), .int he, .int en, .int (nI ln), .int iw, .int id0]) := by rw [ew_3]; exact List.getElem?_set_self (by simp only [List.length_set]; exact lt_of_get hf2_m)
    have hf3__m___1_ : w_3[(m + 1)]? = some (mI 0 67 (enc (sSlope ((f, g, sl, op, lo), hd, rs, np, tp, av, lg, pl, tk) x))) := by rw [ew_3, List.getElem?_set_ne (by omega), List.getElem?_set_ne (by omega)]; exact hf2__m___1_
    have hf3__m___2_ : w_3[(m + 2)]? = some (mI 0 67 (enc ((f, g, sl, op, lo), hd, rs, np, tp, av, lg, pl, tk))) := by rw [ew_3, List.getElem?_set_ne (by omega), List.getElem?_set_ne (by omega)]; exact hf2__m___2_
    have hf3__m___3_ : w_3[(m + 3)]? = some (mI 0 67 sf) := by rw [ew_3, List.getElem?_set_ne (by omega), List.getElem?_set_ne (by omega)]; exact hf2__m___3_
    have hf3__m___4_ : w_3[(m + 4)]? = some (mI 0 67 kf) := by rw [ew_3, List.getElem?_set_ne (by omega), List.getElem?_set_ne (by omega)]; exact hf2__m___4_
    have hf3__m___5_ : w_3[(m + 5)]? = some (mI 0 536 q_3) := by rw [ew_3, List.getElem?_set_ne (by omega)]; exact List.getElem?_set_self (lt_of_get hf2__m___5_)
    have hf3__m___6_ : w_3[(m + 6)]? = some (mI 0 60 tx) := by rw [ew_3, List.getElem?_set_ne (by omega), List.getElem?_set_ne (by omega)]; exact hf2__m___6_
    have hf3__m___7_ : w_3[(m + 7)]? = some (mI 0 40 lf) := by rw [ew_3, List.getElem?_set_ne (by omega), List.getElem?_set_ne (by omega)]; exact hf2__m___7_
    have hf3__m___8_ : w_3[(m + 8)]? = some (mI 0 8 lt) := by rw [ew_3, List.getElem?_set_ne (by omega), List.getElem?_set_ne (by omega)]; exact hf2__m___8_
    have hf3__m___9_ : w_3[(m + 9)]? = some (mI 0 41 wdF) := by rw [ew_3, List.getElem?_set_ne (by omega), List.getElem?_set_ne (by omega)]; exact hf2__m___9_
    have hf3__m___10_ : w_3[(m + 10)]? = some (mI 0 9 waF) := by rw [ew_3, List.getElem?_set_ne (by omega), List.getElem?_set_ne (by omega)]; exact hf2__m___10_
    have hF_3 : Fr m w w_3 := by rw [ew_3]; exact (Fr.set (Fr.set hF_2 (by omega) (by omega)) (by omega) (by omega))
    show Wp X 0 0 w_3 [(0, .ref m), (1, .int x)] [.int (nI (hRestF (f, g, x, op, lo)).1)] 13
    refine r_iret hC hE hR dX9_setSlope_13 (by omega) (by omega) (hF_3.1) ?_
    exact Or.inl ⟨he_2, rfl, ⟨⟨_, _, _, _, _, _, _, _, _, hf3_m, hf3__m___1_, hf3__m___2_, hf3__m___3_, hf3__m___4_, hf3__m___5_, hf3__m___6_, hf3__m___7_, hf3__m___8_, hf3__m___9_, hf3__m___10_, hq_3, hso⟩, hF_3⟩⟩
  · rw [hv_2]
    have hf2_m : w_2[m]? = some (mO 10 [.int (nE (fltSlope x)), .int (nI l.length), .int ea, .int fa, .int (bI so.isSome), .ref (m + 1), .ref (m + 2), .ref (m + 3), .ref (m + 4), .ref (m + 5), .ref (m + 6), .ref (m + 7), .ref (m + 8), .ref (m + 9), .ref (m + 10), .int (nI tn), .int he, .int en, .int (nI ln), .int iw, .int id0]) := by rw [ew_2]; exact List.getElem?_set_self (lt_of_get hf1_m)
    have hf2__m___1_ : w_2[(m + 1)]? = some (mI 0 67 (enc ((f, g, sl, op, lo), hd, rs, np, tp, av, lg, pl, tk))) := by rw [ew_2, List.getElem?_set_ne (by omega)]; exact hf1__m___1_
    have hf2__m___2_ : w_2[(m + 2)]? = some (mI 0 67 (enc ((f, g, sl, op, lo), hd, rs, np, tp, av, lg, pl, tk))) := by rw [ew_2, List.getElem?_set_ne (by omega)]; exact hf1__m___2_
    have hf2__m___3_ : w_2[(m + 3)]? = some (mI 0 67 sf) := by rw [ew_2, List.getElem?_set_ne (by omega)]; exact hf1__m___3_
    have hf2__m___4_ : w_2[(m + 4)]? = some (mI 0 67 kf) := by rw [ew_2, List.getElem?_set_ne (by omega)]; exact hf1__m___4_
    have hf2__m___5_ : w_2[(m + 5)]? = some (mI 0 536 pf) := by rw [ew_2, List.getElem?_set_ne (by omega)]; exact hf1__m___5_
    have hf2__m___6_ : w_2[(m + 6)]? = some (mI 0 60 tx) := by rw [ew_2, List.getElem?_set_ne (by omega)]; exact hf1__m___6_
    have hf2__m___7_ : w_2[(m + 7)]? = some (mI 0 40 lf) := by rw [ew_2, List.getElem?_set_ne (by omega)]; exact hf1__m___7_
    have hf2__m___8_ : w_2[(m + 8)]? = some (mI 0 8 lt) := by rw [ew_2, List.getElem?_set_ne (by omega)]; exact hf1__m___8_
    have hf2__m___9_ : w_2[(m + 9)]? = some (mI 0 41 wdF) := by rw [ew_2, List.getElem?_set_ne (by omega)]; exact hf1__m___9_
    have hf2__m___10_ : w_2[(m + 10)]? = some (mI 0 9 waF) := by rw [ew_2, List.getElem?_set_ne (by omega)]; exact hf1__m___10_
    have hF_2 : Fr m w w_2 := by rw [ew_2]; exact (Fr.set hF_1 (by omega) (by omega))
    show Wp X 0 0 w_2 [(0, .ref m), (1, .int x)] [.int 0, .ref m] 10
    refine r_callV hC (vs := [.int 0]) vX9_setSlope_10 (sm_endsF (d := d + 5) hf2_m hf2__m___1_ hf2__m___2_ nE_ne) hf2_m rfl rfl (by omega) (by omega) (by omega) (Nat.le_of_ble_eq_true rfl) (fun v_4 w_4 hP_4 hlen_4 => ?_) (fun _ _ h => h.elim)
    obtain ⟨hv_4, ew_4⟩ := hP_4
    rw [hv_4]
    have hf4_m : w_4[m]? = some (mO 10 [.int (nE (fltSlope x)), .int (nI l.length), .int ea, .int fa, .int (bI so.isSome), .ref (m + 1), .ref (m + 2), .ref (m + 3), .ref (m + 4), .ref (m + 5), .ref (m + 6), .ref (m + 7), .ref (m + 8), .ref (m + 9), .ref (m + 10), .int (nI tn), .int he, .int en, .int (nI ln), .int iw, .int id0]) := by rw [ew_4, List.getElem?_set_ne (by omega)]; exact hf2_m
    have hf4__m___1_ : w_4[(m + 1)]? = some (mI 0 67 (enc ((f, g, sl, op, lo), hd, rs, np, tp, av, lg, pl, tk))) := by rw [ew_4]; exact List.getElem?_set_self (lt_of_get hf2__m___1_)
    have hf4__m___2_ : w_4[(m + 2)]? = some (mI 0 67 (enc ((f, g, sl, op, lo), hd, rs, np, tp, av, lg, pl, tk))) := by rw [ew_4, List.getElem?_set_ne (by omega)]; exact hf2__m___2_
    have hf4__m___3_ : w_4[(m + 3)]? = some (mI 0 67 sf) := by rw [ew_4, List.getElem?_set_ne (by omega)]; exact hf2__m___3_
    have hf4__m___4_ : w_4[(m + 4)]? = some (mI 0 67 kf) := by rw [ew_4, List.getElem?_set_ne (by omega)]; exact hf2__m___4_
    have hf4__m___5_ : w_4[(m + 5)]? = some (mI 0 536 pf) := by rw [ew_4, List.getElem?_set_ne (by omega)]; exact hf2__m___5_
    have hf4__m___6_ : w_4[(m + 6)]? = some (mI 0 60 tx) := by rw [ew_4, List.getElem?_set_ne (by omega)]; exact hf2__m___6_
    have hf4__m___7_ : w_4[(m + 7)]? = some (mI 0 40 lf) := by rw [ew_4, List.getElem?_set_ne (by omega)]; exact hf2__m___7_
    have hf4__m___8_ : w_4[(m + 8)]? = some (mI 0 8 lt) := by rw [ew_4, List.getElem?_set_ne (by omega)]; exact hf2__m___8_
    have hf4__m___9_ : w_4[(m + 9)]? = some (mI 0 41 wdF) := by rw [ew_4, List.getElem?_set_ne (by omega)]; exact hf2__m___9_
    have hf4__m___10_ : w_4[(m + 10)]? = some (mI 0 9 waF) := by rw [ew_4, List.getElem?_set_ne (by omega)]; exact hf2__m___10_
    have hF_4 : Fr m w w_4 := by rw [ew_4]; exact (Fr.set hF_2 (by omega) (by omega))
    show Wp X 0 0 w_4 [(0, .ref m), (1, .int x)] [.int 0] 13
    refine r_iret hC hE hR dX9_setSlope_13 (by omega) (by omega) (hF_4.1) ?_
    exact Or.inr ⟨he_2, rfl, ⟨⟨_, _, _, _, _, _, _, _, _, hf4_m, hf4__m___1_, hf4__m___2_, hf4__m___3_, hf4__m___4_, hf4__m___5_, hf4__m___6_, hf4__m___7_, hf4__m___8_, hf4__m___9_, hf4__m___10_, hpo, hso⟩, hF_4⟩⟩
set_option maxRecDepth 100000 in
set_option maxHeartbeats 4000000 in
theorem sm_skip {d : Nat} {w : mW} {m : Nat} {th : Int32} {f g : Nat → Int32} {sl op lo : Int32} {hd rs : Nat → Int32} {np : Nat} {tp av lg pl tk : Int32} {l : List sv} {ea fa : Int32} {so : Option sv} {tx : Nat → Int32} {tn : Nat} {lf : Nat → Int32} {ln : Nat} (H : MdAt w m th ((f, g, sl, op, lo), hd, rs, np, tp, av, lg, pl, tk) l ea fa so tx tn lf ln) (hnp : np ≤ 4) : Sp (d + 2) yX9_skip cX9_skip 1 (some .int) [.ref m] w 0 0 (fun v w' => v = some (.int (hCnt (fun j => !decide (sPass rs (-1) np j ≤ 0)) np)) ∧ MdTo w w' m 0 ((f, g, sl, op, lo), hd, (sPass rs (-1) np), np, tp, av, lg, pl, tk) (push8 l ((f, g, sl, op, lo), hd, rs, np, tp, av, lg, pl, tk)) ea fa so tx tn lf ln) noX := by
  refine Sp.of (by decide +kernel) (Nat.le_of_ble_eq_true rfl) (fun X hC hnl hE hR hN => ?_)
  have hC : Cx X RX9 cX9_skip (d + 2) 0 0 := hC
  show Wp X 0 0 w [(0, .ref m)] [] 0
  obtain ⟨he, en, iw, id0, bf, sf, kf, pf, lt, hm, hv, hbf, hsf, hkf, hpf, htx, hlf, hlt, hwd, hwa, hpo, hso⟩ := H
  have hF0 : Fr m w w := Fr.rfl
  refine r_aload_n hC dX9_skip_0 rfl (j := 0) rfl ?_
  refine r_callV hC (vs := []) vX9_skip_1 (sm_begins (d := d) hm hv hbf) hm rfl rfl (by omega) (by omega) (by omega) (Nat.le_of_ble_eq_true rfl) (fun v_1 w_1 hP_1 hlen_1 => ?_) (fun _ _ h => h.elim)
  obtain ⟨hv_1, ew_1⟩ := hP_1
  rw [hv_1]
  have hf1_m : w_1[m]? = some (mO 10 [.int 0, .int (nI l.length), .int ea, .int fa, .int (bI so.isSome), .ref (m + 1), .ref (m + 2), .ref (m + 3), .ref (m + 4), .ref (m + 5), .ref (m + 6), .ref (m + 7), .ref (m + 8), .ref (m + 9), .ref (m + 10), .int (nI tn), .int he, .int en, .int (nI ln), .int iw, .int id0]) := by rw [ew_1, List.getElem?_set_ne (by omega)]; exact List.getElem?_set_self (lt_of_get hm)
  have hf1__m___1_ : w_1[(m + 1)]? = some (mI 0 67 (enc ((f, g, sl, op, lo), hd, rs, np, tp, av, lg, pl, tk))) := by rw [ew_1, List.getElem?_set_ne (by omega), List.getElem?_set_ne (by omega)]; exact hv
  have hf1__m___2_ : w_1[(m + 2)]? = some (mI 0 67 (enc ((f, g, sl, op, lo), hd, rs, np, tp, av, lg, pl, tk))) := by rw [ew_1]; exact List.getElem?_set_self (by simp only [List.length_set]; exact lt_of_get hbf)
  have hf1__m___3_ : w_1[(m + 3)]? = some (mI 0 67 sf) := by rw [ew_1, List.getElem?_set_ne (by omega), List.getElem?_set_ne (by omega)]; exact hsf
  have hf1__m___4_ : w_1[(m + 4)]? = some (mI 0 67 kf) := by rw [ew_1, List.getElem?_set_ne (by omega), List.getElem?_set_ne (by omega)]; exact hkf
  have hf1__m___5_ : w_1[(m + 5)]? = some (mI 0 536 pf) := by rw [ew_1, List.getElem?_set_ne (by omega), List.getElem?_set_ne (by omega)]; exact hpf
  have hf1__m___6_ : w_1[(m + 6)]? = some (mI 0 60 tx) := by rw [ew_1, List.getElem?_set_ne (by omega), List.getElem?_set_ne (by omega)]; exact htx
  have hf1__m___7_ : w_1[(m + 7)]? = some (mI 0 40 lf) := by rw [ew_1, List.getElem?_set_ne (by omega), List.getElem?_set_ne (by omega)]; exact hlf
  have hf1__m___8_ : w_1[(m + 8)]? = some (mI 0 8 lt) := by rw [ew_1, List.getElem?_set_ne (by omega), List.getElem?_set_ne (by omega)]; exact hlt
  have hf1__m___9_ : w_1[(m + 9)]? = some (mI 0 41 wdF) := by rw [ew_1, List.getElem?_set_ne (by omega), List.getElem?_set_ne (by omega)]; exact hwd
  have hf1__m___10_ : w_1[(m + 10)]? = some (mI 0 9 waF) := by rw [ew_1, List.getElem?_set_ne (by omega), List.getElem?_set_ne (by omega)]; exact hwa
  have hF_1 : Fr m w w_1 := by rw [ew_1]; exact (Fr.set (Fr.set hF0 (by omega) (by omega)) (by omega) (by omega))
  show Wp X 0 0 w_1 [(0, .ref m)] [] 4
  refine r_aload_n hC dX9_skip_4 rfl (j := 0) rfl ?_
  refine r_aload_n hC dX9_skip_5 rfl (j := 0) rfl ?_
  refine r_iconst hC dX9_skip_6 (v := (-1)) (by decide) ?_
  refine r_callV hC (vs := [.int (-1)]) vX9_skip_7 (sm_waits (d := d + 1) (ex := -1) hf1_m hf1__m___1_ hnp) hf1_m rfl rfl (by omega) (by omega) (by omega) (Nat.le_of_ble_eq_true rfl) (fun v_2 w_2 hP_2 hlen_2 => ?_) (fun _ _ h => h.elim)
  obtain ⟨hv_2, ew_2⟩ := hP_2
  rw [hv_2]
  have hf2_m : w_2[m]? = some (mO 10 [.int 0, .int (nI l.length), .int ea, .int fa, .int (bI so.isSome), .ref (m + 1), .ref (m + 2), .ref (m + 3), .ref (m + 4), .ref (m + 5), .ref (m + 6), .ref (m + 7), .ref (m + 8), .ref (m + 9), .ref (m + 10), .int (nI tn), .int he, .int en, .int (nI ln), .int iw, .int id0]) := by rw [ew_2, List.getElem?_set_ne (by omega)]; exact hf1_m
  have hf2__m___1_ : w_2[(m + 1)]? = some (mI 0 67 (enc ((f, g, sl, op, lo), hd, (sPass rs (-1) np), np, tp, av, lg, pl, tk))) := by rw [ew_2]; exact List.getElem?_set_self (lt_of_get hf1__m___1_)
  have hf2__m___2_ : w_2[(m + 2)]? = some (mI 0 67 (enc ((f, g, sl, op, lo), hd, rs, np, tp, av, lg, pl, tk))) := by rw [ew_2, List.getElem?_set_ne (by omega)]; exact hf1__m___2_
  have hf2__m___3_ : w_2[(m + 3)]? = some (mI 0 67 sf) := by rw [ew_2, List.getElem?_set_ne (by omega)]; exact hf1__m___3_
  have hf2__m___4_ : w_2[(m + 4)]? = some (mI 0 67 kf) := by rw [ew_2, List.getElem?_set_ne (by omega)]; exact hf1__m___4_
  have hf2__m___5_ : w_2[(m + 5)]? = some (mI 0 536 pf) := by rw [ew_2, List.getElem?_set_ne (by omega)]; exact hf1__m___5_
  have hf2__m___6_ : w_2[(m + 6)]? = some (mI 0 60 tx) := by rw [ew_2, List.getElem?_set_ne (by omega)]; exact hf1__m___6_
  have hf2__m___7_ : w_2[(m + 7)]? = some (mI 0 40 lf) := by rw [ew_2, List.getElem?_set_ne (by omega)]; exact hf1__m___7_
  have hf2__m___8_ : w_2[(m + 8)]? = some (mI 0 8 lt) := by rw [ew_2, List.getElem?_set_ne (by omega)]; exact hf1__m___8_
  have hf2__m___9_ : w_2[(m + 9)]? = some (mI 0 41 wdF) := by rw [ew_2, List.getElem?_set_ne (by omega)]; exact hf1__m___9_
  have hf2__m___10_ : w_2[(m + 10)]? = some (mI 0 9 waF) := by rw [ew_2, List.getElem?_set_ne (by omega)]; exact hf1__m___10_
  have hF_2 : Fr m w w_2 := by rw [ew_2]; exact (Fr.set hF_1 (by omega) (by omega))
  show Wp X 0 0 w_2 [(0, .ref m)] [.int (hCnt (fun j => !decide (sPass rs (-1) np j ≤ 0)) np), .ref m] 10
  refine r_callV hC (vs := [.int (hCnt (fun j => !decide (sPass rs (-1) np j ≤ 0)) np)]) vX9_skip_10 (sm_endsK (y := ((f, g, sl, op, lo), hd, rs, np, tp, av, lg, pl, tk)) (d := d + 1) hf2_m hf2__m___2_ hf2__m___5_ hpo) hf2_m rfl rfl (by omega) (by omega) (by omega) (Nat.le_of_ble_eq_true rfl) (fun v_3 w_3 hP_3 hlen_3 => ?_) (fun _ _ h => h.elim)
  obtain ⟨hv_3, q_3, hq_3, ew_3⟩ := hP_3
  rw [hv_3]
  have hf3_m : w_3[m]? = some (mO 10 [.int 0, .int (nI (push8 l ((f, g, sl, op, lo), hd, rs, np, tp, av, lg, pl, tk)).length), .int ea, .int fa, .int (bI so.isSome), .ref (m + 1), .ref (m + 2), .ref (m + 3), .ref (m + 4), .ref (m + 5), .ref (m + 6), .ref (m + 7), .ref (m + 8), .ref (m + 9), .ref (m + 10), .int (nI tn), .int he, .int en, .int (nI ln), .int iw, .int id0]) := by rw [ew_3]; exact List.getElem?_set_self (by simp only [List.length_set]; exact lt_of_get hf2_m)
  have hf3__m___1_ : w_3[(m + 1)]? = some (mI 0 67 (enc ((f, g, sl, op, lo), hd, (sPass rs (-1) np), np, tp, av, lg, pl, tk))) := by rw [ew_3, List.getElem?_set_ne (by omega), List.getElem?_set_ne (by omega)]; exact hf2__m___1_
  have hf3__m___2_ : w_3[(m + 2)]? = some (mI 0 67 (enc ((f, g, sl, op, lo), hd, rs, np, tp, av, lg, pl, tk))) := by rw [ew_3, List.getElem?_set_ne (by omega), List.getElem?_set_ne (by omega)]; exact hf2__m___2_
  have hf3__m___3_ : w_3[(m + 3)]? = some (mI 0 67 sf) := by rw [ew_3, List.getElem?_set_ne (by omega), List.getElem?_set_ne (by omega)]; exact hf2__m___3_
  have hf3__m___4_ : w_3[(m + 4)]? = some (mI 0 67 kf) := by rw [ew_3, List.getElem?_set_ne (by omega), List.getElem?_set_ne (by omega)]; exact hf2__m___4_
  have hf3__m___5_ : w_3[(m + 5)]? = some (mI 0 536 q_3) := by rw [ew_3, List.getElem?_set_ne (by omega)]; exact List.getElem?_set_self (lt_of_get hf2__m___5_)
  have hf3__m___6_ : w_3[(m + 6)]? = some (mI 0 60 tx) := by rw [ew_3, List.getElem?_set_ne (by omega), List.getElem?_set_ne (by omega)]; exact hf2__m___6_
  have hf3__m___7_ : w_3[(m + 7)]? = some (mI 0 40 lf) := by rw [ew_3, List.getElem?_set_ne (by omega), List.getElem?_set_ne (by omega)]; exact hf2__m___7_
  have hf3__m___8_ : w_3[(m + 8)]? = some (mI 0 8 lt) := by rw [ew_3, List.getElem?_set_ne (by omega), List.getElem?_set_ne (by omega)]; exact hf2__m___8_
  have hf3__m___9_ : w_3[(m + 9)]? = some (mI 0 41 wdF) := by rw [ew_3, List.getElem?_set_ne (by omega), List.getElem?_set_ne (by omega)]; exact hf2__m___9_
  have hf3__m___10_ : w_3[(m + 10)]? = some (mI 0 9 waF) := by rw [ew_3, List.getElem?_set_ne (by omega), List.getElem?_set_ne (by omega)]; exact hf2__m___10_
  have hF_3 : Fr m w w_3 := by rw [ew_3]; exact (Fr.set (Fr.set hF_2 (by omega) (by omega)) (by omega) (by omega))
  show Wp X 0 0 w_3 [(0, .ref m)] [.int (hCnt (fun j => !decide (sPass rs (-1) np j ≤ 0)) np)] 13
  refine r_iret hC hE hR dX9_skip_13 (by omega) (by omega) (hF_3.1) ?_
  exact ⟨rfl, ⟨⟨_, _, _, _, _, _, _, _, _, hf3_m, hf3__m___1_, hf3__m___2_, hf3__m___3_, hf3__m___4_, hf3__m___5_, hf3__m___6_, hf3__m___7_, hf3__m___8_, hf3__m___9_, hf3__m___10_, hq_3, hso⟩, hF_3⟩⟩
set_option maxRecDepth 100000 in
set_option maxHeartbeats 4000000 in
theorem sm_setBorder0 {d : Nat} {w : mW} {m : Nat} {th : Int32} {f g : Nat → Int32} {sl op lo : Int32} {hd rs : Nat → Int32} {np : Nat} {tp av lg pl tk : Int32} {l : List sv} {ea fa : Int32} {so : Option sv} {tx : Nat → Int32} {tn : Nat} {lf : Nat → Int32} {ln : Nat} (H : MdAt w m th ((f, g, sl, op, lo), hd, rs, np, tp, av, lg, pl, tk) l ea fa so tx tn lf ln) (h25 : f 25 = 0) (hop : op = 0 ∨ op = 1) (hlg : ¬ lg < 0) (hT : hNx (hRestF (f, g, sl, 0, lo)).2 = none) : Sp (d + 7) yX9_setBorder cX9_setBorder 2 (some .boolean) [.ref m, .int 0] w 0 0 (fun v w' => v = some (.int op) ∧ MdTo w w' m 0 (sBorder ((f, g, sl, op, lo), hd, rs, np, tp, av, lg, pl, tk) 0) (push8 l ((f, g, sl, op, lo), hd, rs, np, tp, av, lg, pl, tk)) ea fa so tx tn lf ln) noX := by
  refine Sp.of (by decide +kernel) (Nat.le_of_ble_eq_true rfl) (fun X hC hnl hE hR hN => ?_)
  have hC : Cx X RX9 cX9_setBorder (d + 7) 0 0 := hC
  show Wp X 0 0 w [(0, .ref m), (1, .int 0)] [] 0
  obtain ⟨he, en, iw, id0, bf, sf, kf, pf, lt, hm, hv, hbf, hsf, hkf, hpf, htx, hlf, hlt, hwd, hwa, hpo, hso⟩ := H
  have hF0 : Fr m w w := Fr.rfl
  refine r_aload_n hC dX9_setBorder_0 rfl (j := 0) rfl ?_
  refine r_callV hC (vs := []) vX9_setBorder_1 (sm_begins (d := d + 5) hm hv hbf) hm rfl rfl (by omega) (by omega) (by omega) (Nat.le_of_ble_eq_true rfl) (fun v_1 w_1 hP_1 hlen_1 => ?_) (fun _ _ h => h.elim)
  obtain ⟨hv_1, ew_1⟩ := hP_1
  rw [hv_1]
  have hf1_m : w_1[m]? = some (mO 10 [.int 0, .int (nI l.length), .int ea, .int fa, .int (bI so.isSome), .ref (m + 1), .ref (m + 2), .ref (m + 3), .ref (m + 4), .ref (m + 5), .ref (m + 6), .ref (m + 7), .ref (m + 8), .ref (m + 9), .ref (m + 10), .int (nI tn), .int he, .int en, .int (nI ln), .int iw, .int id0]) := by rw [ew_1, List.getElem?_set_ne (by omega)]; exact List.getElem?_set_self (lt_of_get hm)
  have hf1__m___1_ : w_1[(m + 1)]? = some (mI 0 67 (enc ((f, g, sl, op, lo), hd, rs, np, tp, av, lg, pl, tk))) := by rw [ew_1, List.getElem?_set_ne (by omega), List.getElem?_set_ne (by omega)]; exact hv
  have hf1__m___2_ : w_1[(m + 2)]? = some (mI 0 67 (enc ((f, g, sl, op, lo), hd, rs, np, tp, av, lg, pl, tk))) := by rw [ew_1]; exact List.getElem?_set_self (by simp only [List.length_set]; exact lt_of_get hbf)
  have hf1__m___3_ : w_1[(m + 3)]? = some (mI 0 67 sf) := by rw [ew_1, List.getElem?_set_ne (by omega), List.getElem?_set_ne (by omega)]; exact hsf
  have hf1__m___4_ : w_1[(m + 4)]? = some (mI 0 67 kf) := by rw [ew_1, List.getElem?_set_ne (by omega), List.getElem?_set_ne (by omega)]; exact hkf
  have hf1__m___5_ : w_1[(m + 5)]? = some (mI 0 536 pf) := by rw [ew_1, List.getElem?_set_ne (by omega), List.getElem?_set_ne (by omega)]; exact hpf
  have hf1__m___6_ : w_1[(m + 6)]? = some (mI 0 60 tx) := by rw [ew_1, List.getElem?_set_ne (by omega), List.getElem?_set_ne (by omega)]; exact htx
  have hf1__m___7_ : w_1[(m + 7)]? = some (mI 0 40 lf) := by rw [ew_1, List.getElem?_set_ne (by omega), List.getElem?_set_ne (by omega)]; exact hlf
  have hf1__m___8_ : w_1[(m + 8)]? = some (mI 0 8 lt) := by rw [ew_1, List.getElem?_set_ne (by omega), List.getElem?_set_ne (by omega)]; exact hlt
  have hf1__m___9_ : w_1[(m + 9)]? = some (mI 0 41 wdF) := by rw [ew_1, List.getElem?_set_ne (by omega), List.getElem?_set_ne (by omega)]; exact hwd
  have hf1__m___10_ : w_1[(m + 10)]? = some (mI 0 9 waF) := by rw [ew_1, List.getElem?_set_ne (by omega), List.getElem?_set_ne (by omega)]; exact hwa
  have hF_1 : Fr m w w_1 := by rw [ew_1]; exact (Fr.set (Fr.set hF0 (by omega) (by omega)) (by omega) (by omega))
  show Wp X 0 0 w_1 [(0, .ref m), (1, .int 0)] [] 4
  refine r_aload_n hC dX9_setBorder_4 rfl (j := 0) rfl ?_
  refine r_aload_n hC dX9_setBorder_5 rfl (j := 0) rfl ?_
  refine r_iload_n hC dX9_setBorder_6 rfl (j := 1) rfl ?_
  refine r_if_eq hC dX9_setBorder_7 (tgt := 14) (by decide) (fun _ => ?_) (fun h => absurd (by decide) h)
  refine r_iconst hC dX9_setBorder_14 (v := 0) (by decide) ?_
  refine r_callV hC (vs := [.int 0]) vX9_setBorder_15 (sm_opens (d := d) hf1_m hf1__m___1_ h25 (by decide) hlg hT) hf1_m rfl rfl (by omega) (by omega) (by omega) (Nat.le_of_ble_eq_true rfl) (fun v_2 w_2 hP_2 hlen_2 => ?_) (fun _ _ h => h.elim)
  obtain ⟨hv_2, ew_2⟩ := hP_2
  rw [hv_2]
  have hf2_m : w_2[m]? = some (mO 10 [.int 0, .int (nI l.length), .int ea, .int fa, .int (bI so.isSome), .ref (m + 1), .ref (m + 2), .ref (m + 3), .ref (m + 4), .ref (m + 5), .ref (m + 6), .ref (m + 7), .ref (m + 8), .ref (m + 9), .ref (m + 10), .int (nI tn), .int he, .int en, .int (nI ln), .int iw, .int id0]) := by rw [ew_2, List.getElem?_set_ne (by omega)]; exact hf1_m
  have hf2__m___1_ : w_2[(m + 1)]? = some (mI 0 67 (enc (((sBorder ((f, g, sl, op, lo), hd, rs, np, tp, av, lg, pl, tk) 0).1.1, (sBorder ((f, g, sl, op, lo), hd, rs, np, tp, av, lg, pl, tk) 0).1.2.1, (sBorder ((f, g, sl, op, lo), hd, rs, np, tp, av, lg, pl, tk) 0).1.2.2.1, (sBorder ((f, g, sl, op, lo), hd, rs, np, tp, av, lg, pl, tk) 0).1.2.2.2.1, (sBorder ((f, g, sl, op, lo), hd, rs, np, tp, av, lg, pl, tk) 0).1.2.2.2.2), (sBorder ((f, g, sl, op, lo), hd, rs, np, tp, av, lg, pl, tk) 0).2.1, (sBorder ((f, g, sl, op, lo), hd, rs, np, tp, av, lg, pl, tk) 0).2.2.1, np, (sBorder ((f, g, sl, op, lo), hd, rs, np, tp, av, lg, pl, tk) 0).2.2.2.2.1, (sBorder ((f, g, sl, op, lo), hd, rs, np, tp, av, lg, pl, tk) 0).2.2.2.2.2.1, (sBorder ((f, g, sl, op, lo), hd, rs, np, tp, av, lg, pl, tk) 0).2.2.2.2.2.2.1, (sBorder ((f, g, sl, op, lo), hd, rs, np, tp, av, lg, pl, tk) 0).2.2.2.2.2.2.2.1, (sBorder ((f, g, sl, op, lo), hd, rs, np, tp, av, lg, pl, tk) 0).2.2.2.2.2.2.2.2))) := by rw [ew_2]; exact List.getElem?_set_self (lt_of_get hf1__m___1_)
  have hf2__m___2_ : w_2[(m + 2)]? = some (mI 0 67 (enc ((f, g, sl, op, lo), hd, rs, np, tp, av, lg, pl, tk))) := by rw [ew_2, List.getElem?_set_ne (by omega)]; exact hf1__m___2_
  have hf2__m___3_ : w_2[(m + 3)]? = some (mI 0 67 sf) := by rw [ew_2, List.getElem?_set_ne (by omega)]; exact hf1__m___3_
  have hf2__m___4_ : w_2[(m + 4)]? = some (mI 0 67 kf) := by rw [ew_2, List.getElem?_set_ne (by omega)]; exact hf1__m___4_
  have hf2__m___5_ : w_2[(m + 5)]? = some (mI 0 536 pf) := by rw [ew_2, List.getElem?_set_ne (by omega)]; exact hf1__m___5_
  have hf2__m___6_ : w_2[(m + 6)]? = some (mI 0 60 tx) := by rw [ew_2, List.getElem?_set_ne (by omega)]; exact hf1__m___6_
  have hf2__m___7_ : w_2[(m + 7)]? = some (mI 0 40 lf) := by rw [ew_2, List.getElem?_set_ne (by omega)]; exact hf1__m___7_
  have hf2__m___8_ : w_2[(m + 8)]? = some (mI 0 8 lt) := by rw [ew_2, List.getElem?_set_ne (by omega)]; exact hf1__m___8_
  have hf2__m___9_ : w_2[(m + 9)]? = some (mI 0 41 wdF) := by rw [ew_2, List.getElem?_set_ne (by omega)]; exact hf1__m___9_
  have hf2__m___10_ : w_2[(m + 10)]? = some (mI 0 9 waF) := by rw [ew_2, List.getElem?_set_ne (by omega)]; exact hf1__m___10_
  have hF_2 : Fr m w w_2 := by rw [ew_2]; exact (Fr.set hF_1 (by omega) (by omega))
  show Wp X 0 0 w_2 [(0, .ref m), (1, .int 0)] [.int op, .ref m] 18
  refine r_callV hC (vs := [.int op]) vX9_setBorder_18 (sm_endsK (y := ((f, g, sl, op, lo), hd, rs, np, tp, av, lg, pl, tk)) (d := d + 5 + 1) hf2_m hf2__m___2_ hf2__m___5_ hpo) hf2_m rfl rfl (by omega) (by omega) (by omega) (Nat.le_of_ble_eq_true rfl) (fun v_3 w_3 hP_3 hlen_3 => ?_) (fun _ _ h => h.elim)
  obtain ⟨hv_3, q_3, hq_3, ew_3⟩ := hP_3
  rw [hv_3]
  have hf3_m : w_3[m]? = some (mO 10 [.int 0, .int (nI (push8 l ((f, g, sl, op, lo), hd, rs, np, tp, av, lg, pl, tk)).length), .int ea, .int fa, .int (bI so.isSome), .ref (m + 1), .ref (m + 2), .ref (m + 3), .ref (m + 4), .ref (m + 5), .ref (m + 6), .ref (m + 7), .ref (m + 8), .ref (m + 9), .ref (m + 10), .int (nI tn), .int he, .int en, .int (nI ln), .int iw, .int id0]) := by rw [ew_3]; exact List.getElem?_set_self (by simp only [List.length_set]; exact lt_of_get hf2_m)
  have hf3__m___1_ : w_3[(m + 1)]? = some (mI 0 67 (enc (((sBorder ((f, g, sl, op, lo), hd, rs, np, tp, av, lg, pl, tk) 0).1.1, (sBorder ((f, g, sl, op, lo), hd, rs, np, tp, av, lg, pl, tk) 0).1.2.1, (sBorder ((f, g, sl, op, lo), hd, rs, np, tp, av, lg, pl, tk) 0).1.2.2.1, (sBorder ((f, g, sl, op, lo), hd, rs, np, tp, av, lg, pl, tk) 0).1.2.2.2.1, (sBorder ((f, g, sl, op, lo), hd, rs, np, tp, av, lg, pl, tk) 0).1.2.2.2.2), (sBorder ((f, g, sl, op, lo), hd, rs, np, tp, av, lg, pl, tk) 0).2.1, (sBorder ((f, g, sl, op, lo), hd, rs, np, tp, av, lg, pl, tk) 0).2.2.1, np, (sBorder ((f, g, sl, op, lo), hd, rs, np, tp, av, lg, pl, tk) 0).2.2.2.2.1, (sBorder ((f, g, sl, op, lo), hd, rs, np, tp, av, lg, pl, tk) 0).2.2.2.2.2.1, (sBorder ((f, g, sl, op, lo), hd, rs, np, tp, av, lg, pl, tk) 0).2.2.2.2.2.2.1, (sBorder ((f, g, sl, op, lo), hd, rs, np, tp, av, lg, pl, tk) 0).2.2.2.2.2.2.2.1, (sBorder ((f, g, sl, op, lo), hd, rs, np, tp, av, lg, pl, tk) 0).2.2.2.2.2.2.2.2))) := by rw [ew_3, List.getElem?_set_ne (by omega), List.getElem?_set_ne (by omega)]; exact hf2__m___1_
  have hf3__m___2_ : w_3[(m + 2)]? = some (mI 0 67 (enc ((f, g, sl, op, lo), hd, rs, np, tp, av, lg, pl, tk))) := by rw [ew_3, List.getElem?_set_ne (by omega), List.getElem?_set_ne (by omega)]; exact hf2__m___2_
  have hf3__m___3_ : w_3[(m + 3)]? = some (mI 0 67 sf) := by rw [ew_3, List.getElem?_set_ne (by omega), List.getElem?_set_ne (by omega)]; exact hf2__m___3_
  have hf3__m___4_ : w_3[(m + 4)]? = some (mI 0 67 kf) := by rw [ew_3, List.getElem?_set_ne (by omega), List.getElem?_set_ne (by omega)]; exact hf2__m___4_
  have hf3__m___5_ : w_3[(m + 5)]? = some (mI 0 536 q_3) := by rw [ew_3, List.getElem?_set_ne (by omega)]; exact List.getElem?_set_self (lt_of_get hf2__m___5_)
  have hf3__m___6_ : w_3[(m + 6)]? = some (mI 0 60 tx) := by rw [ew_3, List.getElem?_set_ne (by omega), List.getElem?_set_ne (by omega)]; exact hf2__m___6_
  have hf3__m___7_ : w_3[(m + 7)]? = some (mI 0 40 lf) := by rw [ew_3, List.getElem?_set_ne (by omega), List.getElem?_set_ne (by omega)]; exact hf2__m___7_
  have hf3__m___8_ : w_3[(m + 8)]? = some (mI 0 8 lt) := by rw [ew_3, List.getElem?_set_ne (by omega), List.getElem?_set_ne (by omega)]; exact hf2__m___8_
  have hf3__m___9_ : w_3[(m + 9)]? = some (mI 0 41 wdF) := by rw [ew_3, List.getElem?_set_ne (by omega), List.getElem?_set_ne (by omega)]; exact hf2__m___9_
  have hf3__m___10_ : w_3[(m + 10)]? = some (mI 0 9 waF) := by rw [ew_3, List.getElem?_set_ne (by omega), List.getElem?_set_ne (by omega)]; exact hf2__m___10_
  have hF_3 : Fr m w w_3 := by rw [ew_3]; exact (Fr.set (Fr.set hF_2 (by omega) (by omega)) (by omega) (by omega))
  show Wp X 0 0 w_3 [(0, .ref m), (1, .int 0)] [.int op] 21
  refine r_iconst hC dX9_setBorder_21 (v := 1) (by decide) ?_
  refine r_icmp_ne hC dX9_setBorder_22 (tgt := 29) (by decide) (fun c22 => ?_) (fun c22 => ?_)
  · refine r_iconst hC dX9_setBorder_29 (v := 0) (by decide) ?_
    refine r_nret hC hE hR dX9_setBorder_30 (by decide) (by omega) (by omega) (hF_3.1) ?_
    have e9 : op = 0 := hop.resolve_right c22
    exact ⟨by rw [e9], ⟨⟨_, _, _, _, _, _, _, _, _, hf3_m, hf3__m___1_, hf3__m___2_, hf3__m___3_, hf3__m___4_, hf3__m___5_, hf3__m___6_, hf3__m___7_, hf3__m___8_, hf3__m___9_, hf3__m___10_, hq_3, hso⟩, hF_3⟩⟩
  · refine r_iconst hC dX9_setBorder_25 (v := 1) (by decide) ?_
    refine r_goto hC dX9_setBorder_26 (tgt := 30) (by decide) ?_
    refine r_nret hC hE hR dX9_setBorder_30 (by decide) (by omega) (by omega) (hF_3.1) ?_
    have e9 : op = 1 := c22
    exact ⟨by rw [e9], ⟨⟨_, _, _, _, _, _, _, _, _, hf3_m, hf3__m___1_, hf3__m___2_, hf3__m___3_, hf3__m___4_, hf3__m___5_, hf3__m___6_, hf3__m___7_, hf3__m___8_, hf3__m___9_, hf3__m___10_, hq_3, hso⟩, hF_3⟩⟩
set_option maxRecDepth 100000 in
set_option maxHeartbeats 4000000 in
theorem sm_setBorder1 {d : Nat} {w : mW} {m : Nat} {th : Int32} {f g : Nat → Int32} {sl op lo : Int32} {hd rs : Nat → Int32} {np : Nat} {tp av lg pl tk : Int32} {l : List sv} {ea fa : Int32} {so : Option sv} {tx : Nat → Int32} {tn : Nat} {lf : Nat → Int32} {ln : Nat} (H : MdAt w m th ((f, g, sl, op, lo), hd, rs, np, tp, av, lg, pl, tk) l ea fa so tx tn lf ln) (h25 : f 25 = 0) (hop : op = 0 ∨ op = 1) (hlg : ¬ lg < 0) (hT : hNx (hRestF (f, g, sl, 1, lo)).2 = none) : Sp (d + 7) yX9_setBorder cX9_setBorder 2 (some .boolean) [.ref m, .int 1] w 0 0 (fun v w' => v = some (.int op) ∧ MdTo w w' m 0 (sBorder ((f, g, sl, op, lo), hd, rs, np, tp, av, lg, pl, tk) 1) (push8 l ((f, g, sl, op, lo), hd, rs, np, tp, av, lg, pl, tk)) ea fa so tx tn lf ln) noX := by
  refine Sp.of (by decide +kernel) (Nat.le_of_ble_eq_true rfl) (fun X hC hnl hE hR hN => ?_)
  have hC : Cx X RX9 cX9_setBorder (d + 7) 0 0 := hC
  show Wp X 0 0 w [(0, .ref m), (1, .int 1)] [] 0
  obtain ⟨he, en, iw, id0, bf, sf, kf, pf, lt, hm, hv, hbf, hsf, hkf, hpf, htx, hlf, hlt, hwd, hwa, hpo, hso⟩ := H
  have hF0 : Fr m w w := Fr.rfl
  refine r_aload_n hC dX9_setBorder_0 rfl (j := 0) rfl ?_
  refine r_callV hC (vs := []) vX9_setBorder_1 (sm_begins (d := d + 5) hm hv hbf) hm rfl rfl (by omega) (by omega) (by omega) (Nat.le_of_ble_eq_true rfl) (fun v_1 w_1 hP_1 hlen_1 => ?_) (fun _ _ h => h.elim)
  obtain ⟨hv_1, ew_1⟩ := hP_1
  rw [hv_1]
  have hf1_m : w_1[m]? = some (mO 10 [.int 0, .int (nI l.length), .int ea, .int fa, .int (bI so.isSome), .ref (m + 1), .ref (m + 2), .ref (m + 3), .ref (m + 4), .ref (m + 5), .ref (m + 6), .ref (m + 7), .ref (m + 8), .ref (m + 9), .ref (m + 10), .int (nI tn), .int he, .int en, .int (nI ln), .int iw, .int id0]) := by rw [ew_1, List.getElem?_set_ne (by omega)]; exact List.getElem?_set_self (lt_of_get hm)
  have hf1__m___1_ : w_1[(m + 1)]? = some (mI 0 67 (enc ((f, g, sl, op, lo), hd, rs, np, tp, av, lg, pl, tk))) := by rw [ew_1, List.getElem?_set_ne (by omega), List.getElem?_set_ne (by omega)]; exact hv
  have hf1__m___2_ : w_1[(m + 2)]? = some (mI 0 67 (enc ((f, g, sl, op, lo), hd, rs, np, tp, av, lg, pl, tk))) := by rw [ew_1]; exact List.getElem?_set_self (by simp only [List.length_set]; exact lt_of_get hbf)
  have hf1__m___3_ : w_1[(m + 3)]? = some (mI 0 67 sf) := by rw [ew_1, List.getElem?_set_ne (by omega), List.getElem?_set_ne (by omega)]; exact hsf
  have hf1__m___4_ : w_1[(m + 4)]? = some (mI 0 67 kf) := by rw [ew_1, List.getElem?_set_ne (by omega), List.getElem?_set_ne (by omega)]; exact hkf
  have hf1__m___5_ : w_1[(m + 5)]? = some (mI 0 536 pf) := by rw [ew_1, List.getElem?_set_ne (by omega), List.getElem?_set_ne (by omega)]; exact hpf
  have hf1__m___6_ : w_1[(m + 6)]? = some (mI 0 60 tx) := by rw [ew_1, List.getElem?_set_ne (by omega), List.getElem?_set_ne (by omega)]; exact htx
  have hf1__m___7_ : w_1[(m + 7)]? = some (mI 0 40 lf) := by rw [ew_1, List.getElem?_set_ne (by omega), List.getElem?_set_ne (by omega)]; exact hlf
  have hf1__m___8_ : w_1[(m + 8)]? = some (mI 0 8 lt) := by rw [ew_1, List.getElem?_set_ne (by omega), List.getElem?_set_ne (by omega)]; exact hlt
  have hf1__m___9_ : w_1[(m + 9)]? = some (mI 0 41 wdF) := by rw [ew_1, List.getElem?_set_ne (by omega), List.getElem?_set_ne (by omega)]; exact hwd
  have hf1__m___10_ : w_1[(m + 10)]? = some (mI 0 9 waF) := by rw [ew_1, List.getElem?_set_ne (by omega), List.getElem?_set_ne (by omega)]; exact hwa
  have hF_1 : Fr m w w_1 := by rw [ew_1]; exact (Fr.set (Fr.set hF0 (by omega) (by omega)) (by omega) (by omega))
  show Wp X 0 0 w_1 [(0, .ref m), (1, .int 1)] [] 4
  refine r_aload_n hC dX9_setBorder_4 rfl (j := 0) rfl ?_
  refine r_aload_n hC dX9_setBorder_5 rfl (j := 0) rfl ?_
  refine r_iload_n hC dX9_setBorder_6 rfl (j := 1) rfl ?_
  refine r_if_eq hC dX9_setBorder_7 (tgt := 14) (by decide) (fun h => absurd h (by decide)) (fun _ => ?_)
  refine r_iconst hC dX9_setBorder_10 (v := 1) (by decide) ?_
  refine r_goto hC dX9_setBorder_11 (tgt := 15) (by decide) ?_
  refine r_callV hC (vs := [.int 1]) vX9_setBorder_15 (sm_opens (d := d) hf1_m hf1__m___1_ h25 (by decide) hlg hT) hf1_m rfl rfl (by omega) (by omega) (by omega) (Nat.le_of_ble_eq_true rfl) (fun v_2 w_2 hP_2 hlen_2 => ?_) (fun _ _ h => h.elim)
  obtain ⟨hv_2, ew_2⟩ := hP_2
  rw [hv_2]
  have hf2_m : w_2[m]? = some (mO 10 [.int 0, .int (nI l.length), .int ea, .int fa, .int (bI so.isSome), .ref (m + 1), .ref (m + 2), .ref (m + 3), .ref (m + 4), .ref (m + 5), .ref (m + 6), .ref (m + 7), .ref (m + 8), .ref (m + 9), .ref (m + 10), .int (nI tn), .int he, .int en, .int (nI ln), .int iw, .int id0]) := by rw [ew_2, List.getElem?_set_ne (by omega)]; exact hf1_m
  have hf2__m___1_ : w_2[(m + 1)]? = some (mI 0 67 (enc (((sBorder ((f, g, sl, op, lo), hd, rs, np, tp, av, lg, pl, tk) 1).1.1, (sBorder ((f, g, sl, op, lo), hd, rs, np, tp, av, lg, pl, tk) 1).1.2.1, (sBorder ((f, g, sl, op, lo), hd, rs, np, tp, av, lg, pl, tk) 1).1.2.2.1, (sBorder ((f, g, sl, op, lo), hd, rs, np, tp, av, lg, pl, tk) 1).1.2.2.2.1, (sBorder ((f, g, sl, op, lo), hd, rs, np, tp, av, lg, pl, tk) 1).1.2.2.2.2), (sBorder ((f, g, sl, op, lo), hd, rs, np, tp, av, lg, pl, tk) 1).2.1, (sBorder ((f, g, sl, op, lo), hd, rs, np, tp, av, lg, pl, tk) 1).2.2.1, np, (sBorder ((f, g, sl, op, lo), hd, rs, np, tp, av, lg, pl, tk) 1).2.2.2.2.1, (sBorder ((f, g, sl, op, lo), hd, rs, np, tp, av, lg, pl, tk) 1).2.2.2.2.2.1, (sBorder ((f, g, sl, op, lo), hd, rs, np, tp, av, lg, pl, tk) 1).2.2.2.2.2.2.1, (sBorder ((f, g, sl, op, lo), hd, rs, np, tp, av, lg, pl, tk) 1).2.2.2.2.2.2.2.1, (sBorder ((f, g, sl, op, lo), hd, rs, np, tp, av, lg, pl, tk) 1).2.2.2.2.2.2.2.2))) := by rw [ew_2]; exact List.getElem?_set_self (lt_of_get hf1__m___1_)
  have hf2__m___2_ : w_2[(m + 2)]? = some (mI 0 67 (enc ((f, g, sl, op, lo), hd, rs, np, tp, av, lg, pl, tk))) := by rw [ew_2, List.getElem?_set_ne (by omega)]; exact hf1__m___2_
  have hf2__m___3_ : w_2[(m + 3)]? = some (mI 0 67 sf) := by rw [ew_2, List.getElem?_set_ne (by omega)]; exact hf1__m___3_
  have hf2__m___4_ : w_2[(m + 4)]? = some (mI 0 67 kf) := by rw [ew_2, List.getElem?_set_ne (by omega)]; exact hf1__m___4_
  have hf2__m___5_ : w_2[(m + 5)]? = some (mI 0 536 pf) := by rw [ew_2, List.getElem?_set_ne (by omega)]; exact hf1__m___5_
  have hf2__m___6_ : w_2[(m + 6)]? = some (mI 0 60 tx) := by rw [ew_2, List.getElem?_set_ne (by omega)]; exact hf1__m___6_
  have hf2__m___7_ : w_2[(m + 7)]? = some (mI 0 40 lf) := by rw [ew_2, List.getElem?_set_ne (by omega)]; exact hf1__m___7_
  have hf2__m___8_ : w_2[(m + 8)]? = some (mI 0 8 lt) := by rw [ew_2, List.getElem?_set_ne (by omega)]; exact hf1__m___8_
  have hf2__m___9_ : w_2[(m + 9)]? = some (mI 0 41 wdF) := by rw [ew_2, List.getElem?_set_ne (by omega)]; exact hf1__m___9_
  have hf2__m___10_ : w_2[(m + 10)]? = some (mI 0 9 waF) := by rw [ew_2, List.getElem?_set_ne (by omega)]; exact hf1__m___10_
  have hF_2 : Fr m w w_2 := by rw [ew_2]; exact (Fr.set hF_1 (by omega) (by omega))
  show Wp X 0 0 w_2 [(0, .ref m), (1, .int 1)] [.int op, .ref m] 18
  refine r_callV hC (vs := [.int op]) vX9_setBorder_18 (sm_endsK (y := ((f, g, sl, op, lo), hd, rs, np, tp, av, lg, pl, tk)) (d := d + 5 + 1) hf2_m hf2__m___2_ hf2__m___5_ hpo) hf2_m rfl rfl (by omega) (by omega) (by omega) (Nat.le_of_ble_eq_true rfl) (fun v_3 w_3 hP_3 hlen_3 => ?_) (fun _ _ h => h.elim)
  obtain ⟨hv_3, q_3, hq_3, ew_3⟩ := hP_3
  rw [hv_3]
  have hf3_m : w_3[m]? = some (mO 10 [.int 0, .int (nI (push8 l ((f, g, sl, op, lo), hd, rs, np, tp, av, lg, pl, tk)).length), .int ea, .int fa, .int (bI so.isSome), .ref (m + 1), .ref (m + 2), .ref (m + 3), .ref (m + 4), .ref (m + 5), .ref (m + 6), .ref (m + 7), .ref (m + 8), .ref (m + 9), .ref (m + 10), .int (nI tn), .int he, .int en, .int (nI ln), .int iw, .int id0]) := by rw [ew_3]; exact List.getElem?_set_self (by simp only [List.length_set]; exact lt_of_get hf2_m)
  have hf3__m___1_ : w_3[(m + 1)]? = some (mI 0 67 (enc (((sBorder ((f, g, sl, op, lo), hd, rs, np, tp, av, lg, pl, tk) 1).1.1, (sBorder ((f, g, sl, op, lo), hd, rs, np, tp, av, lg, pl, tk) 1).1.2.1, (sBorder ((f, g, sl, op, lo), hd, rs, np, tp, av, lg, pl, tk) 1).1.2.2.1, (sBorder ((f, g, sl, op, lo), hd, rs, np, tp, av, lg, pl, tk) 1).1.2.2.2.1, (sBorder ((f, g, sl, op, lo), hd, rs, np, tp, av, lg, pl, tk) 1).1.2.2.2.2), (sBorder ((f, g, sl, op, lo), hd, rs, np, tp, av, lg, pl, tk) 1).2.1, (sBorder ((f, g, sl, op, lo), hd, rs, np, tp, av, lg, pl, tk) 1).2.2.1, np, (sBorder ((f, g, sl, op, lo), hd, rs, np, tp, av, lg, pl, tk) 1).2.2.2.2.1, (sBorder ((f, g, sl, op, lo), hd, rs, np, tp, av, lg, pl, tk) 1).2.2.2.2.2.1, (sBorder ((f, g, sl, op, lo), hd, rs, np, tp, av, lg, pl, tk) 1).2.2.2.2.2.2.1, (sBorder ((f, g, sl, op, lo), hd, rs, np, tp, av, lg, pl, tk) 1).2.2.2.2.2.2.2.1, (sBorder ((f, g, sl, op, lo), hd, rs, np, tp, av, lg, pl, tk) 1).2.2.2.2.2.2.2.2))) := by rw [ew_3, List.getElem?_set_ne (by omega), List.getElem?_set_ne (by omega)]; exact hf2__m___1_
  have hf3__m___2_ : w_3[(m + 2)]? = some (mI 0 67 (enc ((f, g, sl, op, lo), hd, rs, np, tp, av, lg, pl, tk))) := by rw [ew_3, List.getElem?_set_ne (by omega), List.getElem?_set_ne (by omega)]; exact hf2__m___2_
  have hf3__m___3_ : w_3[(m + 3)]? = some (mI 0 67 sf) := by rw [ew_3, List.getElem?_set_ne (by omega), List.getElem?_set_ne (by omega)]; exact hf2__m___3_
  have hf3__m___4_ : w_3[(m + 4)]? = some (mI 0 67 kf) := by rw [ew_3, List.getElem?_set_ne (by omega), List.getElem?_set_ne (by omega)]; exact hf2__m___4_
  have hf3__m___5_ : w_3[(m + 5)]? = some (mI 0 536 q_3) := by rw [ew_3, List.getElem?_set_ne (by omega)]; exact List.getElem?_set_self (lt_of_get hf2__m___5_)
  have hf3__m___6_ : w_3[(m + 6)]? = some (mI 0 60 tx) := by rw [ew_3, List.getElem?_set_ne (by omega), List.getElem?_set_ne (by omega)]; exact hf2__m___6_
  have hf3__m___7_ : w_3[(m + 7)]? = some (mI 0 40 lf) := by rw [ew_3, List.getElem?_set_ne (by omega), List.getElem?_set_ne (by omega)]; exact hf2__m___7_
  have hf3__m___8_ : w_3[(m + 8)]? = some (mI 0 8 lt) := by rw [ew_3, List.getElem?_set_ne (by omega), List.getElem?_set_ne (by omega)]; exact hf2__m___8_
  have hf3__m___9_ : w_3[(m + 9)]? = some (mI 0 41 wdF) := by rw [ew_3, List.getElem?_set_ne (by omega), List.getElem?_set_ne (by omega)]; exact hf2__m___9_
  have hf3__m___10_ : w_3[(m + 10)]? = some (mI 0 9 waF) := by rw [ew_3, List.getElem?_set_ne (by omega), List.getElem?_set_ne (by omega)]; exact hf2__m___10_
  have hF_3 : Fr m w w_3 := by rw [ew_3]; exact (Fr.set (Fr.set hF_2 (by omega) (by omega)) (by omega) (by omega))
  show Wp X 0 0 w_3 [(0, .ref m), (1, .int 1)] [.int op] 21
  refine r_iconst hC dX9_setBorder_21 (v := 1) (by decide) ?_
  refine r_icmp_ne hC dX9_setBorder_22 (tgt := 29) (by decide) (fun c22 => ?_) (fun c22 => ?_)
  · refine r_iconst hC dX9_setBorder_29 (v := 0) (by decide) ?_
    refine r_nret hC hE hR dX9_setBorder_30 (by decide) (by omega) (by omega) (hF_3.1) ?_
    have e9 : op = 0 := hop.resolve_right c22
    exact ⟨by rw [e9], ⟨⟨_, _, _, _, _, _, _, _, _, hf3_m, hf3__m___1_, hf3__m___2_, hf3__m___3_, hf3__m___4_, hf3__m___5_, hf3__m___6_, hf3__m___7_, hf3__m___8_, hf3__m___9_, hf3__m___10_, hq_3, hso⟩, hF_3⟩⟩
  · refine r_iconst hC dX9_setBorder_25 (v := 1) (by decide) ?_
    refine r_goto hC dX9_setBorder_26 (tgt := 30) (by decide) ?_
    refine r_nret hC hE hR dX9_setBorder_30 (by decide) (by omega) (by omega) (hF_3.1) ?_
    have e9 : op = 1 := c22
    exact ⟨by rw [e9], ⟨⟨_, _, _, _, _, _, _, _, _, hf3_m, hf3__m___1_, hf3__m___2_, hf3__m___3_, hf3__m___4_, hf3__m___5_, hf3__m___6_, hf3__m___7_, hf3__m___8_, hf3__m___9_, hf3__m___10_, hq_3, hso⟩, hF_3⟩⟩
end MD8
