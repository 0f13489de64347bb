section ST3
/-- the hill comes to rest, and its topples are counted -/
def sSettle (y : sv) : sv := ((hRestF y.1).2, y.2.1, y.2.2.1, y.2.2.2.1, avZ y.2.2.2.2 (nI (hRestF y.1).1))
def sPile (y : sv) (c : Nat) (x : Int32) : sv := sSettle (hPlace y.1 c x (-1), y.2.1, y.2.2.1, y.2.2.2.1, (y.2.2.2.2.1, y.2.2.2.2.2.1, y.2.2.2.2.2.2.1, y.2.2.2.2.2.2.2.1 + x, y.2.2.2.2.2.2.2.2))
def sTake (y : sv) (q c : Nat) : sv := sSettle (hRem y.1 c, upd y.2.1 q (y.2.1 q + 1), y.2.2.1, y.2.2.2.1, (y.2.2.2.2.1, y.2.2.2.2.2.1, y.2.2.2.2.2.2.1, y.2.2.2.2.2.2.2.1, y.2.2.2.2.2.2.2.2 + 1))
def sDropA (y : sv) (q c : Nat) (x : Int32) : sv := sSettle (hPlace y.1 c x (nI q), upd y.2.1 q (y.2.1 q - x), sPass y.2.2.1 (nI q) y.2.2.2.1, y.2.2.2.1, (y.2.2.2.2.1, y.2.2.2.2.2.1, y.2.2.2.2.2.2.1, y.2.2.2.2.2.2.2.1 + x, y.2.2.2.2.2.2.2.2))
def sDropN (y : sv) (c : Nat) (x t : Int32) : Int32 := nI (hRestF (hPlace y.1 c x t)).1
def sDrop (y : sv) (q c : Nat) (x : Int32) : sv := if sDropN y c x (nI q) ≤ 0 then sDropA y q c x else ((sDropA y q c x).1, (sDropA y q c x).2.1, upd (sDropA y q c x).2.2.1 q (sDropN y c x (nI q) / 4), (sDropA y q c x).2.2.2.1, (sDropA y q c x).2.2.2.2)
def sSlope (y : sv) (x : Int32) : sv := sSettle ((y.1.1, y.1.2.1, x, y.1.2.2.2.1, y.1.2.2.2.2), y.2.1, y.2.2.1, y.2.2.2.1, y.2.2.2.2)
def sBorder (y : sv) (x : Int32) : sv := sSettle ((y.1.1, y.1.2.1, y.1.2.2.1, x, y.1.2.2.2.2), y.2.1, y.2.2.1, y.2.2.2.1, y.2.2.2.2)
set_option maxRecDepth 100000 in
set_option maxHeartbeats 4000000 in
theorem sp_pile {d c : Nat} {x : Int32} {w : mW} {s : Nat} {f g : Nat → Int32} {sl op lo : Int32} {hd rs : Nat → Int32} {np : Nat} {tp av lg pl tk : Int32} (H0 : StAt w s ((f, g, sl, op, lo), hd, rs, np, tp, av, lg, pl, tk)) (hc : c < 25) : Sp (d + 4) yX6_pileStones cX6_pileStones 3 (some .int) [.ref s, .int (nI c), .int x] w 0 0 (fun v w' => v = some (.int (sDropN ((f, g, sl, op, lo), hd, rs, np, (tp, av, lg, pl, tk)) c x (-1))) ∧ StTo w s (sPile ((f, g, sl, op, lo), hd, rs, np, (tp, av, lg, pl, tk)) c x) w') noX := by
  refine Sp.of (by decide +kernel) (Nat.le_of_ble_eq_true rfl) (fun X hC hnl hE hR hN => ?_)
  have hC : Cx X RX6 cX6_pileStones (d + 4) 0 0 := hC
  show Wp X 0 0 w [(0, .ref s), (1, .int (nI c)), (2, .int x)] [] 0
  have hs : w[s]? = some (mO 7 [.ref (s + 1), .ref (s + 4), .ref (s + 5), .int (nI np), .int tp, .int av, .int lg, .int pl, .int tk]) := H0.1
  have H : HillAt w (s + 1) (s + 2) (s + 3) (f, g, sl, op, lo) := H0.2.1
  have hh : w[s + 1]? = some (mO 6 [.ref (s + 2), .ref (s + 3), .int sl, .int op, .int lo]) := H.1
  have ha : w[s + 2]? = some (mI 0 26 f) := H.2.1
  have hb : w[s + 3]? = some (mI 0 25 g) := H.2.2
  have hhd : w[s + 4]? = some (mI 0 4 hd) := H0.2.2.1
  have hrs : w[s + 5]? = some (mI 0 4 rs) := H0.2.2.2
  refine r_aload_n hC dX6_pileStones_0 rfl (j := 0) rfl ?_
  refine r_dup hC dX6_pileStones_1 rfl ?_
  refine r_get hC gX6_pileStones_2 hs (v := .int pl) rfl ?_
  refine r_iload_n hC dX6_pileStones_5 rfl (j := 2) rfl ?_
  refine r_iadd hC dX6_pileStones_6 ?_
  refine r_put' hC pX6_pileStones_7 hs (Nat.le_of_ble_eq_true rfl) (fun _ => rfl) (fun _ => rfl) (fun w_1 ew_1 => ?_)
  have hf1_s : w_1[s]? = some (mO 7 [.ref (s + 1), .ref (s + 4), .ref (s + 5), .int (nI np), .int tp, .int av, .int lg, .int (pl + x), .int tk]) := by rw [ew_1]; exact List.getElem?_set_self (lt_of_get hs)
  have hf1__s___1_ : w_1[(s + 1)]? = some (mO 6 [.ref (s + 2), .ref (s + 3), .int sl, .int op, .int lo]) := by rw [ew_1, List.getElem?_set_ne (by omega)]; exact hh
  have hf1__s___2_ : w_1[(s + 2)]? = some (mI 0 26 f) := by rw [ew_1, List.getElem?_set_ne (by omega)]; exact ha
  have hf1__s___3_ : w_1[(s + 3)]? = some (mI 0 25 g) := by rw [ew_1, List.getElem?_set_ne (by omega)]; exact hb
  have hf1__s___4_ : w_1[(s + 4)]? = some (mI 0 4 hd) := by rw [ew_1, List.getElem?_set_ne (by omega)]; exact hhd
  have hf1__s___5_ : w_1[(s + 5)]? = some (mI 0 4 rs) := by rw [ew_1, List.getElem?_set_ne (by omega)]; exact hrs
  refine r_aload_n hC dX6_pileStones_10 rfl (j := 0) rfl ?_
  refine r_get hC gX6_pileStones_11 hf1_s (v := .ref (s + 1)) rfl ?_
  refine r_iload_n hC dX6_pileStones_14 rfl (j := 1) rfl ?_
  refine r_iload_n hC dX6_pileStones_15 rfl (j := 2) rfl ?_
  refine r_iconst hC dX6_pileStones_16 (v := (-1)) (by decide) ?_
  refine r_callV hC (vs := [.int (nI c), .int x, .int (-1)]) vX6_pileStones_17 (sp_place (d := d) (⟨hf1__s___1_, hf1__s___2_, hf1__s___3_⟩ : HillAt w_1 (s + 1) (s + 2) (s + 3) (f, g, sl, op, lo)) (by omega) hc) hf1__s___1_ rfl rfl (by omega) (by omega) (by omega) (Nat.le_of_ble_eq_true rfl) (fun v_2 w_2 hP_2 hlen_2 => ?_) (fun _ _ h => h.elim)
  have H_2 : HillAt w_2 (s + 1) (s + 2) (s + 3) (hPlace (f, g, sl, op, lo) c x (-1)) := by rw [hP_2.2]; exact HillAt.set (x := (f, g, sl, op, lo)) ⟨hf1__s___1_, hf1__s___2_, hf1__s___3_⟩ _
  have hh_2 : w_2[s + 1]? = some (mO 6 [.ref (s + 2), .ref (s + 3), .int sl, .int op, .int lo]) := H_2.1
  have ha_2 : w_2[s + 2]? = some (mI 0 26 (upd f c (f c + x))) := H_2.2.1
  have hb_2 : w_2[s + 3]? = some (mI 0 25 (upd g c (-1))) := H_2.2.2
  have hx2_s : w_2[s]? = some (mO 7 [.ref (s + 1), .ref (s + 4), .ref (s + 5), .int (nI np), .int tp, .int av, .int lg, .int (pl + x), .int tk]) := by rw [hP_2.2, hillSet_other (by omega) (by omega) (by omega)]; exact hf1_s
  have hx2__s___4_ : w_2[(s + 4)]? = some (mI 0 4 hd) := by rw [hP_2.2, hillSet_other (by omega) (by omega) (by omega)]; exact hf1__s___4_
  have hx2__s___5_ : w_2[(s + 5)]? = some (mI 0 4 rs) := by rw [hP_2.2, hillSet_other (by omega) (by omega) (by omega)]; exact hf1__s___5_
  rw [hP_2.1]
  show Wp X 0 0 w_2 [(0, .ref s), (1, .int (nI c)), (2, .int x)] [] 20
  refine r_aload_n hC dX6_pileStones_20 rfl (j := 0) rfl ?_
  refine r_aload_n hC dX6_pileStones_21 rfl (j := 0) rfl ?_
  refine r_get hC gX6_pileStones_22 hx2_s (v := .ref (s + 1)) rfl ?_
  refine r_callV hC (vs := []) vX6_pileStones_25 (sp_rest (d := d) (⟨hh_2, ha_2, hb_2⟩ : HillAt w_2 (s + 1) (s + 2) (s + 3) (upd f c (f c + x), upd g c (-1), sl, op, lo))) hh_2 rfl rfl (by omega) (by omega) (by omega) (Nat.le_of_ble_eq_true rfl) (fun v_3 w_3 hP_3 hlen_3 => ?_) (fun _ _ h => h.elim)
  have H_3 : HillAt w_3 (s + 1) (s + 2) (s + 3) (hRestF (hPlace (f, g, sl, op, lo) c x (-1))).2 := by rw [hP_3.2]; exact HillAt.set (x := ((upd f c (f c + x)), (upd g c (-1)), sl, op, lo)) ⟨hh_2, ha_2, hb_2⟩ _
  have hh_3 : w_3[s + 1]? = some (mO 6 [.ref (s + 2), .ref (s + 3), .int ((hRestF (hPlace (f, g, sl, op, lo) c x (-1))).2).2.2.1, .int ((hRestF (hPlace (f, g, sl, op, lo) c x (-1))).2).2.2.2.1, .int ((hRestF (hPlace (f, g, sl, op, lo) c x (-1))).2).2.2.2.2]) := H_3.1
  have ha_3 : w_3[s + 2]? = some (mI 0 26 ((hRestF (hPlace (f, g, sl, op, lo) c x (-1))).2).1) := H_3.2.1
  have hb_3 : w_3[s + 3]? = some (mI 0 25 ((hRestF (hPlace (f, g, sl, op, lo) c x (-1))).2).2.1) := H_3.2.2
  have hx3_s : w_3[s]? = some (mO 7 [.ref (s + 1), .ref (s + 4), .ref (s + 5), .int (nI np), .int tp, .int av, .int lg, .int (pl + x), .int tk]) := by rw [hP_3.2, hillSet_other (by omega) (by omega) (by omega)]; exact hx2_s
  have hx3__s___4_ : w_3[(s + 4)]? = some (mI 0 4 hd) := by rw [hP_3.2, hillSet_other (by omega) (by omega) (by omega)]; exact hx2__s___4_
  have hx3__s___5_ : w_3[(s + 5)]? = some (mI 0 4 rs) := by rw [hP_3.2, hillSet_other (by omega) (by omega) (by omega)]; exact hx2__s___5_
  rw [hP_3.1]
  show Wp X 0 0 w_3 [(0, .ref s), (1, .int (nI c)), (2, .int x)] [.int (nI (hRestF (hPlace (f, g, sl, op, lo) c x (-1))).1), .ref s] 28
  refine r_callV hC (vs := [.int (nI (hRestF (hPlace (f, g, sl, op, lo) c x (-1))).1)]) vX6_pileStones_28 (sp_countAv (d := d + 2) (x := nI (hRestF (hPlace (f, g, sl, op, lo) c x (-1))).1) (f := ((hRestF (hPlace (f, g, sl, op, lo) c x (-1))).2).1) (g := ((hRestF (hPlace (f, g, sl, op, lo) c x (-1))).2).2.1) (sl := ((hRestF (hPlace (f, g, sl, op, lo) c x (-1))).2).2.2.1) (op := ((hRestF (hPlace (f, g, sl, op, lo) c x (-1))).2).2.2.2.1) (lo := ((hRestF (hPlace (f, g, sl, op, lo) c x (-1))).2).2.2.2.2) (hd := hd) (rs := rs) (np := np) (tp := tp) (av := av) (lg := lg) (pl := pl + x) (tk := tk) ⟨hx3_s, ⟨hh_3, ha_3, hb_3⟩, hx3__s___4_, hx3__s___5_⟩) hx3_s rfl rfl (by omega) (by omega) (by omega) (Nat.le_of_ble_eq_true rfl) (fun v_4 w_4 hP_4 hlen_4 => ?_) (fun _ _ h => h.elim)
  have hs_4 : w_4[s]? = some (mO 7 [.ref (s + 1), .ref (s + 4), .ref (s + 5), .int (nI np), .int (avZ (tp, av, lg, pl + x, tk) (nI (hRestF (hPlace (f, g, sl, op, lo) c x (-1))).1)).1, .int (avZ (tp, av, lg, pl + x, tk) (nI (hRestF (hPlace (f, g, sl, op, lo) c x (-1))).1)).2.1, .int (avZ (tp, av, lg, pl + x, tk) (nI (hRestF (hPlace (f, g, sl, op, lo) c x (-1))).1)).2.2.1, .int (avZ (tp, av, lg, pl + x, tk) (nI (hRestF (hPlace (f, g, sl, op, lo) c x (-1))).1)).2.2.2.1, .int (avZ (tp, av, lg, pl + x, tk) (nI (hRestF (hPlace (f, g, sl, op, lo) c x (-1))).1)).2.2.2.2]) := hP_4.2.1.1
  have hh_4 : w_4[(s + 1)]? = some (mO 6 [.ref (s + 2), .ref (s + 3), .int ((hRestF (hPlace (f, g, sl, op, lo) c x (-1))).2).2.2.1, .int ((hRestF (hPlace (f, g, sl, op, lo) c x (-1))).2).2.2.2.1, .int ((hRestF (hPlace (f, g, sl, op, lo) c x (-1))).2).2.2.2.2]) := hP_4.2.1.2.1.1
  have ha_4 : w_4[(s + 2)]? = some (mI 0 26 ((hRestF (hPlace (f, g, sl, op, lo) c x (-1))).2).1) := hP_4.2.1.2.1.2.1
  have hb_4 : w_4[(s + 3)]? = some (mI 0 25 ((hRestF (hPlace (f, g, sl, op, lo) c x (-1))).2).2.1) := hP_4.2.1.2.1.2.2
  have hhd_4 : w_4[(s + 4)]? = some (mI 0 4 hd) := hP_4.2.1.2.2.1
  have hrs_4 : w_4[(s + 5)]? = some (mI 0 4 rs) := hP_4.2.1.2.2.2
  rw [hP_4.1]
  show Wp X 0 0 w_4 [(0, .ref s), (1, .int (nI c)), (2, .int x)] [.int (nI (hRestF (hPlace (f, g, sl, op, lo) c x (-1))).1)] 31
  refine r_iret hC hE hR dX6_pileStones_31 (by omega) (by omega) (by rw [hlen_4, hlen_3, hlen_2, ew_1, List.length_set]) ?_
  exact ⟨rfl, ⟨⟨hs_4, ⟨hh_4, ha_4, hb_4⟩, hhd_4, hrs_4⟩, fun k hk => by rw [hP_4.2.2 k (by omega), hP_3.2, hillSet_other (by omega) (by omega) (by omega), hP_2.2, hillSet_other (by omega) (by omega) (by omega), ew_1, List.getElem?_set_ne (by omega)]⟩⟩
set_option maxRecDepth 100000 in
set_option maxHeartbeats 4000000 in
theorem sp_take {d q c : Nat} {w : mW} {s : Nat} {f g : Nat → Int32} {sl op lo : Int32} {hd rs : Nat → Int32} {np : Nat} {tp av lg pl tk : Int32} (H0 : StAt w s ((f, g, sl, op, lo), hd, rs, np, tp, av, lg, pl, tk)) (hq : q < 4) (hc : c < 25) : Sp (d + 4) yX6_takeStone cX6_takeStone 3 (some .int) [.ref s, .int (nI q), .int (nI c)] w 0 0 (fun v w' => v = some (.int (nI (hRestF (hRem (f, g, sl, op, lo) c)).1)) ∧ StTo w s (sTake ((f, g, sl, op, lo), hd, rs, np, (tp, av, lg, pl, tk)) q c) w') noX := by
  refine Sp.of (by decide +kernel) (Nat.le_of_ble_eq_true rfl) (fun X hC hnl hE hR hN => ?_)
  have hC : Cx X RX6 cX6_takeStone (d + 4) 0 0 := hC
  show Wp X 0 0 w [(0, .ref s), (1, .int (nI q)), (2, .int (nI c))] [] 0
  have hs : w[s]? = some (mO 7 [.ref (s + 1), .ref (s + 4), .ref (s + 5), .int (nI np), .int tp, .int av, .int lg, .int pl, .int tk]) := H0.1
  have H : HillAt w (s + 1) (s + 2) (s + 3) (f, g, sl, op, lo) := H0.2.1
  have hh : w[s + 1]? = some (mO 6 [.ref (s + 2), .ref (s + 3), .int sl, .int op, .int lo]) := H.1
  have ha : w[s + 2]? = some (mI 0 26 f) := H.2.1
  have hb : w[s + 3]? = some (mI 0 25 g) := H.2.2
  have hhd : w[s + 4]? = some (mI 0 4 hd) := H0.2.2.1
  have hrs : w[s + 5]? = some (mI 0 4 rs) := H0.2.2.2
  refine r_aload_n hC dX6_takeStone_0 rfl (j := 0) rfl ?_
  refine r_get hC gX6_takeStone_1 hs (v := .ref (s + 1)) rfl ?_
  refine r_iload_n hC dX6_takeStone_4 rfl (j := 2) rfl ?_
  refine r_callV hC (vs := [.int (nI c)]) vX6_takeStone_5 (sp_removeStone (d := d) (⟨hh, ha, hb⟩ : HillAt w (s + 1) (s + 2) (s + 3) (f, g, sl, op, lo)) hc) hh rfl rfl (by omega) (by omega) (by omega) (Nat.le_of_ble_eq_true rfl) (fun v_1 w_1 hP_1 hlen_1 => ?_) (fun _ _ h => h.elim)
  have H_1 : HillAt w_1 (s + 1) (s + 2) (s + 3) (hRem (f, g, sl, op, lo) c) := by rw [hP_1.2]; exact HillAt.set (x := (f, g, sl, op, lo)) ⟨hh, ha, hb⟩ _
  have hh_1 : w_1[s + 1]? = some (mO 6 [.ref (s + 2), .ref (s + 3), .int sl, .int op, .int lo]) := H_1.1
  have ha_1 : w_1[s + 2]? = some (mI 0 26 ((hRem (f, g, sl, op, lo) c)).1) := H_1.2.1
  have hb_1 : w_1[s + 3]? = some (mI 0 25 ((hRem (f, g, sl, op, lo) c)).2.1) := H_1.2.2
  have hx1_s : w_1[s]? = some (mO 7 [.ref (s + 1), .ref (s + 4), .ref (s + 5), .int (nI np), .int tp, .int av, .int lg, .int pl, .int tk]) := by rw [hP_1.2, hillSet_other (by omega) (by omega) (by omega)]; exact hs
  have hx1__s___4_ : w_1[(s + 4)]? = some (mI 0 4 hd) := by rw [hP_1.2, hillSet_other (by omega) (by omega) (by omega)]; exact hhd
  have hx1__s___5_ : w_1[(s + 5)]? = some (mI 0 4 rs) := by rw [hP_1.2, hillSet_other (by omega) (by omega) (by omega)]; exact hrs
  rw [hP_1.1]
  show Wp X 0 0 w_1 [(0, .ref s), (1, .int (nI q)), (2, .int (nI c))] [] 8
  refine r_aload_n hC dX6_takeStone_8 rfl (j := 0) rfl ?_
  refine r_get hC gX6_takeStone_9 hx1_s (v := .ref (s + 4)) rfl ?_
  refine r_iload_n hC dX6_takeStone_12 rfl (j := 1) rfl ?_
  refine r_dup2 hC dX6_takeStone_13 rfl rfl ?_
  refine r_iald hC dX6_takeStone_14 (j := q) hx1__s___4_ (mIx_nI (by omega) (by decide)) ?_
  refine r_iconst hC dX6_takeStone_15 (v := 1) (by decide) ?_
  refine r_iadd hC dX6_takeStone_16 ?_
  refine r_iast' hC dX6_takeStone_17 (j := q) hx1__s___4_ (mIx_nI (by omega) (by decide)) (fun w_2 ew_2 => ?_)
  have hf2__s___1_ : w_2[(s + 1)]? = some (mO 6 [.ref (s + 2), .ref (s + 3), .int sl, .int op, .int lo]) := by rw [ew_2, List.getElem?_set_ne (by omega)]; exact hh_1
  have hf2__s___2_ : w_2[(s + 2)]? = some (mI 0 26 ((hRem (f, g, sl, op, lo) c)).1) := by rw [ew_2, List.getElem?_set_ne (by omega)]; exact ha_1
  have hf2__s___3_ : w_2[(s + 3)]? = some (mI 0 25 ((hRem (f, g, sl, op, lo) c)).2.1) := by rw [ew_2, List.getElem?_set_ne (by omega)]; exact hb_1
  have hf2_s : w_2[s]? = some (mO 7 [.ref (s + 1), .ref (s + 4), .ref (s + 5), .int (nI np), .int tp, .int av, .int lg, .int pl, .int tk]) := by rw [ew_2, List.getElem?_set_ne (by omega)]; exact hx1_s
  have hf2__s___4_ : w_2[(s + 4)]? = some (mI 0 4 (upd hd q ((hd q) + 1))) := by rw [ew_2]; exact List.getElem?_set_self (lt_of_get hx1__s___4_)
  have hf2__s___5_ : w_2[(s + 5)]? = some (mI 0 4 rs) := by rw [ew_2, List.getElem?_set_ne (by omega)]; exact hx1__s___5_
  refine r_aload_n hC dX6_takeStone_18 rfl (j := 0) rfl ?_
  refine r_dup hC dX6_takeStone_19 rfl ?_
  refine r_get hC gX6_takeStone_20 hf2_s (v := .int tk) rfl ?_
  refine r_iconst hC dX6_takeStone_23 (v := 1) (by decide) ?_
  refine r_iadd hC dX6_takeStone_24 ?_
  refine r_put' hC pX6_takeStone_25 hf2_s (Nat.le_of_ble_eq_true rfl) (fun _ => rfl) (fun _ => rfl) (fun w_3 ew_3 => ?_)
  have hf3__s___1_ : w_3[(s + 1)]? = some (mO 6 [.ref (s + 2), .ref (s + 3), .int sl, .int op, .int lo]) := by rw [ew_3, List.getElem?_set_ne (by omega)]; exact hf2__s___1_
  have hf3__s___2_ : w_3[(s + 2)]? = some (mI 0 26 ((hRem (f, g, sl, op, lo) c)).1) := by rw [ew_3, List.getElem?_set_ne (by omega)]; exact hf2__s___2_
  have hf3__s___3_ : w_3[(s + 3)]? = some (mI 0 25 ((hRem (f, g, sl, op, lo) c)).2.1) := by rw [ew_3, List.getElem?_set_ne (by omega)]; exact hf2__s___3_
  have hf3_s : w_3[s]? = some (mO 7 [.ref (s + 1), .ref (s + 4), .ref (s + 5), .int (nI np), .int tp, .int av, .int lg, .int pl, .int (tk + 1)]) := by rw [ew_3]; exact List.getElem?_set_self (lt_of_get hf2_s)
  have hf3__s___4_ : w_3[(s + 4)]? = some (mI 0 4 (upd hd q ((hd q) + 1))) := by rw [ew_3, List.getElem?_set_ne (by omega)]; exact hf2__s___4_
  have hf3__s___5_ : w_3[(s + 5)]? = some (mI 0 4 rs) := by rw [ew_3, List.getElem?_set_ne (by omega)]; exact hf2__s___5_
  refine r_aload_n hC dX6_takeStone_28 rfl (j := 0) rfl ?_
  refine r_aload_n hC dX6_takeStone_29 rfl (j := 0) rfl ?_
  refine r_get hC gX6_takeStone_30 hf3_s (v := .ref (s + 1)) rfl ?_
  refine r_callV hC (vs := []) vX6_takeStone_33 (sp_rest (d := d) (⟨hf3__s___1_, hf3__s___2_, hf3__s___3_⟩ : HillAt w_3 (s + 1) (s + 2) (s + 3) ((hRem (f, g, sl, op, lo) c).1, (hRem (f, g, sl, op, lo) c).2.1, sl, op, lo))) hf3__s___1_ rfl rfl (by omega) (by omega) (by omega) (Nat.le_of_ble_eq_true rfl) (fun v_4 w_4 hP_4 hlen_4 => ?_) (fun _ _ h => h.elim)
  have H_4 : HillAt w_4 (s + 1) (s + 2) (s + 3) (hRestF (hRem (f, g, sl, op, lo) c)).2 := by rw [hP_4.2]; exact HillAt.set (x := (((hRem (f, g, sl, op, lo) c)).1, ((hRem (f, g, sl, op, lo) c)).2.1, sl, op, lo)) ⟨hf3__s___1_, hf3__s___2_, hf3__s___3_⟩ _
  have hh_4 : w_4[s + 1]? = some (mO 6 [.ref (s + 2), .ref (s + 3), .int ((hRestF (hRem (f, g, sl, op, lo) c)).2).2.2.1, .int ((hRestF (hRem (f, g, sl, op, lo) c)).2).2.2.2.1, .int ((hRestF (hRem (f, g, sl, op, lo) c)).2).2.2.2.2]) := H_4.1
  have ha_4 : w_4[s + 2]? = some (mI 0 26 ((hRestF (hRem (f, g, sl, op, lo) c)).2).1) := H_4.2.1
  have hb_4 : w_4[s + 3]? = some (mI 0 25 ((hRestF (hRem (f, g, sl, op, lo) c)).2).2.1) := H_4.2.2
  have hx4_s : w_4[s]? = some (mO 7 [.ref (s + 1), .ref (s + 4), .ref (s + 5), .int (nI np), .int tp, .int av, .int lg, .int pl, .int (tk + 1)]) := by rw [hP_4.2, hillSet_other (by omega) (by omega) (by omega)]; exact hf3_s
  have hx4__s___4_ : w_4[(s + 4)]? = some (mI 0 4 (upd hd q ((hd q) + 1))) := by rw [hP_4.2, hillSet_other (by omega) (by omega) (by omega)]; exact hf3__s___4_
  have hx4__s___5_ : w_4[(s + 5)]? = some (mI 0 4 rs) := by rw [hP_4.2, hillSet_other (by omega) (by omega) (by omega)]; exact hf3__s___5_
  rw [hP_4.1]
  show Wp X 0 0 w_4 [(0, .ref s), (1, .int (nI q)), (2, .int (nI c))] [.int (nI (hRestF (hRem (f, g, sl, op, lo) c)).1), .ref s] 36
  refine r_callV hC (vs := [.int (nI (hRestF (hRem (f, g, sl, op, lo) c)).1)]) vX6_takeStone_36 (sp_countAv (d := d + 2) (x := nI (hRestF (hRem (f, g, sl, op, lo) c)).1) (f := ((hRestF (hRem (f, g, sl, op, lo) c)).2).1) (g := ((hRestF (hRem (f, g, sl, op, lo) c)).2).2.1) (sl := ((hRestF (hRem (f, g, sl, op, lo) c)).2).2.2.1) (op := ((hRestF (hRem (f, g, sl, op, lo) c)).2).2.2.2.1) (lo := ((hRestF (hRem (f, g, sl, op, lo) c)).2).2.2.2.2) (hd := (upd hd q (hd q + 1))) (rs := rs) (np := np) (tp := tp) (av := av) (lg := lg) (pl := pl) (tk := tk + 1) ⟨hx4_s, ⟨hh_4, ha_4, hb_4⟩, hx4__s___4_, hx4__s___5_⟩) hx4_s rfl rfl (by omega) (by omega) (by omega) (Nat.le_of_ble_eq_true rfl) (fun v_5 w_5 hP_5 hlen_5 => ?_) (fun _ _ h => h.elim)
  have hs_5 : w_5[s]? = some (mO 7 [.ref (s + 1), .ref (s + 4), .ref (s + 5), .int (nI np), .int (avZ (tp, av, lg, pl, tk + 1) (nI (hRestF (hRem (f, g, sl, op, lo) c)).1)).1, .int (avZ (tp, av, lg, pl, tk + 1) (nI (hRestF (hRem (f, g, sl, op, lo) c)).1)).2.1, .int (avZ (tp, av, lg, pl, tk + 1) (nI (hRestF (hRem (f, g, sl, op, lo) c)).1)).2.2.1, .int (avZ (tp, av, lg, pl, tk + 1) (nI (hRestF (hRem (f, g, sl, op, lo) c)).1)).2.2.2.1, .int (avZ (tp, av, lg, pl, tk + 1) (nI (hRestF (hRem (f, g, sl, op, lo) c)).1)).2.2.2.2]) := hP_5.2.1.1
  have hh_5 : w_5[(s + 1)]? = some (mO 6 [.ref (s + 2), .ref (s + 3), .int ((hRestF (hRem (f, g, sl, op, lo) c)).2).2.2.1, .int ((hRestF (hRem (f, g, sl, op, lo) c)).2).2.2.2.1, .int ((hRestF (hRem (f, g, sl, op, lo) c)).2).2.2.2.2]) := hP_5.2.1.2.1.1
  have ha_5 : w_5[(s + 2)]? = some (mI 0 26 ((hRestF (hRem (f, g, sl, op, lo) c)).2).1) := hP_5.2.1.2.1.2.1
  have hb_5 : w_5[(s + 3)]? = some (mI 0 25 ((hRestF (hRem (f, g, sl, op, lo) c)).2).2.1) := hP_5.2.1.2.1.2.2
  have hhd_5 : w_5[(s + 4)]? = some (mI 0 4 (upd hd q (hd q + 1))) := hP_5.2.1.2.2.1
  have hrs_5 : w_5[(s + 5)]? = some (mI 0 4 rs) := hP_5.2.1.2.2.2
  rw [hP_5.1]
  show Wp X 0 0 w_5 [(0, .ref s), (1, .int (nI q)), (2, .int (nI c))] [.int (nI (hRestF (hRem (f, g, sl, op, lo) c)).1)] 39
  refine r_iret hC hE hR dX6_takeStone_39 (by omega) (by omega) (by rw [hlen_5, hlen_4, ew_3, List.length_set, ew_2, List.length_set, hlen_1]) ?_
  exact ⟨rfl, ⟨⟨hs_5, ⟨hh_5, ha_5, hb_5⟩, hhd_5, hrs_5⟩, fun k hk => by rw [hP_5.2.2 k (by omega), hP_4.2, hillSet_other (by omega) (by omega) (by omega), ew_3, List.getElem?_set_ne (by omega), ew_2, List.getElem?_set_ne (by omega), hP_1.2, hillSet_other (by omega) (by omega) (by omega)]⟩⟩
set_option maxRecDepth 100000 in
set_option maxHeartbeats 4000000 in
theorem sp_slope {d : Nat} {x : Int32} {w : mW} {s : Nat} {f g : Nat → Int32} {sl op lo : Int32} {hd rs : Nat → Int32} {np : Nat} {tp av lg pl tk : Int32} (H0 : StAt w s ((f, g, sl, op, lo), hd, rs, np, tp, av, lg, pl, tk)) : Sp (d + 4) yX6_changeSlope cX6_changeSlope 2 (some .int) [.ref s, .int x] w 0 0 (fun v w' => v = some (.int (nI (hRestF (f, g, x, op, lo)).1)) ∧ StTo w s (sSlope ((f, g, sl, op, lo), hd, rs, np, (tp, av, lg, pl, tk)) x) w') noX := by
  refine Sp.of (by decide +kernel) (Nat.le_of_ble_eq_true rfl) (fun X hC hnl hE hR hN => ?_)
  have hC : Cx X RX6 cX6_changeSlope (d + 4) 0 0 := hC
  show Wp X 0 0 w [(0, .ref s), (1, .int x)] [] 0
  have hs : w[s]? = some (mO 7 [.ref (s + 1), .ref (s + 4), .ref (s + 5), .int (nI np), .int tp, .int av, .int lg, .int pl, .int tk]) := H0.1
  have H : HillAt w (s + 1) (s + 2) (s + 3) (f, g, sl, op, lo) := H0.2.1
  have hh : w[s + 1]? = some (mO 6 [.ref (s + 2), .ref (s + 3), .int sl, .int op, .int lo]) := H.1
  have ha : w[s + 2]? = some (mI 0 26 f) := H.2.1
  have hb : w[s + 3]? = some (mI 0 25 g) := H.2.2
  have hhd : w[s + 4]? = some (mI 0 4 hd) := H0.2.2.1
  have hrs : w[s + 5]? = some (mI 0 4 rs) := H0.2.2.2
  refine r_aload_n hC dX6_changeSlope_0 rfl (j := 0) rfl ?_
  refine r_get hC gX6_changeSlope_1 hs (v := .ref (s + 1)) rfl ?_
  refine r_iload_n hC dX6_changeSlope_4 rfl (j := 1) rfl ?_
  refine r_put' hC pX6_changeSlope_5 hh (Nat.le_of_ble_eq_true rfl) (fun _ => rfl) (fun _ => rfl) (fun w_1 ew_1 => ?_)
  have hf1_s : w_1[s]? = some (mO 7 [.ref (s + 1), .ref (s + 4), .ref (s + 5), .int (nI np), .int tp, .int av, .int lg, .int pl, .int tk]) := by rw [ew_1, List.getElem?_set_ne (by omega)]; exact hs
  have hf1__s___1_ : w_1[(s + 1)]? = some (mO 6 [.ref (s + 2), .ref (s + 3), .int x, .int op, .int lo]) := by rw [ew_1]; exact List.getElem?_set_self (lt_of_get hh)
  have hf1__s___2_ : w_1[(s + 2)]? = some (mI 0 26 f) := by rw [ew_1, List.getElem?_set_ne (by omega)]; exact ha
  have hf1__s___3_ : w_1[(s + 3)]? = some (mI 0 25 g) := by rw [ew_1, List.getElem?_set_ne (by omega)]; exact hb
  have hf1__s___4_ : w_1[(s + 4)]? = some (mI 0 4 hd) := by rw [ew_1, List.getElem?_set_ne (by omega)]; exact hhd
  have hf1__s___5_ : w_1[(s + 5)]? = some (mI 0 4 rs) := by rw [ew_1, List.getElem?_set_ne (by omega)]; exact hrs
  refine r_aload_n hC dX6_changeSlope_8 rfl (j := 0) rfl ?_
  refine r_aload_n hC dX6_changeSlope_9 rfl (j := 0) rfl ?_
  refine r_get hC gX6_changeSlope_10 hf1_s (v := .ref (s + 1)) rfl ?_
  refine r_callV hC (vs := []) vX6_changeSlope_13 (sp_rest (d := d) (⟨hf1__s___1_, hf1__s___2_, hf1__s___3_⟩ : HillAt w_1 (s + 1) (s + 2) (s + 3) (f, g, x, op, lo))) hf1__s___1_ rfl rfl (by omega) (by omega) (by omega) (Nat.le_of_ble_eq_true rfl) (fun v_2 w_2 hP_2 hlen_2 => ?_) (fun _ _ h => h.elim)
  have H_2 : HillAt w_2 (s + 1) (s + 2) (s + 3) (hRestF (f, g, x, op, lo)).2 := by rw [hP_2.2]; exact HillAt.set (x := (f, g, x, op, lo)) ⟨hf1__s___1_, hf1__s___2_, hf1__s___3_⟩ _
  have hh_2 : w_2[s + 1]? = some (mO 6 [.ref (s + 2), .ref (s + 3), .int ((hRestF (f, g, x, op, lo)).2).2.2.1, .int ((hRestF (f, g, x, op, lo)).2).2.2.2.1, .int ((hRestF (f, g, x, op, lo)).2).2.2.2.2]) := H_2.1
  have ha_2 : w_2[s + 2]? = some (mI 0 26 ((hRestF (f, g, x, op, lo)).2).1) := H_2.2.1
  have hb_2 : w_2[s + 3]? = some (mI 0 25 ((hRestF (f, g, x, op, lo)).2).2.1) := H_2.2.2
  have hx2_s : w_2[s]? = some (mO 7 [.ref (s + 1), .ref (s + 4), .ref (s + 5), .int (nI np), .int tp, .int av, .int lg, .int pl, .int tk]) := by rw [hP_2.2, hillSet_other (by omega) (by omega) (by omega)]; exact hf1_s
  have hx2__s___4_ : w_2[(s + 4)]? = some (mI 0 4 hd) := by rw [hP_2.2, hillSet_other (by omega) (by omega) (by omega)]; exact hf1__s___4_
  have hx2__s___5_ : w_2[(s + 5)]? = some (mI 0 4 rs) := by rw [hP_2.2, hillSet_other (by omega) (by omega) (by omega)]; exact hf1__s___5_
  rw [hP_2.1]
  show Wp X 0 0 w_2 [(0, .ref s), (1, .int x)] [.int (nI (hRestF (f, g, x, op, lo)).1), .ref s] 16
  refine r_callV hC (vs := [.int (nI (hRestF (f, g, x, op, lo)).1)]) vX6_changeSlope_16 (sp_countAv (d := d + 2) (x := nI (hRestF (f, g, x, op, lo)).1) (f := ((hRestF (f, g, x, op, lo)).2).1) (g := ((hRestF (f, g, x, op, lo)).2).2.1) (sl := ((hRestF (f, g, x, op, lo)).2).2.2.1) (op := ((hRestF (f, g, x, op, lo)).2).2.2.2.1) (lo := ((hRestF (f, g, x, op, lo)).2).2.2.2.2) (hd := hd) (rs := rs) (np := np) (tp := tp) (av := av) (lg := lg) (pl := pl) (tk := tk) ⟨hx2_s, ⟨hh_2, ha_2, hb_2⟩, hx2__s___4_, hx2__s___5_⟩) hx2_s rfl rfl (by omega) (by omega) (by omega) (Nat.le_of_ble_eq_true rfl) (fun v_3 w_3 hP_3 hlen_3 => ?_) (fun _ _ h => h.elim)
  have hs_3 : w_3[s]? = some (mO 7 [.ref (s + 1), .ref (s + 4), .ref (s + 5), .int (nI np), .int (avZ (tp, av, lg, pl, tk) (nI (hRestF (f, g, x, op, lo)).1)).1, .int (avZ (tp, av, lg, pl, tk) (nI (hRestF (f, g, x, op, lo)).1)).2.1, .int (avZ (tp, av, lg, pl, tk) (nI (hRestF (f, g, x, op, lo)).1)).2.2.1, .int (avZ (tp, av, lg, pl, tk) (nI (hRestF (f, g, x, op, lo)).1)).2.2.2.1, .int (avZ (tp, av, lg, pl, tk) (nI (hRestF (f, g, x, op, lo)).1)).2.2.2.2]) := hP_3.2.1.1
  have hh_3 : w_3[(s + 1)]? = some (mO 6 [.ref (s + 2), .ref (s + 3), .int ((hRestF (f, g, x, op, lo)).2).2.2.1, .int ((hRestF (f, g, x, op, lo)).2).2.2.2.1, .int ((hRestF (f, g, x, op, lo)).2).2.2.2.2]) := hP_3.2.1.2.1.1
  have ha_3 : w_3[(s + 2)]? = some (mI 0 26 ((hRestF (f, g, x, op, lo)).2).1) := hP_3.2.1.2.1.2.1
  have hb_3 : w_3[(s + 3)]? = some (mI 0 25 ((hRestF (f, g, x, op, lo)).2).2.1) := hP_3.2.1.2.1.2.2
  have hhd_3 : w_3[(s + 4)]? = some (mI 0 4 hd) := hP_3.2.1.2.2.1
  have hrs_3 : w_3[(s + 5)]? = some (mI 0 4 rs) := hP_3.2.1.2.2.2
  rw [hP_3.1]
  show Wp X 0 0 w_3 [(0, .ref s), (1, .int x)] [.int (nI (hRestF (f, g, x, op, lo)).1)] 19
  refine r_iret hC hE hR dX6_changeSlope_19 (by omega) (by omega) (by rw [hlen_3, hlen_2, ew_1, List.length_set]) ?_
  exact ⟨rfl, ⟨⟨hs_3, ⟨hh_3, ha_3, hb_3⟩, hhd_3, hrs_3⟩, fun k hk => by rw [hP_3.2.2 k (by omega), hP_2.2, hillSet_other (by omega) (by omega) (by omega), ew_1, List.getElem?_set_ne (by omega)]⟩⟩
set_option maxRecDepth 100000 in
set_option maxHeartbeats 4000000 in
theorem sp_border {d : Nat} {x : Int32} {w : mW} {s : Nat} {f g : Nat → Int32} {sl op lo : Int32} {hd rs : Nat → Int32} {np : Nat} {tp av lg pl tk : Int32} (H0 : StAt w s ((f, g, sl, op, lo), hd, rs, np, tp, av, lg, pl, tk)) (ho : x = 0 ∨ x = 1) : Sp (d + 4) yX6_changeBorder cX6_changeBorder 2 none [.ref s, .int x] w 0 0 (fun v w' => v = none ∧ StTo w s (sBorder ((f, g, sl, op, lo), hd, rs, np, (tp, av, lg, pl, tk)) x) w') noX := by
  refine Sp.of (by decide +kernel) (Nat.le_of_ble_eq_true rfl) (fun X hC hnl hE hR hN => ?_)
  have hC : Cx X RX6 cX6_changeBorder (d + 4) 0 0 := hC
  show Wp X 0 0 w [(0, .ref s), (1, .int x)] [] 0
  have hs : w[s]? = some (mO 7 [.ref (s + 1), .ref (s + 4), .ref (s + 5), .int (nI np), .int tp, .int av, .int lg, .int pl, .int tk]) := H0.1
  have H : HillAt w (s + 1) (s + 2) (s + 3) (f, g, sl, op, lo) := H0.2.1
  have hh : w[s + 1]? = some (mO 6 [.ref (s + 2), .ref (s + 3), .int sl, .int op, .int lo]) := H.1
  have ha : w[s + 2]? = some (mI 0 26 f) := H.2.1
  have hb : w[s + 3]? = some (mI 0 25 g) := H.2.2
  have hhd : w[s + 4]? = some (mI 0 4 hd) := H0.2.2.1
  have hrs : w[s + 5]? = some (mI 0 4 rs) := H0.2.2.2
  refine r_aload_n hC dX6_changeBorder_0 rfl (j := 0) rfl ?_
  refine r_get hC gX6_changeBorder_1 hs (v := .ref (s + 1)) rfl ?_
  refine r_iload_n hC dX6_changeBorder_4 rfl (j := 1) rfl ?_
  refine r_put' hC pX6_changeBorder_5 hh (Nat.le_of_ble_eq_true rfl) (fun _ => by rcases ho with rfl | rfl <;> rfl) (fun _ => by rcases ho with rfl | rfl <;> rfl) (fun w_1 ew_1 => ?_)
  have hf1_s : w_1[s]? = some (mO 7 [.ref (s + 1), .ref (s + 4), .ref (s + 5), .int (nI np), .int tp, .int av, .int lg, .int pl, .int tk]) := by rw [ew_1, List.getElem?_set_ne (by omega)]; exact hs
  have hf1__s___1_ : w_1[(s + 1)]? = some (mO 6 [.ref (s + 2), .ref (s + 3), .int sl, .int x, .int lo]) := by rw [ew_1]; exact List.getElem?_set_self (lt_of_get hh)
  have hf1__s___2_ : w_1[(s + 2)]? = some (mI 0 26 f) := by rw [ew_1, List.getElem?_set_ne (by omega)]; exact ha
  have hf1__s___3_ : w_1[(s + 3)]? = some (mI 0 25 g) := by rw [ew_1, List.getElem?_set_ne (by omega)]; exact hb
  have hf1__s___4_ : w_1[(s + 4)]? = some (mI 0 4 hd) := by rw [ew_1, List.getElem?_set_ne (by omega)]; exact hhd
  have hf1__s___5_ : w_1[(s + 5)]? = some (mI 0 4 rs) := by rw [ew_1, List.getElem?_set_ne (by omega)]; exact hrs
  refine r_aload_n hC dX6_changeBorder_8 rfl (j := 0) rfl ?_
  refine r_aload_n hC dX6_changeBorder_9 rfl (j := 0) rfl ?_
  refine r_get hC gX6_changeBorder_10 hf1_s (v := .ref (s + 1)) rfl ?_
  refine r_callV hC (vs := []) vX6_changeBorder_13 (sp_rest (d := d) (⟨hf1__s___1_, hf1__s___2_, hf1__s___3_⟩ : HillAt w_1 (s + 1) (s + 2) (s + 3) (f, g, sl, x, lo))) hf1__s___1_ rfl rfl (by omega) (by omega) (by omega) (Nat.le_of_ble_eq_true rfl) (fun v_2 w_2 hP_2 hlen_2 => ?_) (fun _ _ h => h.elim)
  have H_2 : HillAt w_2 (s + 1) (s + 2) (s + 3) (hRestF (f, g, sl, x, lo)).2 := by rw [hP_2.2]; exact HillAt.set (x := (f, g, sl, x, lo)) ⟨hf1__s___1_, hf1__s___2_, hf1__s___3_⟩ _
  have hh_2 : w_2[s + 1]? = some (mO 6 [.ref (s + 2), .ref (s + 3), .int ((hRestF (f, g, sl, x, lo)).2).2.2.1, .int ((hRestF (f, g, sl, x, lo)).2).2.2.2.1, .int ((hRestF (f, g, sl, x, lo)).2).2.2.2.2]) := H_2.1
  have ha_2 : w_2[s + 2]? = some (mI 0 26 ((hRestF (f, g, sl, x, lo)).2).1) := H_2.2.1
  have hb_2 : w_2[s + 3]? = some (mI 0 25 ((hRestF (f, g, sl, x, lo)).2).2.1) := H_2.2.2
  have hx2_s : w_2[s]? = some (mO 7 [.ref (s + 1), .ref (s + 4), .ref (s + 5), .int (nI np), .int tp, .int av, .int lg, .int pl, .int tk]) := by rw [hP_2.2, hillSet_other (by omega) (by omega) (by omega)]; exact hf1_s
  have hx2__s___4_ : w_2[(s + 4)]? = some (mI 0 4 hd) := by rw [hP_2.2, hillSet_other (by omega) (by omega) (by omega)]; exact hf1__s___4_
  have hx2__s___5_ : w_2[(s + 5)]? = some (mI 0 4 rs) := by rw [hP_2.2, hillSet_other (by omega) (by omega) (by omega)]; exact hf1__s___5_
  rw [hP_2.1]
  show Wp X 0 0 w_2 [(0, .ref s), (1, .int x)] [.int (nI (hRestF (f, g, sl, x, lo)).1), .ref s] 16
  refine r_callV hC (vs := [.int (nI (hRestF (f, g, sl, x, lo)).1)]) vX6_changeBorder_16 (sp_countAv (d := d + 2) (x := nI (hRestF (f, g, sl, x, lo)).1) (f := ((hRestF (f, g, sl, x, lo)).2).1) (g := ((hRestF (f, g, sl, x, lo)).2).2.1) (sl := ((hRestF (f, g, sl, x, lo)).2).2.2.1) (op := ((hRestF (f, g, sl, x, lo)).2).2.2.2.1) (lo := ((hRestF (f, g, sl, x, lo)).2).2.2.2.2) (hd := hd) (rs := rs) (np := np) (tp := tp) (av := av) (lg := lg) (pl := pl) (tk := tk) ⟨hx2_s, ⟨hh_2, ha_2, hb_2⟩, hx2__s___4_, hx2__s___5_⟩) hx2_s rfl rfl (by omega) (by omega) (by omega) (Nat.le_of_ble_eq_true rfl) (fun v_3 w_3 hP_3 hlen_3 => ?_) (fun _ _ h => h.elim)
  have hs_3 : w_3[s]? = some (mO 7 [.ref (s + 1), .ref (s + 4), .ref (s + 5), .int (nI np), .int (avZ (tp, av, lg, pl, tk) (nI (hRestF (f, g, sl, x, lo)).1)).1, .int (avZ (tp, av, lg, pl, tk) (nI (hRestF (f, g, sl, x, lo)).1)).2.1, .int (avZ (tp, av, lg, pl, tk) (nI (hRestF (f, g, sl, x, lo)).1)).2.2.1, .int (avZ (tp, av, lg, pl, tk) (nI (hRestF (f, g, sl, x, lo)).1)).2.2.2.1, .int (avZ (tp, av, lg, pl, tk) (nI (hRestF (f, g, sl, x, lo)).1)).2.2.2.2]) := hP_3.2.1.1
  have hh_3 : w_3[(s + 1)]? = some (mO 6 [.ref (s + 2), .ref (s + 3), .int ((hRestF (f, g, sl, x, lo)).2).2.2.1, .int ((hRestF (f, g, sl, x, lo)).2).2.2.2.1, .int ((hRestF (f, g, sl, x, lo)).2).2.2.2.2]) := hP_3.2.1.2.1.1
  have ha_3 : w_3[(s + 2)]? = some (mI 0 26 ((hRestF (f, g, sl, x, lo)).2).1) := hP_3.2.1.2.1.2.1
  have hb_3 : w_3[(s + 3)]? = some (mI 0 25 ((hRestF (f, g, sl, x, lo)).2).2.1) := hP_3.2.1.2.1.2.2
  have hhd_3 : w_3[(s + 4)]? = some (mI 0 4 hd) := hP_3.2.1.2.2.1
  have hrs_3 : w_3[(s + 5)]? = some (mI 0 4 rs) := hP_3.2.1.2.2.2
  rw [hP_3.1]
  show Wp X 0 0 w_3 [(0, .ref s), (1, .int x)] [.int (nI (hRestF (f, g, sl, x, lo)).1)] 19
  refine r_pop hC dX6_changeBorder_19 rfl ?_
  refine r_vret hC hE hR dX6_changeBorder_20 (by omega) (by omega) (by rw [hlen_3, hlen_2, ew_1, List.length_set]) ?_
  exact ⟨rfl, ⟨⟨hs_3, ⟨hh_3, ha_3, hb_3⟩, hhd_3, hrs_3⟩, fun k hk => by rw [hP_3.2.2 k (by omega), hP_2.2, hillSet_other (by omega) (by omega) (by omega), ew_1, List.getElem?_set_ne (by omega)]⟩⟩
set_option maxRecDepth 100000 in
set_option maxHeartbeats 4000000 in
theorem sp_drop {d q c : Nat} {x : Int32} {w : mW} {s : Nat} {f g : Nat → Int32} {sl op lo : Int32} {hd rs : Nat → Int32} {np : Nat} {tp av lg pl tk : Int32} (H0 : StAt w s ((f, g, sl, op, lo), hd, rs, np, tp, av, lg, pl, tk)) (hnp : np ≤ 4) (hq : q < 4) (hc : c < 25) : Sp (d + 4) yX6_dropStones cX6_dropStones 5 (some .int) [.ref s, .int (nI q), .int (nI c), .int x] w 0 0 (fun v w' => v = some (.int (sDropN ((f, g, sl, op, lo), hd, rs, np, (tp, av, lg, pl, tk)) c x (nI q))) ∧ StTo w s (sDrop ((f, g, sl, op, lo), hd, rs, np, (tp, av, lg, pl, tk)) q c x) w') noX := by
  refine Sp.of (by decide +kernel) (Nat.le_of_ble_eq_true rfl) (fun X hC hnl hE hR hN => ?_)
  have hC : Cx X RX6 cX6_dropStones (d + 4) 0 0 := hC
  show Wp X 0 0 w [(0, .ref s), (1, .int (nI q)), (2, .int (nI c)), (3, .int x)] [] 0
  have hs : w[s]? = some (mO 7 [.ref (s + 1), .ref (s + 4), .ref (s + 5), .int (nI np), .int tp, .int av, .int lg, .int pl, .int tk]) := H0.1
  have H : HillAt w (s + 1) (s + 2) (s + 3) (f, g, sl, op, lo) := H0.2.1
  have hh : w[s + 1]? = some (mO 6 [.ref (s + 2), .ref (s + 3), .int sl, .int op, .int lo]) := H.1
  have ha : w[s + 2]? = some (mI 0 26 f) := H.2.1
  have hb : w[s + 3]? = some (mI 0 25 g) := H.2.2
  have hhd : w[s + 4]? = some (mI 0 4 hd) := H0.2.2.1
  have hrs : w[s + 5]? = some (mI 0 4 rs) := H0.2.2.2
  refine r_aload_n hC dX6_dropStones_0 rfl (j := 0) rfl ?_
  refine r_iload_n hC dX6_dropStones_1 rfl (j := 1) rfl ?_
  refine r_callV hC (vs := [.int (nI q)]) vX6_dropStones_2 (sp_pass (d := d) (ex := nI q) H0 hnp) hs rfl rfl (by omega) (by omega) (by omega) (Nat.le_of_ble_eq_true rfl) (fun v_1 w_1 hP_1 hlen_1 => ?_) (fun _ _ h => h.elim)
  have hs_1 : w_1[s]? = some (mO 7 [.ref (s + 1), .ref (s + 4), .ref (s + 5), .int (nI np), .int tp, .int av, .int lg, .int pl, .int tk]) := hP_1.2.1.1
  have hh_1 : w_1[(s + 1)]? = some (mO 6 [.ref (s + 2), .ref (s + 3), .int sl, .int op, .int lo]) := hP_1.2.1.2.1.1
  have ha_1 : w_1[(s + 2)]? = some (mI 0 26 f) := hP_1.2.1.2.1.2.1
  have hb_1 : w_1[(s + 3)]? = some (mI 0 25 g) := hP_1.2.1.2.1.2.2
  have hhd_1 : w_1[(s + 4)]? = some (mI 0 4 hd) := hP_1.2.1.2.2.1
  have hrs_1 : w_1[(s + 5)]? = some (mI 0 4 (sPass rs (nI q) np)) := hP_1.2.1.2.2.2
  rw [hP_1.1]
  show Wp X 0 0 w_1 [(0, .ref s), (1, .int (nI q)), (2, .int (nI c)), (3, .int x)] [] 5
  refine r_aload_n hC dX6_dropStones_5 rfl (j := 0) rfl ?_
  refine r_get hC gX6_dropStones_6 hs_1 (v := .ref (s + 4)) rfl ?_
  refine r_iload_n hC dX6_dropStones_9 rfl (j := 1) rfl ?_
  refine r_dup2 hC dX6_dropStones_10 rfl rfl ?_
  refine r_iald hC dX6_dropStones_11 (j := q) hhd_1 (mIx_nI (by omega) (by decide)) ?_
  refine r_iload_n hC dX6_dropStones_12 rfl (j := 3) rfl ?_
  refine r_isub hC dX6_dropStones_13 ?_
  refine r_iast' hC dX6_dropStones_14 (j := q) hhd_1 (mIx_nI (by omega) (by decide)) (fun w_2 ew_2 => ?_)
  have hf2_s : w_2[s]? = some (mO 7 [.ref (s + 1), .ref (s + 4), .ref (s + 5), .int (nI np), .int tp, .int av, .int lg, .int pl, .int tk]) := by rw [ew_2, List.getElem?_set_ne (by omega)]; exact hs_1
  have hf2__s___1_ : w_2[(s + 1)]? = some (mO 6 [.ref (s + 2), .ref (s + 3), .int sl, .int op, .int lo]) := by rw [ew_2, List.getElem?_set_ne (by omega)]; exact hh_1
  have hf2__s___2_ : w_2[(s + 2)]? = some (mI 0 26 f) := by rw [ew_2, List.getElem?_set_ne (by omega)]; exact ha_1
  have hf2__s___3_ : w_2[(s + 3)]? = some (mI 0 25 g) := by rw [ew_2, List.getElem?_set_ne (by omega)]; exact hb_1
  have hf2__s___4_ : w_2[(s + 4)]? = some (mI 0 4 (upd hd q ((hd q) - x))) := by rw [ew_2]; exact List.getElem?_set_self (lt_of_get hhd_1)
  have hf2__s___5_ : w_2[(s + 5)]? = some (mI 0 4 (sPass rs (nI q) np)) := by rw [ew_2, List.getElem?_set_ne (by omega)]; exact hrs_1
  refine r_aload_n hC dX6_dropStones_15 rfl (j := 0) rfl ?_
  refine r_dup hC dX6_dropStones_16 rfl ?_
  refine r_get hC gX6_dropStones_17 hf2_s (v := .int pl) rfl ?_
  refine r_iload_n hC dX6_dropStones_20 rfl (j := 3) rfl ?_
  refine r_iadd hC dX6_dropStones_21 ?_
  refine r_put' hC pX6_dropStones_22 hf2_s (Nat.le_of_ble_eq_true rfl) (fun _ => rfl) (fun _ => rfl) (fun w_3 ew_3 => ?_)
  have hf3_s : w_3[s]? = some (mO 7 [.ref (s + 1), .ref (s + 4), .ref (s + 5), .int (nI np), .int tp, .int av, .int lg, .int (pl + x), .int tk]) := by rw [ew_3]; exact List.getElem?_set_self (lt_of_get hf2_s)
  have hf3__s___1_ : w_3[(s + 1)]? = some (mO 6 [.ref (s + 2), .ref (s + 3), .int sl, .int op, .int lo]) := by rw [ew_3, List.getElem?_set_ne (by omega)]; exact hf2__s___1_
  have hf3__s___2_ : w_3[(s + 2)]? = some (mI 0 26 f) := by rw [ew_3, List.getElem?_set_ne (by omega)]; exact hf2__s___2_
  have hf3__s___3_ : w_3[(s + 3)]? = some (mI 0 25 g) := by rw [ew_3, List.getElem?_set_ne (by omega)]; exact hf2__s___3_
  have hf3__s___4_ : w_3[(s + 4)]? = some (mI 0 4 (upd hd q ((hd q) - x))) := by rw [ew_3, List.getElem?_set_ne (by omega)]; exact hf2__s___4_
  have hf3__s___5_ : w_3[(s + 5)]? = some (mI 0 4 (sPass rs (nI q) np)) := by rw [ew_3, List.getElem?_set_ne (by omega)]; exact hf2__s___5_
  refine r_aload_n hC dX6_dropStones_25 rfl (j := 0) rfl ?_
  refine r_get hC gX6_dropStones_26 hf3_s (v := .ref (s + 1)) rfl ?_
  refine r_iload_n hC dX6_dropStones_29 rfl (j := 2) rfl ?_
  refine r_iload_n hC dX6_dropStones_30 rfl (j := 3) rfl ?_
  refine r_iload_n hC dX6_dropStones_31 rfl (j := 1) rfl ?_
  refine r_callV hC (vs := [.int (nI c), .int x, .int (nI q)]) vX6_dropStones_32 (sp_place (d := d) (⟨hf3__s___1_, hf3__s___2_, hf3__s___3_⟩ : HillAt w_3 (s + 1) (s + 2) (s + 3) (f, g, sl, op, lo)) (by omega) hc) hf3__s___1_ rfl rfl (by omega) (by omega) (by omega) (Nat.le_of_ble_eq_true rfl) (fun v_4 w_4 hP_4 hlen_4 => ?_) (fun _ _ h => h.elim)
  have H_4 : HillAt w_4 (s + 1) (s + 2) (s + 3) (hPlace (f, g, sl, op, lo) c x (nI q)) := by rw [hP_4.2]; exact HillAt.set (x := (f, g, sl, op, lo)) ⟨hf3__s___1_, hf3__s___2_, hf3__s___3_⟩ _
  have hh_4 : w_4[s + 1]? = some (mO 6 [.ref (s + 2), .ref (s + 3), .int sl, .int op, .int lo]) := H_4.1
  have ha_4 : w_4[s + 2]? = some (mI 0 26 (upd f c (f c + x))) := H_4.2.1
  have hb_4 : w_4[s + 3]? = some (mI 0 25 (upd g c (nI q))) := H_4.2.2
  have hx4_s : w_4[s]? = some (mO 7 [.ref (s + 1), .ref (s + 4), .ref (s + 5), .int (nI np), .int tp, .int av, .int lg, .int (pl + x), .int tk]) := by rw [hP_4.2, hillSet_other (by omega) (by omega) (by omega)]; exact hf3_s
  have hx4__s___4_ : w_4[(s + 4)]? = some (mI 0 4 (upd hd q ((hd q) - x))) := by rw [hP_4.2, hillSet_other (by omega) (by omega) (by omega)]; exact hf3__s___4_
  have hx4__s___5_ : w_4[(s + 5)]? = some (mI 0 4 (sPass rs (nI q) np)) := by rw [hP_4.2, hillSet_other (by omega) (by omega) (by omega)]; exact hf3__s___5_
  rw [hP_4.1]
  show Wp X 0 0 w_4 [(0, .ref s), (1, .int (nI q)), (2, .int (nI c)), (3, .int x)] [] 35
  refine r_aload_n hC dX6_dropStones_35 rfl (j := 0) rfl ?_
  refine r_aload_n hC dX6_dropStones_36 rfl (j := 0) rfl ?_
  refine r_get hC gX6_dropStones_37 hx4_s (v := .ref (s + 1)) rfl ?_
  refine r_callV hC (vs := []) vX6_dropStones_40 (sp_rest (d := d) (⟨hh_4, ha_4, hb_4⟩ : HillAt w_4 (s + 1) (s + 2) (s + 3) (upd f c (f c + x), upd g c (nI q), sl, op, lo))) hh_4 rfl rfl (by omega) (by omega) (by omega) (Nat.le_of_ble_eq_true rfl) (fun v_5 w_5 hP_5 hlen_5 => ?_) (fun _ _ h => h.elim)
  have H_5 : HillAt w_5 (s + 1) (s + 2) (s + 3) (hRestF (hPlace (f, g, sl, op, lo) c x (nI q))).2 := by rw [hP_5.2]; exact HillAt.set (x := ((upd f c (f c + x)), (upd g c (nI q)), sl, op, lo)) ⟨hh_4, ha_4, hb_4⟩ _
  have hh_5 : w_5[s + 1]? = some (mO 6 [.ref (s + 2), .ref (s + 3), .int ((hRestF (hPlace (f, g, sl, op, lo) c x (nI q))).2).2.2.1, .int ((hRestF (hPlace (f, g, sl, op, lo) c x (nI q))).2).2.2.2.1, .int ((hRestF (hPlace (f, g, sl, op, lo) c x (nI q))).2).2.2.2.2]) := H_5.1
  have ha_5 : w_5[s + 2]? = some (mI 0 26 ((hRestF (hPlace (f, g, sl, op, lo) c x (nI q))).2).1) := H_5.2.1
  have hb_5 : w_5[s + 3]? = some (mI 0 25 ((hRestF (hPlace (f, g, sl, op, lo) c x (nI q))).2).2.1) := H_5.2.2
  have hx5_s : w_5[s]? = some (mO 7 [.ref (s + 1), .ref (s + 4), .ref (s + 5), .int (nI np), .int tp, .int av, .int lg, .int (pl + x), .int tk]) := by rw [hP_5.2, hillSet_other (by omega) (by omega) (by omega)]; exact hx4_s
  have hx5__s___4_ : w_5[(s + 4)]? = some (mI 0 4 (upd hd q ((hd q) - x))) := by rw [hP_5.2, hillSet_other (by omega) (by omega) (by omega)]; exact hx4__s___4_
  have hx5__s___5_ : w_5[(s + 5)]? = some (mI 0 4 (sPass rs (nI q) np)) := by rw [hP_5.2, hillSet_other (by omega) (by omega) (by omega)]; exact hx4__s___5_
  rw [hP_5.1]
  show Wp X 0 0 w_5 [(0, .ref s), (1, .int (nI q)), (2, .int (nI c)), (3, .int x)] [.int (nI (hRestF (hPlace (f, g, sl, op, lo) c x (nI q))).1), .ref s] 43
  refine r_callV hC (vs := [.int (nI (hRestF (hPlace (f, g, sl, op, lo) c x (nI q))).1)]) vX6_dropStones_43 (sp_countAv (d := d + 2) (x := nI (hRestF (hPlace (f, g, sl, op, lo) c x (nI q))).1) (f := ((hRestF (hPlace (f, g, sl, op, lo) c x (nI q))).2).1) (g := ((hRestF (hPlace (f, g, sl, op, lo) c x (nI q))).2).2.1) (sl := ((hRestF (hPlace (f, g, sl, op, lo) c x (nI q))).2).2.2.1) (op := ((hRestF (hPlace (f, g, sl, op, lo) c x (nI q))).2).2.2.2.1) (lo := ((hRestF (hPlace (f, g, sl, op, lo) c x (nI q))).2).2.2.2.2) (hd := (upd hd q (hd q - x))) (rs := (sPass rs (nI q) np)) (np := np) (tp := tp) (av := av) (lg := lg) (pl := pl + x) (tk := tk) ⟨hx5_s, ⟨hh_5, ha_5, hb_5⟩, hx5__s___4_, hx5__s___5_⟩) hx5_s rfl rfl (by omega) (by omega) (by omega) (Nat.le_of_ble_eq_true rfl) (fun v_6 w_6 hP_6 hlen_6 => ?_) (fun _ _ h => h.elim)
  have hs_6 : w_6[s]? = some (mO 7 [.ref (s + 1), .ref (s + 4), .ref (s + 5), .int (nI np), .int (avZ (tp, av, lg, pl + x, tk) (nI (hRestF (hPlace (f, g, sl, op, lo) c x (nI q))).1)).1, .int (avZ (tp, av, lg, pl + x, tk) (nI (hRestF (hPlace (f, g, sl, op, lo) c x (nI q))).1)).2.1, .int (avZ (tp, av, lg, pl + x, tk) (nI (hRestF (hPlace (f, g, sl, op, lo) c x (nI q))).1)).2.2.1, .int (avZ (tp, av, lg, pl + x, tk) (nI (hRestF (hPlace (f, g, sl, op, lo) c x (nI q))).1)).2.2.2.1, .int (avZ (tp, av, lg, pl + x, tk) (nI (hRestF (hPlace (f, g, sl, op, lo) c x (nI q))).1)).2.2.2.2]) := hP_6.2.1.1
  have hh_6 : w_6[(s + 1)]? = some (mO 6 [.ref (s + 2), .ref (s + 3), .int ((hRestF (hPlace (f, g, sl, op, lo) c x (nI q))).2).2.2.1, .int ((hRestF (hPlace (f, g, sl, op, lo) c x (nI q))).2).2.2.2.1, .int ((hRestF (hPlace (f, g, sl, op, lo) c x (nI q))).2).2.2.2.2]) := hP_6.2.1.2.1.1
  have ha_6 : w_6[(s + 2)]? = some (mI 0 26 ((hRestF (hPlace (f, g, sl, op, lo) c x (nI q))).2).1) := hP_6.2.1.2.1.2.1
  have hb_6 : w_6[(s + 3)]? = some (mI 0 25 ((hRestF (hPlace (f, g, sl, op, lo) c x (nI q))).2).2.1) := hP_6.2.1.2.1.2.2
  have hhd_6 : w_6[(s + 4)]? = some (mI 0 4 (upd hd q (hd q - x))) := hP_6.2.1.2.2.1
  have hrs_6 : w_6[(s + 5)]? = some (mI 0 4 (sPass rs (nI q) np)) := hP_6.2.1.2.2.2
  rw [hP_6.1]
  show Wp X 0 0 w_6 [(0, .ref s), (1, .int (nI q)), (2, .int (nI c)), (3, .int x)] [.int (nI (hRestF (hPlace (f, g, sl, op, lo) c x (nI q))).1)] 46
  refine r_istore hC dX6_dropStones_46 (by rw [hnl]; decide) (L' := [(4, .int (nI (hRestF (hPlace (f, g, sl, op, lo) c x (nI q))).1)), (0, .ref s), (1, .int (nI q)), (2, .int (nI c)), (3, .int x)]) rfl ?_
  refine r_iload hC dX6_dropStones_48 (j := 0) rfl ?_
  refine r_if_le hC dX6_dropStones_50 (tgt := 63) (by decide) (fun c50 => ?_) (fun c50 => ?_)
  · refine r_iload hC dX6_dropStones_63 (j := 0) rfl ?_
    refine r_iret hC hE hR dX6_dropStones_65 (by omega) (by omega) (by rw [hlen_6, hlen_5, hlen_4, ew_3, List.length_set, ew_2, List.length_set, hlen_1]) ?_
    have e9 : sDrop ((f, g, sl, op, lo), hd, rs, np, (tp, av, lg, pl, tk)) q c x = sDropA ((f, g, sl, op, lo), hd, rs, np, (tp, av, lg, pl, tk)) q c x := if_pos c50
    rw [e9]
    exact ⟨rfl, ⟨⟨hs_6, ⟨hh_6, ha_6, hb_6⟩, hhd_6, hrs_6⟩, fun k hk => by rw [hP_6.2.2 k (by omega), hP_5.2, hillSet_other (by omega) (by omega) (by omega), hP_4.2, hillSet_other (by omega) (by omega) (by omega), ew_3, List.getElem?_set_ne (by omega), ew_2, List.getElem?_set_ne (by omega), hP_1.2.2 k (by omega)]⟩⟩
  · refine r_aload_n hC dX6_dropStones_53 rfl (j := 1) rfl ?_
    refine r_get hC gX6_dropStones_54 hs_6 (v := .ref (s + 5)) rfl ?_
    refine r_iload_n hC dX6_dropStones_57 rfl (j := 2) rfl ?_
    refine r_iload hC dX6_dropStones_58 (j := 0) rfl ?_
    refine r_iconst hC dX6_dropStones_60 (v := 4) (by decide) ?_
    refine r_idiv hC dX6_dropStones_61 (by decide) ?_
    refine r_iast' hC dX6_dropStones_62 (j := q) hrs_6 (mIx_nI (by omega) (by decide)) (fun w_7 ew_7 => ?_)
    have hf7_s : w_7[s]? = some (mO 7 [.ref (s + 1), .ref (s + 4), .ref (s + 5), .int (nI np), .int (avZ (tp, av, lg, pl + x, tk) (nI (hRestF (hPlace (f, g, sl, op, lo) c x (nI q))).1)).1, .int (avZ (tp, av, lg, pl + x, tk) (nI (hRestF (hPlace (f, g, sl, op, lo) c x (nI q))).1)).2.1, .int (avZ (tp, av, lg, pl + x, tk) (nI (hRestF (hPlace (f, g, sl, op, lo) c x (nI q))).1)).2.2.1, .int (avZ (tp, av, lg, pl + x, tk) (nI (hRestF (hPlace (f, g, sl, op, lo) c x (nI q))).1)).2.2.2.1, .int (avZ (tp, av, lg, pl + x, tk) (nI (hRestF (hPlace (f, g, sl, op, lo) c x (nI q))).1)).2.2.2.2]) := by rw [ew_7, List.getElem?_set_ne (by omega)]; exact hs_6
    have hf7__s___1_ : w_7[(s + 1)]? = some (mO 6 [.ref (s + 2), .ref (s + 3), .int ((hRestF (hPlace (f, g, sl, op, lo) c x (nI q))).2).2.2.1, .int ((hRestF (hPlace (f, g, sl, op, lo) c x (nI q))).2).2.2.2.1, .int ((hRestF (hPlace (f, g, sl, op, lo) c x (nI q))).2).2.2.2.2]) := by rw [ew_7, List.getElem?_set_ne (by omega)]; exact hh_6
    have hf7__s___2_ : w_7[(s + 2)]? = some (mI 0 26 ((hRestF (hPlace (f, g, sl, op, lo) c x (nI q))).2).1) := by rw [ew_7, List.getElem?_set_ne (by omega)]; exact ha_6
    have hf7__s___3_ : w_7[(s + 3)]? = some (mI 0 25 ((hRestF (hPlace (f, g, sl, op, lo) c x (nI q))).2).2.1) := by rw [ew_7, List.getElem?_set_ne (by omega)]; exact hb_6
    have hf7__s___4_ : w_7[(s + 4)]? = some (mI 0 4 (upd hd q (hd q - x))) := by rw [ew_7, List.getElem?_set_ne (by omega)]; exact hhd_6
    have hf7__s___5_ : w_7[(s + 5)]? = some (mI 0 4 (upd (sPass rs (nI q) np) q ((nI (hRestF (hPlace (f, g, sl, op, lo) c x (nI q))).1) / 4))) := by rw [ew_7]; exact List.getElem?_set_self (lt_of_get hrs_6)
    refine r_iload hC dX6_dropStones_63 (j := 0) rfl ?_
    refine r_iret hC hE hR dX6_dropStones_65 (by omega) (by omega) (by rw [ew_7, List.length_set, hlen_6, hlen_5, hlen_4, ew_3, List.length_set, ew_2, List.length_set, hlen_1]) ?_
    have e9 : sDrop ((f, g, sl, op, lo), hd, rs, np, (tp, av, lg, pl, tk)) q c x = ((sDropA ((f, g, sl, op, lo), hd, rs, np, (tp, av, lg, pl, tk)) q c x).1, (sDropA ((f, g, sl, op, lo), hd, rs, np, (tp, av, lg, pl, tk)) q c x).2.1, upd (sDropA ((f, g, sl, op, lo), hd, rs, np, (tp, av, lg, pl, tk)) q c x).2.2.1 q (sDropN ((f, g, sl, op, lo), hd, rs, np, (tp, av, lg, pl, tk)) c x (nI q) / 4), (sDropA ((f, g, sl, op, lo), hd, rs, np, (tp, av, lg, pl, tk)) q c x).2.2.2.1, (sDropA ((f, g, sl, op, lo), hd, rs, np, (tp, av, lg, pl, tk)) q c x).2.2.2.2) := if_neg c50
    rw [e9]
    exact ⟨rfl, ⟨⟨hf7_s, ⟨hf7__s___1_, hf7__s___2_, hf7__s___3_⟩, hf7__s___4_, hf7__s___5_⟩, fun k hk => by rw [ew_7, List.getElem?_set_ne (by omega), hP_6.2.2 k (by omega), hP_5.2, hillSet_other (by omega) (by omega) (by omega), hP_4.2, hillSet_other (by omega) (by omega) (by omega), ew_3, List.getElem?_set_ne (by omega), ew_2, List.getElem?_set_ne (by omega), hP_1.2.2 k (by omega)]⟩⟩
set_option maxRecDepth 100000 in
set_option maxHeartbeats 4000000 in
theorem sp_copy {d : Nat} {w : mW} {s t : Nat} {f g : Nat → Int32} {sl op lo : Int32} {hd rs : Nat → Int32} {np : Nat} {tp av lg pl tk : Int32} {f2 g2 : Nat → Int32} {sl2 op2 lo2 : Int32} {hd2 rs2 : Nat → Int32} {np2 : Nat} {tp2 av2 lg2 pl2 tk2 : Int32} (H0 : StAt w s ((f, g, sl, op, lo), hd, rs, np, tp, av, lg, pl, tk)) (H2 : StAt w t ((f2, g2, sl2, op2, lo2), hd2, rs2, np2, tp2, av2, lg2, pl2, tk2)) (hst : t + 5 < s ∨ s + 5 < t) (ho : op2 = 0 ∨ op2 = 1) : Sp (d + 1) yX6_copyFrom cX6_copyFrom 2 none [.ref s, .ref t] w 0 0 (fun v w' => v = none ∧ StTo w s ((f2, g2, sl2, op2, lo2), hd2, rs2, np2, tp2, av2, lg2, pl2, tk2) w') noX := by
  refine Sp.of (by decide +kernel) (Nat.le_of_ble_eq_true rfl) (fun X hC hnl hE hR hN => ?_)
  have hC : Cx X RX6 cX6_copyFrom (d + 1) 0 0 := hC
  show Wp X 0 0 w [(0, .ref s), (1, .ref t)] [] 0
  have hs : w[s]? = some (mO 7 [.ref (s + 1), .ref (s + 4), .ref (s + 5), .int (nI np), .int tp, .int av, .int lg, .int pl, .int tk]) := H0.1
  have H : HillAt w (s + 1) (s + 2) (s + 3) (f, g, sl, op, lo) := H0.2.1
  have hh : w[s + 1]? = some (mO 6 [.ref (s + 2), .ref (s + 3), .int sl, .int op, .int lo]) := H.1
  have ha : w[s + 2]? = some (mI 0 26 f) := H.2.1
  have hb : w[s + 3]? = some (mI 0 25 g) := H.2.2
  have hhd : w[s + 4]? = some (mI 0 4 hd) := H0.2.2.1
  have hrs : w[s + 5]? = some (mI 0 4 rs) := H0.2.2.2
  have ts : w[t]? = some (mO 7 [.ref (t + 1), .ref (t + 4), .ref (t + 5), .int (nI np2), .int tp2, .int av2, .int lg2, .int pl2, .int tk2]) := H2.1
  have HT : HillAt w (t + 1) (t + 2) (t + 3) (f2, g2, sl2, op2, lo2) := H2.2.1
  have th : w[t + 1]? = some (mO 6 [.ref (t + 2), .ref (t + 3), .int sl2, .int op2, .int lo2]) := HT.1
  have ta : w[t + 2]? = some (mI 0 26 f2) := HT.2.1
  have tb : w[t + 3]? = some (mI 0 25 g2) := HT.2.2
  have thd : w[t + 4]? = some (mI 0 4 hd2) := H2.2.2.1
  have trs : w[t + 5]? = some (mI 0 4 rs2) := H2.2.2.2
  refine r_aload_n hC dX6_copyFrom_0 rfl (j := 0) rfl ?_
  refine r_get hC gX6_copyFrom_1 hs (v := .ref (s + 1)) rfl ?_
  refine r_aload_n hC dX6_copyFrom_4 rfl (j := 1) rfl ?_
  refine r_get hC gX6_copyFrom_5 ts (v := .ref (t + 1)) rfl ?_
  refine r_callV hC (vs := [.ref (t + 1)]) vX6_copyFrom_8 (sp_hcopy (d := d) H HT (by omega) (by omega) (by omega) ho) hh rfl rfl (by omega) (by omega) (by omega) (Nat.le_of_ble_eq_true rfl) (fun v_1 w_1 hP_1 hlen_1 => ?_) (fun _ _ h => h.elim)
  have H_1 : HillAt w_1 (s + 1) (s + 2) (s + 3) (f2, g2, sl2, op2, lo2) := by rw [hP_1.2]; exact HillAt.set (x := (f, g, sl, op, lo)) ⟨hh, ha, hb⟩ _
  have hh_1 : w_1[s + 1]? = some (mO 6 [.ref (s + 2), .ref (s + 3), .int sl2, .int op2, .int lo2]) := H_1.1
  have ha_1 : w_1[s + 2]? = some (mI 0 26 f2) := H_1.2.1
  have hb_1 : w_1[s + 3]? = some (mI 0 25 g2) := H_1.2.2
  have hx1_s : w_1[s]? = some (mO 7 [.ref (s + 1), .ref (s + 4), .ref (s + 5), .int (nI np), .int tp, .int av, .int lg, .int pl, .int tk]) := by rw [hP_1.2, hillSet_other (by omega) (by omega) (by omega)]; exact hs
  have hx1__s___4_ : w_1[(s + 4)]? = some (mI 0 4 hd) := by rw [hP_1.2, hillSet_other (by omega) (by omega) (by omega)]; exact hhd
  have hx1__s___5_ : w_1[(s + 5)]? = some (mI 0 4 rs) := by rw [hP_1.2, hillSet_other (by omega) (by omega) (by omega)]; exact hrs
  have hx1_t : w_1[t]? = some (mO 7 [.ref (t + 1), .ref (t + 4), .ref (t + 5), .int (nI np2), .int tp2, .int av2, .int lg2, .int pl2, .int tk2]) := by rw [hP_1.2, hillSet_other (by omega) (by omega) (by omega)]; exact ts
  have hx1__t___1_ : w_1[(t + 1)]? = some (mO 6 [.ref (t + 2), .ref (t + 3), .int sl2, .int op2, .int lo2]) := by rw [hP_1.2, hillSet_other (by omega) (by omega) (by omega)]; exact th
  have hx1__t___2_ : w_1[(t + 2)]? = some (mI 0 26 f2) := by rw [hP_1.2, hillSet_other (by omega) (by omega) (by omega)]; exact ta
  have hx1__t___3_ : w_1[(t + 3)]? = some (mI 0 25 g2) := by rw [hP_1.2, hillSet_other (by omega) (by omega) (by omega)]; exact tb
  have hx1__t___4_ : w_1[(t + 4)]? = some (mI 0 4 hd2) := by rw [hP_1.2, hillSet_other (by omega) (by omega) (by omega)]; exact thd
  have hx1__t___5_ : w_1[(t + 5)]? = some (mI 0 4 rs2) := by rw [hP_1.2, hillSet_other (by omega) (by omega) (by omega)]; exact trs
  rw [hP_1.1]
  show Wp X 0 0 w_1 [(0, .ref s), (1, .ref t)] [] 11
  refine r_aload_n hC dX6_copyFrom_11 rfl (j := 1) rfl ?_
  refine r_get hC gX6_copyFrom_12 hx1_t (v := .ref (t + 4)) rfl ?_
  refine r_iconst hC dX6_copyFrom_15 (v := 0) (by decide) ?_
  refine r_aload_n hC dX6_copyFrom_16 rfl (j := 0) rfl ?_
  refine r_get hC gX6_copyFrom_17 hx1_s (v := .ref (s + 4)) rfl ?_
  refine r_iconst hC dX6_copyFrom_20 (v := 0) (by decide) ?_
  refine r_iconst hC dX6_copyFrom_21 (v := 4) (by decide) ?_
  refine r_copyAll hC vX6_copyFrom_22 hx1__t___4_ hx1__s___4_ (by decide) (by decide) (Nat.le_of_ble_eq_true rfl) (fun w_2 ew_2 => ?_)
  have hf2__s___1_ : w_2[(s + 1)]? = some (mO 6 [.ref (s + 2), .ref (s + 3), .int sl2, .int op2, .int lo2]) := by rw [ew_2, List.getElem?_set_ne (by omega)]; exact hh_1
  have hf2__s___2_ : w_2[(s + 2)]? = some (mI 0 26 f2) := by rw [ew_2, List.getElem?_set_ne (by omega)]; exact ha_1
  have hf2__s___3_ : w_2[(s + 3)]? = some (mI 0 25 g2) := by rw [ew_2, List.getElem?_set_ne (by omega)]; exact hb_1
  have hf2_s : w_2[s]? = some (mO 7 [.ref (s + 1), .ref (s + 4), .ref (s + 5), .int (nI np), .int tp, .int av, .int lg, .int pl, .int tk]) := by rw [ew_2, List.getElem?_set_ne (by omega)]; exact hx1_s
  have hf2__s___4_ : w_2[(s + 4)]? = some (mI 0 4 hd2) := by rw [ew_2]; exact List.getElem?_set_self (lt_of_get hx1__s___4_)
  have hf2__s___5_ : w_2[(s + 5)]? = some (mI 0 4 rs) := by rw [ew_2, List.getElem?_set_ne (by omega)]; exact hx1__s___5_
  have hf2_t : w_2[t]? = some (mO 7 [.ref (t + 1), .ref (t + 4), .ref (t + 5), .int (nI np2), .int tp2, .int av2, .int lg2, .int pl2, .int tk2]) := by rw [ew_2, List.getElem?_set_ne (by omega)]; exact hx1_t
  have hf2__t___1_ : w_2[(t + 1)]? = some (mO 6 [.ref (t + 2), .ref (t + 3), .int sl2, .int op2, .int lo2]) := by rw [ew_2, List.getElem?_set_ne (by omega)]; exact hx1__t___1_
  have hf2__t___2_ : w_2[(t + 2)]? = some (mI 0 26 f2) := by rw [ew_2, List.getElem?_set_ne (by omega)]; exact hx1__t___2_
  have hf2__t___3_ : w_2[(t + 3)]? = some (mI 0 25 g2) := by rw [ew_2, List.getElem?_set_ne (by omega)]; exact hx1__t___3_
  have hf2__t___4_ : w_2[(t + 4)]? = some (mI 0 4 hd2) := by rw [ew_2, List.getElem?_set_ne (by omega)]; exact hx1__t___4_
  have hf2__t___5_ : w_2[(t + 5)]? = some (mI 0 4 rs2) := by rw [ew_2, List.getElem?_set_ne (by omega)]; exact hx1__t___5_
  refine r_aload_n hC dX6_copyFrom_25 rfl (j := 1) rfl ?_
  refine r_get hC gX6_copyFrom_26 hf2_t (v := .ref (t + 5)) rfl ?_
  refine r_iconst hC dX6_copyFrom_29 (v := 0) (by decide) ?_
  refine r_aload_n hC dX6_copyFrom_30 rfl (j := 0) rfl ?_
  refine r_get hC gX6_copyFrom_31 hf2_s (v := .ref (s + 5)) rfl ?_
  refine r_iconst hC dX6_copyFrom_34 (v := 0) (by decide) ?_
  refine r_iconst hC dX6_copyFrom_35 (v := 4) (by decide) ?_
  refine r_copyAll hC vX6_copyFrom_36 hf2__t___5_ hf2__s___5_ (by decide) (by decide) (Nat.le_of_ble_eq_true rfl) (fun w_3 ew_3 => ?_)
  have hf3__s___1_ : w_3[(s + 1)]? = some (mO 6 [.ref (s + 2), .ref (s + 3), .int sl2, .int op2, .int lo2]) := by rw [ew_3, List.getElem?_set_ne (by omega)]; exact hf2__s___1_
  have hf3__s___2_ : w_3[(s + 2)]? = some (mI 0 26 f2) := by rw [ew_3, List.getElem?_set_ne (by omega)]; exact hf2__s___2_
  have hf3__s___3_ : w_3[(s + 3)]? = some (mI 0 25 g2) := by rw [ew_3, List.getElem?_set_ne (by omega)]; exact hf2__s___3_
  have hf3_s : w_3[s]? = some (mO 7 [.ref (s + 1), .ref (s + 4), .ref (s + 5), .int (nI np), .int tp, .int av, .int lg, .int pl, .int tk]) := by rw [ew_3, List.getElem?_set_ne (by omega)]; exact hf2_s
  have hf3__s___4_ : w_3[(s + 4)]? = some (mI 0 4 hd2) := by rw [ew_3, List.getElem?_set_ne (by omega)]; exact hf2__s___4_
  have hf3__s___5_ : w_3[(s + 5)]? = some (mI 0 4 rs2) := by rw [ew_3]; exact List.getElem?_set_self (lt_of_get hf2__s___5_)
  have hf3_t : w_3[t]? = some (mO 7 [.ref (t + 1), .ref (t + 4), .ref (t + 5), .int (nI np2), .int tp2, .int av2, .int lg2, .int pl2, .int tk2]) := by rw [ew_3, List.getElem?_set_ne (by omega)]; exact hf2_t
  have hf3__t___1_ : w_3[(t + 1)]? = some (mO 6 [.ref (t + 2), .ref (t + 3), .int sl2, .int op2, .int lo2]) := by rw [ew_3, List.getElem?_set_ne (by omega)]; exact hf2__t___1_
  have hf3__t___2_ : w_3[(t + 2)]? = some (mI 0 26 f2) := by rw [ew_3, List.getElem?_set_ne (by omega)]; exact hf2__t___2_
  have hf3__t___3_ : w_3[(t + 3)]? = some (mI 0 25 g2) := by rw [ew_3, List.getElem?_set_ne (by omega)]; exact hf2__t___3_
  have hf3__t___4_ : w_3[(t + 4)]? = some (mI 0 4 hd2) := by rw [ew_3, List.getElem?_set_ne (by omega)]; exact hf2__t___4_
  have hf3__t___5_ : w_3[(t + 5)]? = some (mI 0 4 rs2) := by rw [ew_3, List.getElem?_set_ne (by omega)]; exact hf2__t___5_
  refine r_aload_n hC dX6_copyFrom_39 rfl (j := 0) rfl ?_
  refine r_aload_n hC dX6_copyFrom_40 rfl (j := 1) rfl ?_
  refine r_get hC gX6_copyFrom_41 hf3_t (v := .int (nI np2)) rfl ?_
  refine r_put' hC pX6_copyFrom_44 hf3_s (Nat.le_of_ble_eq_true rfl) (fun _ => rfl) (fun _ => rfl) (fun w_4 ew_4 => ?_)
  have hf4__s___1_ : w_4[(s + 1)]? = some (mO 6 [.ref (s + 2), .ref (s + 3), .int sl2, .int op2, .int lo2]) := by rw [ew_4, List.getElem?_set_ne (by omega)]; exact hf3__s___1_
  have hf4__s___2_ : w_4[(s + 2)]? = some (mI 0 26 f2) := by rw [ew_4, List.getElem?_set_ne (by omega)]; exact hf3__s___2_
  have hf4__s___3_ : w_4[(s + 3)]? = some (mI 0 25 g2) := by rw [ew_4, List.getElem?_set_ne (by omega)]; exact hf3__s___3_
  have hf4_s : w_4[s]? = some (mO 7 [.ref (s + 1), .ref (s + 4), .ref (s + 5), .int (nI np2), .int tp, .int av, .int lg, .int pl, .int tk]) := by rw [ew_4]; exact List.getElem?_set_self (lt_of_get hf3_s)
  have hf4__s___4_ : w_4[(s + 4)]? = some (mI 0 4 hd2) := by rw [ew_4, List.getElem?_set_ne (by omega)]; exact hf3__s___4_
  have hf4__s___5_ : w_4[(s + 5)]? = some (mI 0 4 rs2) := by rw [ew_4, List.getElem?_set_ne (by omega)]; exact hf3__s___5_
  have hf4_t : w_4[t]? = some (mO 7 [.ref (t + 1), .ref (t + 4), .ref (t + 5), .int (nI np2), .int tp2, .int av2, .int lg2, .int pl2, .int tk2]) := by rw [ew_4, List.getElem?_set_ne (by omega)]; exact hf3_t
  have hf4__t___1_ : w_4[(t + 1)]? = some (mO 6 [.ref (t + 2), .ref (t + 3), .int sl2, .int op2, .int lo2]) := by rw [ew_4, List.getElem?_set_ne (by omega)]; exact hf3__t___1_
  have hf4__t___2_ : w_4[(t + 2)]? = some (mI 0 26 f2) := by rw [ew_4, List.getElem?_set_ne (by omega)]; exact hf3__t___2_
  have hf4__t___3_ : w_4[(t + 3)]? = some (mI 0 25 g2) := by rw [ew_4, List.getElem?_set_ne (by omega)]; exact hf3__t___3_
  have hf4__t___4_ : w_4[(t + 4)]? = some (mI 0 4 hd2) := by rw [ew_4, List.getElem?_set_ne (by omega)]; exact hf3__t___4_
  have hf4__t___5_ : w_4[(t + 5)]? = some (mI 0 4 rs2) := by rw [ew_4, List.getElem?_set_ne (by omega)]; exact hf3__t___5_
  refine r_aload_n hC dX6_copyFrom_47 rfl (j := 0) rfl ?_
  refine r_aload_n hC dX6_copyFrom_48 rfl (j := 1) rfl ?_
  refine r_get hC gX6_copyFrom_49 hf4_t (v := .int tp2) rfl ?_
  refine r_put' hC pX6_copyFrom_52 hf4_s (Nat.le_of_ble_eq_true rfl) (fun _ => rfl) (fun _ => rfl) (fun w_5 ew_5 => ?_)
  have hf5__s___1_ : w_5[(s + 1)]? = some (mO 6 [.ref (s + 2), .ref (s + 3), .int sl2, .int op2, .int lo2]) := by rw [ew_5, List.getElem?_set_ne (by omega)]; exact hf4__s___1_
  have hf5__s___2_ : w_5[(s + 2)]? = some (mI 0 26 f2) := by rw [ew_5, List.getElem?_set_ne (by omega)]; exact hf4__s___2_
  have hf5__s___3_ : w_5[(s + 3)]? = some (mI 0 25 g2) := by rw [ew_5, List.getElem?_set_ne (by omega)]; exact hf4__s___3_
  have hf5_s : w_5[s]? = some (mO 7 [.ref (s + 1), .ref (s + 4), .ref (s + 5), .int (nI np2), .int tp2, .int av, .int lg, .int pl, .int tk]) := by rw [ew_5]; exact List.getElem?_set_self (lt_of_get hf4_s)
  have hf5__s___4_ : w_5[(s + 4)]? = some (mI 0 4 hd2) := by rw [ew_5, List.getElem?_set_ne (by omega)]; exact hf4__s___4_
  have hf5__s___5_ : w_5[(s + 5)]? = some (mI 0 4 rs2) := by rw [ew_5, List.getElem?_set_ne (by omega)]; exact hf4__s___5_
  have hf5_t : w_5[t]? = some (mO 7 [.ref (t + 1), .ref (t + 4), .ref (t + 5), .int (nI np2), .int tp2, .int av2, .int lg2, .int pl2, .int tk2]) := by rw [ew_5, List.getElem?_set_ne (by omega)]; exact hf4_t
  have hf5__t___1_ : w_5[(t + 1)]? = some (mO 6 [.ref (t + 2), .ref (t + 3), .int sl2, .int op2, .int lo2]) := by rw [ew_5, List.getElem?_set_ne (by omega)]; exact hf4__t___1_
  have hf5__t___2_ : w_5[(t + 2)]? = some (mI 0 26 f2) := by rw [ew_5, List.getElem?_set_ne (by omega)]; exact hf4__t___2_
  have hf5__t___3_ : w_5[(t + 3)]? = some (mI 0 25 g2) := by rw [ew_5, List.getElem?_set_ne (by omega)]; exact hf4__t___3_
  have hf5__t___4_ : w_5[(t + 4)]? = some (mI 0 4 hd2) := by rw [ew_5, List.getElem?_set_ne (by omega)]; exact hf4__t___4_
  have hf5__t___5_ : w_5[(t + 5)]? = some (mI 0 4 rs2) := by rw [ew_5, List.getElem?_set_ne (by omega)]; exact hf4__t___5_
  refine r_aload_n hC dX6_copyFrom_55 rfl (j := 0) rfl ?_
  refine r_aload_n hC dX6_copyFrom_56 rfl (j := 1) rfl ?_
  refine r_get hC gX6_copyFrom_57 hf5_t (v := .int av2) rfl ?_
  refine r_put' hC pX6_copyFrom_60 hf5_s (Nat.le_of_ble_eq_true rfl) (fun _ => rfl) (fun _ => rfl) (fun w_6 ew_6 => ?_)
  have hf6__s___1_ : w_6[(s + 1)]? = some (mO 6 [.ref (s + 2), .ref (s + 3), .int sl2, .int op2, .int lo2]) := by rw [ew_6, List.getElem?_set_ne (by omega)]; exact hf5__s___1_
  have hf6__s___2_ : w_6[(s + 2)]? = some (mI 0 26 f2) := by rw [ew_6, List.getElem?_set_ne (by omega)]; exact hf5__s___2_
  have hf6__s___3_ : w_6[(s + 3)]? = some (mI 0 25 g2) := by rw [ew_6, List.getElem?_set_ne (by omega)]; exact hf5__s___3_
  have hf6_s : w_6[s]? = some (mO 7 [.ref (s + 1), .ref (s + 4), .ref (s + 5), .int (nI np2), .int tp2, .int av2, .int lg, .int pl, .int tk]) := by rw [ew_6]; exact List.getElem?_set_self (lt_of_get hf5_s)
  have hf6__s___4_ : w_6[(s + 4)]? = some (mI 0 4 hd2) := by rw [ew_6, List.getElem?_set_ne (by omega)]; exact hf5__s___4_
  have hf6__s___5_ : w_6[(s + 5)]? = some (mI 0 4 rs2) := by rw [ew_6, List.getElem?_set_ne (by omega)]; exact hf5__s___5_
  have hf6_t : w_6[t]? = some (mO 7 [.ref (t + 1), .ref (t + 4), .ref (t + 5), .int (nI np2), .int tp2, .int av2, .int lg2, .int pl2, .int tk2]) := by rw [ew_6, List.getElem?_set_ne (by omega)]; exact hf5_t
  have hf6__t___1_ : w_6[(t + 1)]? = some (mO 6 [.ref (t + 2), .ref (t + 3), .int sl2, .int op2, .int lo2]) := by rw [ew_6, List.getElem?_set_ne (by omega)]; exact hf5__t___1_
  have hf6__t___2_ : w_6[(t + 2)]? = some (mI 0 26 f2) := by rw [ew_6, List.getElem?_set_ne (by omega)]; exact hf5__t___2_
  have hf6__t___3_ : w_6[(t + 3)]? = some (mI 0 25 g2) := by rw [ew_6, List.getElem?_set_ne (by omega)]; exact hf5__t___3_
  have hf6__t___4_ : w_6[(t + 4)]? = some (mI 0 4 hd2) := by rw [ew_6, List.getElem?_set_ne (by omega)]; exact hf5__t___4_
  have hf6__t___5_ : w_6[(t + 5)]? = some (mI 0 4 rs2) := by rw [ew_6, List.getElem?_set_ne (by omega)]; exact hf5__t___5_
  refine r_aload_n hC dX6_copyFrom_63 rfl (j := 0) rfl ?_
  refine r_aload_n hC dX6_copyFrom_64 rfl (j := 1) rfl ?_
  refine r_get hC gX6_copyFrom_65 hf6_t (v := .int lg2) rfl ?_
  refine r_put' hC pX6_copyFrom_68 hf6_s (Nat.le_of_ble_eq_true rfl) (fun _ => rfl) (fun _ => rfl) (fun w_7 ew_7 => ?_)
  have hf7__s___1_ : w_7[(s + 1)]? = some (mO 6 [.ref (s + 2), .ref (s + 3), .int sl2, .int op2, .int lo2]) := by rw [ew_7, List.getElem?_set_ne (by omega)]; exact hf6__s___1_
  have hf7__s___2_ : w_7[(s + 2)]? = some (mI 0 26 f2) := by rw [ew_7, List.getElem?_set_ne (by omega)]; exact hf6__s___2_
  have hf7__s___3_ : w_7[(s + 3)]? = some (mI 0 25 g2) := by rw [ew_7, List.getElem?_set_ne (by omega)]; exact hf6__s___3_
  have hf7_s : w_7[s]? = some (mO 7 [.ref (s + 1), .ref (s + 4), .ref (s + 5), .int (nI np2), .int tp2, .int av2, .int lg2, .int pl, .int tk]) := by rw [ew_7]; exact List.getElem?_set_self (lt_of_get hf6_s)
  have hf7__s___4_ : w_7[(s + 4)]? = some (mI 0 4 hd2) := by rw [ew_7, List.getElem?_set_ne (by omega)]; exact hf6__s___4_
  have hf7__s___5_ : w_7[(s + 5)]? = some (mI 0 4 rs2) := by rw [ew_7, List.getElem?_set_ne (by omega)]; exact hf6__s___5_
  have hf7_t : w_7[t]? = some (mO 7 [.ref (t + 1), .ref (t + 4), .ref (t + 5), .int (nI np2), .int tp2, .int av2, .int lg2, .int pl2, .int tk2]) := by rw [ew_7, List.getElem?_set_ne (by omega)]; exact hf6_t
  have hf7__t___1_ : w_7[(t + 1)]? = some (mO 6 [.ref (t + 2), .ref (t + 3), .int sl2, .int op2, .int lo2]) := by rw [ew_7, List.getElem?_set_ne (by omega)]; exact hf6__t___1_
  have hf7__t___2_ : w_7[(t + 2)]? = some (mI 0 26 f2) := by rw [ew_7, List.getElem?_set_ne (by omega)]; exact hf6__t___2_
  have hf7__t___3_ : w_7[(t + 3)]? = some (mI 0 25 g2) := by rw [ew_7, List.getElem?_set_ne (by omega)]; exact hf6__t___3_
  have hf7__t___4_ : w_7[(t + 4)]? = some (mI 0 4 hd2) := by rw [ew_7, List.getElem?_set_ne (by omega)]; exact hf6__t___4_
  have hf7__t___5_ : w_7[(t + 5)]? = some (mI 0 4 rs2) := by rw [ew_7, List.getElem?_set_ne (by omega)]; exact hf6__t___5_
  refine r_aload_n hC dX6_copyFrom_71 rfl (j := 0) rfl ?_
  refine r_aload_n hC dX6_copyFrom_72 rfl (j := 1) rfl ?_
  refine r_get hC gX6_copyFrom_73 hf7_t (v := .int pl2) rfl ?_
  refine r_put' hC pX6_copyFrom_76 hf7_s (Nat.le_of_ble_eq_true rfl) (fun _ => rfl) (fun _ => rfl) (fun w_8 ew_8 => ?_)
  have hf8__s___1_ : w_8[(s + 1)]? = some (mO 6 [.ref (s + 2), .ref (s + 3), .int sl2, .int op2, .int lo2]) := by rw [ew_8, List.getElem?_set_ne (by omega)]; exact hf7__s___1_
  have hf8__s___2_ : w_8[(s + 2)]? = some (mI 0 26 f2) := by rw [ew_8, List.getElem?_set_ne (by omega)]; exact hf7__s___2_
  have hf8__s___3_ : w_8[(s + 3)]? = some (mI 0 25 g2) := by rw [ew_8, List.getElem?_set_ne (by omega)]; exact hf7__s___3_
  have hf8_s : w_8[s]? = some (mO 7 [.ref (s + 1), .ref (s + 4), .ref (s + 5), .int (nI np2), .int tp2, .int av2, .int lg2, .int pl2, .int tk]) := by rw [ew_8]; exact List.getElem?_set_self (lt_of_get hf7_s)
  have hf8__s___4_ : w_8[(s + 4)]? = some (mI 0 4 hd2) := by rw [ew_8, List.getElem?_set_ne (by omega)]; exact hf7__s___4_
  have hf8__s___5_ : w_8[(s + 5)]? = some (mI 0 4 rs2) := by rw [ew_8, List.getElem?_set_ne (by omega)]; exact hf7__s___5_
  have hf8_t : w_8[t]? = some (mO 7 [.ref (t + 1), .ref (t + 4), .ref (t + 5), .int (nI np2), .int tp2, .int av2, .int lg2, .int pl2, .int tk2]) := by rw [ew_8, List.getElem?_set_ne (by omega)]; exact hf7_t
  have hf8__t___1_ : w_8[(t + 1)]? = some (mO 6 [.ref (t + 2), .ref (t + 3), .int sl2, .int op2, .int lo2]) := by rw [ew_8, List.getElem?_set_ne (by omega)]; exact hf7__t___1_
  have hf8__t___2_ : w_8[(t + 2)]? = some (mI 0 26 f2) := by rw [ew_8, List.getElem?_set_ne (by omega)]; exact hf7__t___2_
  have hf8__t___3_ : w_8[(t + 3)]? = some (mI 0 25 g2) := by rw [ew_8, List.getElem?_set_ne (by omega)]; exact hf7__t___3_
  have hf8__t___4_ : w_8[(t + 4)]? = some (mI 0 4 hd2) := by rw [ew_8, List.getElem?_set_ne (by omega)]; exact hf7__t___4_
  have hf8__t___5_ : w_8[(t + 5)]? = some (mI 0 4 rs2) := by rw [ew_8, List.getElem?_set_ne (by omega)]; exact hf7__t___5_
  refine r_aload_n hC dX6_copyFrom_79 rfl (j := 0) rfl ?_
  refine r_aload_n hC dX6_copyFrom_80 rfl (j := 1) rfl ?_
  refine r_get hC gX6_copyFrom_81 hf8_t (v := .int tk2) rfl ?_
  refine r_put' hC pX6_copyFrom_84 hf8_s (Nat.le_of_ble_eq_true rfl) (fun _ => rfl) (fun _ => rfl) (fun w_9 ew_9 => ?_)
  have hf9__s___1_ : w_9[(s + 1)]? = some (mO 6 [.ref (s + 2), .ref (s + 3), .int sl2, .int op2, .int lo2]) := by rw [ew_9, List.getElem?_set_ne (by omega)]; exact hf8__s___1_
  have hf9__s___2_ : w_9[(s + 2)]? = some (mI 0 26 f2) := by rw [ew_9, List.getElem?_set_ne (by omega)]; exact hf8__s___2_
  have hf9__s___3_ : w_9[(s + 3)]? = some (mI 0 25 g2) := by rw [ew_9, List.getElem?_set_ne (by omega)]; exact hf8__s___3_
  have hf9_s : w_9[s]? = some (mO 7 [.ref (s + 1), .ref (s + 4), .ref (s + 5), .int (nI np2), .int tp2, .int av2, .int lg2, .int pl2, .int tk2]) := by rw [ew_9]; exact List.getElem?_set_self (lt_of_get hf8_s)
  have hf9__s___4_ : w_9[(s + 4)]? = some (mI 0 4 hd2) := by rw [ew_9, List.getElem?_set_ne (by omega)]; exact hf8__s___4_
  have hf9__s___5_ : w_9[(s + 5)]? = some (mI 0 4 rs2) := by rw [ew_9, List.getElem?_set_ne (by omega)]; exact hf8__s___5_
  have hf9_t : w_9[t]? = some (mO 7 [.ref (t + 1), .ref (t + 4), .ref (t + 5), .int (nI np2), .int tp2, .int av2, .int lg2, .int pl2, .int tk2]) := by rw [ew_9, List.getElem?_set_ne (by omega)]; exact hf8_t
  have hf9__t___1_ : w_9[(t + 1)]? = some (mO 6 [.ref (t + 2), .ref (t + 3), .int sl2, .int op2, .int lo2]) := by rw [ew_9, List.getElem?_set_ne (by omega)]; exact hf8__t___1_
  have hf9__t___2_ : w_9[(t + 2)]? = some (mI 0 26 f2) := by rw [ew_9, List.getElem?_set_ne (by omega)]; exact hf8__t___2_
  have hf9__t___3_ : w_9[(t + 3)]? = some (mI 0 25 g2) := by rw [ew_9, List.getElem?_set_ne (by omega)]; exact hf8__t___3_
  have hf9__t___4_ : w_9[(t + 4)]? = some (mI 0 4 hd2) := by rw [ew_9, List.getElem?_set_ne (by omega)]; exact hf8__t___4_
  have hf9__t___5_ : w_9[(t + 5)]? = some (mI 0 4 rs2) := by rw [ew_9, List.getElem?_set_ne (by omega)]; exact hf8__t___5_
  refine r_vret hC hE hR dX6_copyFrom_87 (by omega) (by omega) (by rw [ew_9, List.length_set, ew_8, List.length_set, ew_7, List.length_set, ew_6, List.length_set, ew_5, List.length_set, ew_4, List.length_set, ew_3, List.length_set, ew_2, List.length_set, hlen_1]) ?_
  exact ⟨rfl, ⟨⟨hf9_s, ⟨hf9__s___1_, hf9__s___2_, hf9__s___3_⟩, hf9__s___4_, hf9__s___5_⟩, fun k hk => by rw [ew_9, List.getElem?_set_ne (by omega), ew_8, List.getElem?_set_ne (by omega), ew_7, List.getElem?_set_ne (by omega), ew_6, List.getElem?_set_ne (by omega), ew_5, List.getElem?_set_ne (by omega), ew_4, List.getElem?_set_ne (by omega), ew_3, List.getElem?_set_ne (by omega), ew_2, List.getElem?_set_ne (by omega), hP_1.2, hillSet_other (by omega) (by omega) (by omega)]⟩⟩
end ST3
