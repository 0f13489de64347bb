section MD5
theorem add1_inj {a b : Int32} : a + 1 = b + 1 ↔ a = b := ⟨fun h => by
  have := congrArg (fun z => z - 1) h
  simpa [Int32.add_sub_cancel] using this, fun h => by rw [h]⟩
set_option maxRecDepth 100000 in
set_option maxHeartbeats 4000000 in
theorem sm_piles {d : Nat} {c x : Int32} {w : mW} {m : Nat} {th ch ea fa sv0 tn he en ln iw id0 : Int32} {f g : Nat → Int32} {sl op lo : Int32} {hd rs : Nat → Int32} {np : Nat} {tp av lg pl tk : Int32} (hm : w[m]? = some (mO 10 [.int th, .int ch, .int ea, .int fa, .int sv0, .ref (m + 1), .ref (m + 2), .ref (m + 3), .ref (m + 4), .ref (m + 5), .ref (m + 6), .ref (m + 7), .ref (m + 8), .ref (m + 9), .ref (m + 10), .int tn, .int he, .int en, .int ln, .int iw, .int id0])) (hv : w[m + 1]? = some (mI 0 67 (enc ((f, g, sl, op, lo), hd, rs, np, tp, av, lg, pl, tk)))) (h25 : f 25 = 0) (hop : op = 0 ∨ op = 1) (hlg : ¬ lg < 0) (hT : fltPile f c x = 1000010 → hNx (hRestF (hPlace (f, g, sl, op, lo) c.toNatClampNeg x (-1))).2 = none) : Sp (d + 7) yX9_piles cX9_piles 3 (some .int) [.ref m, .int c, .int x] w 0 0 (fun v w' => (fltPile f c x = 1000010 ∧ v = some (.int (sDropN ((f, g, sl, op, lo), hd, rs, np, tp, av, lg, pl, tk) c.toNatClampNeg x (-1))) ∧ w' = w.set (m + 1) (mI 0 67 (enc (sPile ((f, g, sl, op, lo), hd, rs, np, tp, av, lg, pl, tk) c.toNatClampNeg x)))) ∨ (¬ fltPile f c x = 1000010 ∧ v = some (.int 0) ∧ w' = w.set m (mO 10 [.int (nD (fltPile f c x)), .int ch, .int ea, .int fa, .int sv0, .ref (m + 1), .ref (m + 2), .ref (m + 3), .ref (m + 4), .ref (m + 5), .ref (m + 6), .ref (m + 7), .ref (m + 8), .ref (m + 9), .ref (m + 10), .int tn, .int he, .int en, .int ln, .int iw, .int id0]))) noX := by
  refine Sp.of (by decide +kernel) (Nat.le_of_ble_eq_true rfl) (fun X hC hnl hE hR hN => ?_)
  have hC : Cx X RX9 cX9_piles (d + 7) 0 0 := hC
  show Wp X 0 0 w [(0, .ref m), (1, .int c), (2, .int x)] [] 0
  refine r_iload_n hC dX9_piles_0 rfl (j := 1) rfl ?_
  refine r_callS hC (vs := [.int c]) vX9_piles_1 (sm_isCell (d := d + 5)) rfl (by omega) (by omega) (by omega) (Nat.le_of_ble_eq_true rfl) (fun v_1 w_1 hP_1 hlen_1 => ?_) (fun _ _ h => h.elim)
  rw [hP_1.1, hP_1.2]
  show Wp X 0 0 w [(0, .ref m), (1, .int c), (2, .int x)] [.int (bI (isC c))] 4
  refine r_if_ne hC dX9_piles_4 (tgt := 13) (by decide) (fun c4 => ?_) (fun c4 => ?_)
  · refine r_iload_n hC dX9_piles_13 rfl (j := 2) rfl ?_
    refine r_iconst hC dX9_piles_14 (v := 1) (by decide) ?_
    refine r_bipush hC dX9_piles_15 (v := 9) (by decide) ?_
    refine r_callS hC (vs := [.int x, .int 1, .int 9]) vX9_piles_17 (sm_isIn (d := d + 6)) rfl (by omega) (by omega) (by omega) (Nat.le_of_ble_eq_true rfl) (fun v_2 w_2 hP_2 hlen_2 => ?_) (fun _ _ h => h.elim)
    rw [hP_2.1, hP_2.2]
    show Wp X 0 0 w [(0, .ref m), (1, .int c), (2, .int x)] [.int (bI (isI x 1 9))] 20
    refine r_if_ne hC dX9_piles_20 (tgt := 29) (by decide) (fun c20 => ?_) (fun c20 => ?_)
    · refine r_aload_n hC dX9_piles_29 rfl (j := 0) rfl ?_
      refine r_callV hC (vs := []) vX9_piles_30 (sm_stones (d := d + 6) hm hv) hm rfl rfl (by omega) (by omega) (by omega) (Nat.le_of_ble_eq_true rfl) (fun v_3 w_3 hP_3 hlen_3 => ?_) (fun _ _ h => h.elim)
      rw [hP_3.1, hP_3.2]
      show Wp X 0 0 w [(0, .ref m), (1, .int c), (2, .int x)] [.int (hSum f 25)] 33
      refine r_iload_n hC dX9_piles_33 rfl (j := 2) rfl ?_
      refine r_iadd hC dX9_piles_34 ?_
      refine r_sipush hC dX9_piles_35 (v := 300) (by decide) ?_
      refine r_icmp_le hC dX9_piles_38 (tgt := 47) (by decide) (fun c38 => ?_) (fun c38 => ?_)
      · have p2 : isC c = true := bI_ne.mp c4
        have p3 : isS x = true := bI_ne.mp c20
        have e9 : fltPile f c x = 1000010 := by
          simp [fltPile, p2, p3, c38]
        have hc := isC_lt p2
        rw [hc.2]
        refine r_aload_n hC dX9_piles_47 rfl (j := 0) rfl ?_
        refine r_iload_n hC dX9_piles_48 rfl (j := 1) rfl ?_
        refine r_iload_n hC dX9_piles_49 rfl (j := 2) rfl ?_
        refine r_iconst hC dX9_piles_50 (v := 0) (by decide) ?_
        refine r_callV hC (vs := [.int (nI c.toNatClampNeg), .int x, .int 0]) vX9_piles_51 (sm_heaps (d := d) (c := c.toNatClampNeg) (x := x) (t := -1) hm hv h25 hop hlg hc.1 (hT e9)) hm rfl rfl (by omega) (by omega) (by omega) (Nat.le_of_ble_eq_true rfl) (fun v_4 w_4 hP_4 hlen_4 => ?_) (fun _ _ h => h.elim)
        obtain ⟨hv_4, ew_4⟩ := hP_4
        rw [hv_4]
        have hf4_m : w_4[m]? = some (mO 10 [.int th, .int ch, .int ea, .int fa, .int sv0, .ref (m + 1), .ref (m + 2), .ref (m + 3), .ref (m + 4), .ref (m + 5), .ref (m + 6), .ref (m + 7), .ref (m + 8), .ref (m + 9), .ref (m + 10), .int tn, .int he, .int en, .int ln, .int iw, .int id0]) := by rw [ew_4, List.getElem?_set_ne (by omega)]; exact hm
        have hf4__m___1_ : w_4[(m + 1)]? = some (mI 0 67 (enc (((sPile ((f, g, sl, op, lo), hd, rs, np, tp, av, lg, pl, tk) c.toNatClampNeg x).1.1, (sPile ((f, g, sl, op, lo), hd, rs, np, tp, av, lg, pl, tk) c.toNatClampNeg x).1.2.1, (sPile ((f, g, sl, op, lo), hd, rs, np, tp, av, lg, pl, tk) c.toNatClampNeg x).1.2.2.1, (sPile ((f, g, sl, op, lo), hd, rs, np, tp, av, lg, pl, tk) c.toNatClampNeg x).1.2.2.2.1, (sPile ((f, g, sl, op, lo), hd, rs, np, tp, av, lg, pl, tk) c.toNatClampNeg x).1.2.2.2.2), (sPile ((f, g, sl, op, lo), hd, rs, np, tp, av, lg, pl, tk) c.toNatClampNeg x).2.1, (sPile ((f, g, sl, op, lo), hd, rs, np, tp, av, lg, pl, tk) c.toNatClampNeg x).2.2.1, np, (sPile ((f, g, sl, op, lo), hd, rs, np, tp, av, lg, pl, tk) c.toNatClampNeg x).2.2.2.2.1, (sPile ((f, g, sl, op, lo), hd, rs, np, tp, av, lg, pl, tk) c.toNatClampNeg x).2.2.2.2.2.1, (sPile ((f, g, sl, op, lo), hd, rs, np, tp, av, lg, pl, tk) c.toNatClampNeg x).2.2.2.2.2.2.1, (sPile ((f, g, sl, op, lo), hd, rs, np, tp, av, lg, pl, tk) c.toNatClampNeg x).2.2.2.2.2.2.2.1, (sPile ((f, g, sl, op, lo), hd, rs, np, tp, av, lg, pl, tk) c.toNatClampNeg x).2.2.2.2.2.2.2.2))) := by rw [ew_4]; exact List.getElem?_set_self (lt_of_get hv)
        show Wp X 0 0 w_4 [(0, .ref m), (1, .int (nI c.toNatClampNeg)), (2, .int x)] [.int (sDropN ((f, g, sl, op, lo), hd, rs, np, tp, av, lg, pl, tk) c.toNatClampNeg x (-1))] 54
        refine r_iret hC hE hR dX9_piles_54 (by omega) (by omega) (by rw [ew_4, List.length_set]) ?_
        exact Or.inl ⟨e9, rfl, by rw [ew_4]; rfl⟩
      · refine r_aload_n hC dX9_piles_41 rfl (j := 0) rfl ?_
        refine r_iconst hC dX9_piles_42 (v := 3) (by decide) ?_
        refine r_callV hC (vs := [.int 3]) vX9_piles_43 (sm_fail (d := d + 6) (x := 3) hm) hm rfl rfl (by omega) (by omega) (by omega) (Nat.le_of_ble_eq_true rfl) (fun v_5 w_5 hP_5 hlen_5 => ?_) (fun _ _ h => h.elim)
        obtain ⟨hv_5, ew_5⟩ := hP_5
        rw [hv_5]
        have hf5_m : w_5[m]? = some (mO 10 [.int 3, .int ch, .int ea, .int fa, .int sv0, .ref (m + 1), .ref (m + 2), .ref (m + 3), .ref (m + 4), .ref (m + 5), .ref (m + 6), .ref (m + 7), .ref (m + 8), .ref (m + 9), .ref (m + 10), .int tn, .int he, .int en, .int ln, .int iw, .int id0]) := by rw [ew_5]; exact List.getElem?_set_self (lt_of_get hm)
        have hf5__m___1_ : w_5[(m + 1)]? = some (mI 0 67 (enc ((f, g, sl, op, lo), hd, rs, np, tp, av, lg, pl, tk))) := by rw [ew_5, List.getElem?_set_ne (by omega)]; exact hv
        show Wp X 0 0 w_5 [(0, .ref m), (1, .int c), (2, .int x)] [.int 0] 46
        refine r_iret hC hE hR dX9_piles_46 (by omega) (by omega) (by rw [ew_5, List.length_set]) ?_
        have p2 : isC c = true := bI_ne.mp c4
        have p3 : isS x = true := bI_ne.mp c20
        have e9 : fltPile f c x = 1000013 := by
          simp [fltPile, p2, p3, c38]
        exact Or.inr ⟨by rw [e9]; decide, rfl, by rw [e9, show nD 1000013 = 3 from by decide, ew_5]⟩
    · refine r_aload_n hC dX9_piles_23 rfl (j := 0) rfl ?_
      refine r_iconst hC dX9_piles_24 (v := 2) (by decide) ?_
      refine r_callV hC (vs := [.int 2]) vX9_piles_25 (sm_fail (d := d + 6) (x := 2) hm) hm rfl rfl (by omega) (by omega) (by omega) (Nat.le_of_ble_eq_true rfl) (fun v_6 w_6 hP_6 hlen_6 => ?_) (fun _ _ h => h.elim)
      obtain ⟨hv_6, ew_6⟩ := hP_6
      rw [hv_6]
      have hf6_m : w_6[m]? = some (mO 10 [.int 2, .int ch, .int ea, .int fa, .int sv0, .ref (m + 1), .ref (m + 2), .ref (m + 3), .ref (m + 4), .ref (m + 5), .ref (m + 6), .ref (m + 7), .ref (m + 8), .ref (m + 9), .ref (m + 10), .int tn, .int he, .int en, .int ln, .int iw, .int id0]) := by rw [ew_6]; exact List.getElem?_set_self (lt_of_get hm)
      have hf6__m___1_ : w_6[(m + 1)]? = some (mI 0 67 (enc ((f, g, sl, op, lo), hd, rs, np, tp, av, lg, pl, tk))) := by rw [ew_6, List.getElem?_set_ne (by omega)]; exact hv
      show Wp X 0 0 w_6 [(0, .ref m), (1, .int c), (2, .int x)] [.int 0] 28
      refine r_iret hC hE hR dX9_piles_28 (by omega) (by omega) (by rw [ew_6, List.length_set]) ?_
      have p2 : isC c = true := bI_ne.mp c4
      have p3 : isS x = false := bI_0.mp c20
      have e9 : fltPile f c x = 1000012 := by
        simp [fltPile, p2, p3]
      exact Or.inr ⟨by rw [e9]; decide, rfl, by rw [e9, show nD 1000012 = 2 from by decide, ew_6]⟩
  · refine r_aload_n hC dX9_piles_7 rfl (j := 0) rfl ?_
    refine r_iconst hC dX9_piles_8 (v := 1) (by decide) ?_
    refine r_callV hC (vs := [.int 1]) vX9_piles_9 (sm_fail (d := d + 6) (x := 1) hm) hm rfl rfl (by omega) (by omega) (by omega) (Nat.le_of_ble_eq_true rfl) (fun v_7 w_7 hP_7 hlen_7 => ?_) (fun _ _ h => h.elim)
    obtain ⟨hv_7, ew_7⟩ := hP_7
    rw [hv_7]
    have hf7_m : w_7[m]? = some (mO 10 [.int 1, .int ch, .int ea, .int fa, .int sv0, .ref (m + 1), .ref (m + 2), .ref (m + 3), .ref (m + 4), .ref (m + 5), .ref (m + 6), .ref (m + 7), .ref (m + 8), .ref (m + 9), .ref (m + 10), .int tn, .int he, .int en, .int ln, .int iw, .int id0]) := by rw [ew_7]; exact List.getElem?_set_self (lt_of_get hm)
    have hf7__m___1_ : w_7[(m + 1)]? = some (mI 0 67 (enc ((f, g, sl, op, lo), hd, rs, np, tp, av, lg, pl, tk))) := by rw [ew_7, List.getElem?_set_ne (by omega)]; exact hv
    show Wp X 0 0 w_7 [(0, .ref m), (1, .int c), (2, .int x)] [.int 0] 12
    refine r_iret hC hE hR dX9_piles_12 (by omega) (by omega) (by rw [ew_7, List.length_set]) ?_
    have p2 : isC c = false := bI_0.mp c4
    have e9 : fltPile f c x = 1000011 := by
      simp [fltPile, p2]
    exact Or.inr ⟨by rw [e9]; decide, rfl, by rw [e9, show nD 1000011 = 1 from by decide, ew_7]⟩
set_option maxRecDepth 100000 in
set_option maxHeartbeats 4000000 in
theorem sm_slopes {d : Nat} {x : Int32} {w : mW} {m : Nat} {th ch ea fa sv0 tn he en ln iw id0 : Int32} {f g : Nat → Int32} {sl op lo : Int32} {hd rs : Nat → Int32} {np : Nat} {tp av lg pl tk : Int32} (hm : w[m]? = some (mO 10 [.int th, .int ch, .int ea, .int fa, .int sv0, .ref (m + 1), .ref (m + 2), .ref (m + 3), .ref (m + 4), .ref (m + 5), .ref (m + 6), .ref (m + 7), .ref (m + 8), .ref (m + 9), .ref (m + 10), .int tn, .int he, .int en, .int ln, .int iw, .int id0])) (hv : w[m + 1]? = some (mI 0 67 (enc ((f, g, sl, op, lo), hd, rs, np, tp, av, lg, pl, tk)))) (h25 : f 25 = 0) (hop : op = 0 ∨ op = 1) (hlg : ¬ lg < 0) (hT : fltSlope x = 1000010 → hNx (hRestF (f, g, x, op, lo)).2 = none) : Sp (d + 6) yX9_slopes cX9_slopes 2 (some .int) [.ref m, .int x] w 0 0 (fun v w' => (fltSlope x = 1000010 ∧ v = some (.int (nI (hRestF (f, g, x, op, lo)).1)) ∧ w' = w.set (m + 1) (mI 0 67 (enc (sSlope ((f, g, sl, op, lo), hd, rs, np, tp, av, lg, pl, tk) x)))) ∨ (¬ fltSlope x = 1000010 ∧ v = some (.int 0) ∧ w' = w.set m (mO 10 [.int (nE (fltSlope x)), .int ch, .int ea, .int fa, .int sv0, .ref (m + 1), .ref (m + 2), .ref (m + 3), .ref (m + 4), .ref (m + 5), .ref (m + 6), .ref (m + 7), .ref (m + 8), .ref (m + 9), .ref (m + 10), .int tn, .int he, .int en, .int ln, .int iw, .int id0]))) noX := by
  refine Sp.of (by decide +kernel) (Nat.le_of_ble_eq_true rfl) (fun X hC hnl hE hR hN => ?_)
  have hC : Cx X RX9 cX9_slopes (d + 6) 0 0 := hC
  show Wp X 0 0 w [(0, .ref m), (1, .int x)] [] 0
  refine r_iload_n hC dX9_slopes_0 rfl (j := 1) rfl ?_
  refine r_iconst hC dX9_slopes_1 (v := 2) (by decide) ?_
  refine r_bipush hC dX9_slopes_2 (v := 6) (by decide) ?_
  refine r_callS hC (vs := [.int x, .int 2, .int 6]) vX9_slopes_4 (sm_isIn (d := d + 5)) rfl (by omega) (by omega) (by omega) (Nat.le_of_ble_eq_true rfl) (fun v_1 w_1 hP_1 hlen_1 => ?_) (fun _ _ h => h.elim)
  rw [hP_1.1, hP_1.2]
  show Wp X 0 0 w [(0, .ref m), (1, .int x)] [.int (bI (isI x 2 6))] 7
  refine r_if_ne hC dX9_slopes_7 (tgt := 16) (by decide) (fun c7 => ?_) (fun c7 => ?_)
  · have e1 : isI x 2 6 = true := bI_ne.mp c7
    have e2 : ¬ (x < 2 ∨ 6 < x) := by
      simp only [isI, Bool.and_eq_true, Bool.not_eq_true', decide_eq_false_iff_not] at e1
      exact fun q => q.elim e1.1 e1.2
    have e9 : fltSlope x = 1000010 := if_neg e2
    refine r_aload_n hC dX9_slopes_16 rfl (j := 0) rfl ?_
    refine r_get hC gX9_slopes_17 hm (v := .ref (m + 1)) rfl ?_
    refine r_iconst hC dX9_slopes_20 (v := 1) (by decide) ?_
    refine r_iload_n hC dX9_slopes_21 rfl (j := 1) rfl ?_
    refine r_iast' hC dX9_slopes_22 (j := 1) hv ⟨by decide, by decide, by decide⟩ (fun w_2 ew_2 => ?_)
    have hf2_m : w_2[m]? = some (mO 10 [.int th, .int ch, .int ea, .int fa, .int sv0, .ref (m + 1), .ref (m + 2), .ref (m + 3), .ref (m + 4), .ref (m + 5), .ref (m + 6), .ref (m + 7), .ref (m + 8), .ref (m + 9), .ref (m + 10), .int tn, .int he, .int en, .int ln, .int iw, .int id0]) := by rw [ew_2, List.getElem?_set_ne (by omega)]; exact hm
    have hf2__m___1_ : w_2[(m + 1)]? = some (mI 0 67 (upd (enc ((f, g, sl, op, lo), hd, rs, np, tp, av, lg, pl, tk)) 1 x)) := by rw [ew_2]; exact List.getElem?_set_self (lt_of_get hv)
    rw [show upd (enc ((f, g, sl, op, lo), hd, rs, np, tp, av, lg, pl, tk)) 1 x = enc ((f, g, x, op, lo), hd, rs, np, tp, av, lg, pl, tk) from enc_small (by decide) rfl rfl rfl rfl rfl] at ew_2 hf2__m___1_
    refine r_aload_n hC dX9_slopes_23 rfl (j := 0) rfl ?_
    refine r_callV hC (vs := []) vX9_slopes_24 (sm_rests (d := d) hf2_m hf2__m___1_ h25 hop hlg (hT e9)) hf2_m rfl rfl (by omega) (by omega) (by omega) (Nat.le_of_ble_eq_true rfl) (fun v_3 w_3 hP_3 hlen_3 => ?_) (fun _ _ h => h.elim)
    obtain ⟨hv_3, ew_3⟩ := hP_3
    rw [hv_3]
    have hf3_m : w_3[m]? = some (mO 10 [.int th, .int ch, .int ea, .int fa, .int sv0, .ref (m + 1), .ref (m + 2), .ref (m + 3), .ref (m + 4), .ref (m + 5), .ref (m + 6), .ref (m + 7), .ref (m + 8), .ref (m + 9), .ref (m + 10), .int tn, .int he, .int en, .int ln, .int iw, .int id0]) := by rw [ew_3, List.getElem?_set_ne (by omega)]; exact hf2_m
    have hf3__m___1_ : w_3[(m + 1)]? = some (mI 0 67 (enc (((sSlope ((f, g, sl, op, lo), hd, rs, np, tp, av, lg, pl, tk) x).1.1, (sSlope ((f, g, sl, op, lo), hd, rs, np, tp, av, lg, pl, tk) x).1.2.1, (sSlope ((f, g, sl, op, lo), hd, rs, np, tp, av, lg, pl, tk) x).1.2.2.1, (sSlope ((f, g, sl, op, lo), hd, rs, np, tp, av, lg, pl, tk) x).1.2.2.2.1, (sSlope ((f, g, sl, op, lo), hd, rs, np, tp, av, lg, pl, tk) x).1.2.2.2.2), (sSlope ((f, g, sl, op, lo), hd, rs, np, tp, av, lg, pl, tk) x).2.1, (sSlope ((f, g, sl, op, lo), hd, rs, np, tp, av, lg, pl, tk) x).2.2.1, np, (sSlope ((f, g, sl, op, lo), hd, rs, np, tp, av, lg, pl, tk) x).2.2.2.2.1, (sSlope ((f, g, sl, op, lo), hd, rs, np, tp, av, lg, pl, tk) x).2.2.2.2.2.1, (sSlope ((f, g, sl, op, lo), hd, rs, np, tp, av, lg, pl, tk) x).2.2.2.2.2.2.1, (sSlope ((f, g, sl, op, lo), hd, rs, np, tp, av, lg, pl, tk) x).2.2.2.2.2.2.2.1, (sSlope ((f, g, sl, op, lo), hd, rs, np, tp, av, lg, pl, tk) x).2.2.2.2.2.2.2.2))) := by rw [ew_3]; exact List.getElem?_set_self (lt_of_get hf2__m___1_)
    show Wp X 0 0 w_3 [(0, .ref m), (1, .int x)] [.int (nI (hRestF (f, g, x, op, lo)).1)] 27
    refine r_iret hC hE hR dX9_slopes_27 (by omega) (by omega) (by rw [ew_3, List.length_set, ew_2, List.length_set]) ?_
    exact Or.inl ⟨e9, rfl, by rw [ew_3, ew_2, List.set_set]; rfl⟩
  · refine r_aload_n hC dX9_slopes_10 rfl (j := 0) rfl ?_
    refine r_iconst hC dX9_slopes_11 (v := 1) (by decide) ?_
    refine r_callV hC (vs := [.int 1]) vX9_slopes_12 (sm_fail (d := d + 5) (x := 1) hm) hm rfl rfl (by omega) (by omega) (by omega) (Nat.le_of_ble_eq_true rfl) (fun v_4 w_4 hP_4 hlen_4 => ?_) (fun _ _ h => h.elim)
    obtain ⟨hv_4, ew_4⟩ := hP_4
    rw [hv_4]
    have hf4_m : w_4[m]? = some (mO 10 [.int 1, .int ch, .int ea, .int fa, .int sv0, .ref (m + 1), .ref (m + 2), .ref (m + 3), .ref (m + 4), .ref (m + 5), .ref (m + 6), .ref (m + 7), .ref (m + 8), .ref (m + 9), .ref (m + 10), .int tn, .int he, .int en, .int ln, .int iw, .int id0]) := by rw [ew_4]; exact List.getElem?_set_self (lt_of_get hm)
    have hf4__m___1_ : w_4[(m + 1)]? = some (mI 0 67 (enc ((f, g, sl, op, lo), hd, rs, np, tp, av, lg, pl, tk))) := by rw [ew_4, List.getElem?_set_ne (by omega)]; exact hv
    show Wp X 0 0 w_4 [(0, .ref m), (1, .int x)] [.int 0] 15
    refine r_iret hC hE hR dX9_slopes_15 (by omega) (by omega) (by rw [ew_4, List.length_set]) ?_
    have e1 : isI x 2 6 = false := bI_0.mp c7
    have e2 : x < 2 ∨ 6 < x := by
      rcases Decidable.em (x < 2) with q | q
      · exact Or.inl q
      · rcases Decidable.em (6 < x) with z | z
        · exact Or.inr z
        · simp [isI, q, z] at e1
    have e9 : fltSlope x = 1000012 := if_pos e2
    exact Or.inr ⟨by rw [e9]; decide, rfl, by rw [e9, show nE 1000012 = 1 from by decide, ew_4]⟩
set_option maxRecDepth 100000 in
set_option maxHeartbeats 4000000 in
theorem sm_opens {d : Nat} {x : Int32} {w : mW} {m : Nat} {th ch ea fa sv0 tn he en ln iw id0 : Int32} {f g : Nat → Int32} {sl op lo : Int32} {hd rs : Nat → Int32} {np : Nat} {tp av lg pl tk : Int32} (hm : w[m]? = some (mO 10 [.int th, .int ch, .int ea, .int fa, .int sv0, .ref (m + 1), .ref (m + 2), .ref (m + 3), .ref (m + 4), .ref (m + 5), .ref (m + 6), .ref (m + 7), .ref (m + 8), .ref (m + 9), .ref (m + 10), .int tn, .int he, .int en, .int ln, .int iw, .int id0])) (hv : w[m + 1]? = some (mI 0 67 (enc ((f, g, sl, op, lo), hd, rs, np, tp, av, lg, pl, tk)))) (h25 : f 25 = 0) (hx : x = 0 ∨ x = 1) (hlg : ¬ lg < 0) (hT : hNx (hRestF (f, g, sl, x, lo)).2 = none) : Sp (d + 6) yX9_opens cX9_opens 4 (some .int) [.ref m, .int x] w 0 0 (fun v w' => v = some (.int op) ∧ w' = w.set (m + 1) (mI 0 67 (enc (sBorder ((f, g, sl, op, lo), hd, rs, np, tp, av, lg, pl, tk) x)))) noX := by
  refine Sp.of (by decide +kernel) (Nat.le_of_ble_eq_true rfl) (fun X hC hnl hE hR hN => ?_)
  have hC : Cx X RX9 cX9_opens (d + 6) 0 0 := hC
  show Wp X 0 0 w [(0, .ref m), (1, .int x)] [] 0
  refine r_aload_n hC dX9_opens_0 rfl (j := 0) rfl ?_
  refine r_get hC gX9_opens_1 hm (v := .ref (m + 1)) rfl ?_
  refine r_iconst hC dX9_opens_4 (v := 2) (by decide) ?_
  refine r_iald hC dX9_opens_5 (j := 2) hv ⟨by decide, by decide, by decide⟩ ?_
  rw [show enc ((f, g, sl, op, lo), hd, rs, np, tp, av, lg, pl, tk) 2 = op from rfl]
  refine r_istore_n hC dX9_opens_6 rfl (by rw [hnl]; decide) (L' := [(2, .int op), (0, .ref m), (1, .int x)]) rfl ?_
  refine r_aload_n hC dX9_opens_7 rfl (j := 1) rfl ?_
  refine r_get hC gX9_opens_8 hm (v := .ref (m + 1)) rfl ?_
  refine r_iconst hC dX9_opens_11 (v := 2) (by decide) ?_
  refine r_iload_n hC dX9_opens_12 rfl (j := 2) rfl ?_
  refine r_iast' hC dX9_opens_13 (j := 2) hv ⟨by decide, by decide, by decide⟩ (fun w_1 ew_1 => ?_)
  have hf1_m : w_1[m]? = some (mO 10 [.int th, .int ch, .int ea, .int fa, .int sv0, .ref (m + 1), .ref (m + 2), .ref (m + 3), .ref (m + 4), .ref (m + 5), .ref (m + 6), .ref (m + 7), .ref (m + 8), .ref (m + 9), .ref (m + 10), .int tn, .int he, .int en, .int ln, .int iw, .int id0]) := by rw [ew_1, List.getElem?_set_ne (by omega)]; exact hm
  have hf1__m___1_ : w_1[(m + 1)]? = some (mI 0 67 (upd (enc ((f, g, sl, op, lo), hd, rs, np, tp, av, lg, pl, tk)) 2 x)) := by rw [ew_1]; exact List.getElem?_set_self (lt_of_get hv)
  rw [show upd (enc ((f, g, sl, op, lo), hd, rs, np, tp, av, lg, pl, tk)) 2 x = enc ((f, g, sl, x, lo), hd, rs, np, tp, av, lg, pl, tk) from enc_small (by decide) rfl rfl rfl rfl rfl] at ew_1 hf1__m___1_
  refine r_aload_n hC dX9_opens_14 rfl (j := 1) rfl ?_
  refine r_callV hC (vs := []) vX9_opens_15 (sm_rests (d := d) hf1_m hf1__m___1_ h25 hx hlg hT) hf1_m rfl rfl (by omega) (by omega) (by omega) (Nat.le_of_ble_eq_true rfl) (fun v_2 w_2 hP_2 hlen_2 => ?_) (fun _ _ h => h.elim)
  obtain ⟨hv_2, ew_2⟩ := hP_2
  rw [hv_2]
  have hf2_m : w_2[m]? = some (mO 10 [.int th, .int ch, .int ea, .int fa, .int sv0, .ref (m + 1), .ref (m + 2), .ref (m + 3), .ref (m + 4), .ref (m + 5), .ref (m + 6), .ref (m + 7), .ref (m + 8), .ref (m + 9), .ref (m + 10), .int tn, .int he, .int en, .int ln, .int iw, .int id0]) := by rw [ew_2, List.getElem?_set_ne (by omega)]; exact hf1_m
  have hf2__m___1_ : w_2[(m + 1)]? = some (mI 0 67 (enc (((sBorder ((f, g, sl, op, lo), hd, rs, np, tp, av, lg, pl, tk) x).1.1, (sBorder ((f, g, sl, op, lo), hd, rs, np, tp, av, lg, pl, tk) x).1.2.1, (sBorder ((f, g, sl, op, lo), hd, rs, np, tp, av, lg, pl, tk) x).1.2.2.1, (sBorder ((f, g, sl, op, lo), hd, rs, np, tp, av, lg, pl, tk) x).1.2.2.2.1, (sBorder ((f, g, sl, op, lo), hd, rs, np, tp, av, lg, pl, tk) x).1.2.2.2.2), (sBorder ((f, g, sl, op, lo), hd, rs, np, tp, av, lg, pl, tk) x).2.1, (sBorder ((f, g, sl, op, lo), hd, rs, np, tp, av, lg, pl, tk) x).2.2.1, np, (sBorder ((f, g, sl, op, lo), hd, rs, np, tp, av, lg, pl, tk) x).2.2.2.2.1, (sBorder ((f, g, sl, op, lo), hd, rs, np, tp, av, lg, pl, tk) x).2.2.2.2.2.1, (sBorder ((f, g, sl, op, lo), hd, rs, np, tp, av, lg, pl, tk) x).2.2.2.2.2.2.1, (sBorder ((f, g, sl, op, lo), hd, rs, np, tp, av, lg, pl, tk) x).2.2.2.2.2.2.2.1, (sBorder ((f, g, sl, op, lo), hd, rs, np, tp, av, lg, pl, tk) x).2.2.2.2.2.2.2.2))) := by rw [ew_2]; exact List.getElem?_set_self (lt_of_get hf1__m___1_)
  show Wp X 0 0 w_2 [(2, .int op), (0, .ref m), (1, .int x)] [.int (nI (hRestF (f, g, sl, x, lo)).1)] 18
  refine r_istore_n hC dX9_opens_18 rfl (by rw [hnl]; decide) (L' := [(3, .int (nI (hRestF (f, g, sl, x, lo)).1)), (2, .int op), (0, .ref m), (1, .int x)]) rfl ?_
  refine r_iload_n hC dX9_opens_19 rfl (j := 1) rfl ?_
  refine r_iret hC hE hR dX9_opens_20 (by omega) (by omega) (by rw [ew_2, List.length_set, ew_1, List.length_set]) ?_
  exact ⟨rfl, by rw [ew_2, ew_1, List.set_set]; rfl⟩
set_option maxRecDepth 100000 in
set_option maxHeartbeats 4000000 in
theorem sm_takes {d : Nat} {q c : Int32} {w : mW} {m : Nat} {th ch ea fa sv0 tn he en ln iw id0 : Int32} {f g : Nat → Int32} {sl op lo : Int32} {hd rs : Nat → Int32} {np : Nat} {tp av lg pl tk : Int32} (hm : w[m]? = some (mO 10 [.int th, .int ch, .int ea, .int fa, .int sv0, .ref (m + 1), .ref (m + 2), .ref (m + 3), .ref (m + 4), .ref (m + 5), .ref (m + 6), .ref (m + 7), .ref (m + 8), .ref (m + 9), .ref (m + 10), .int tn, .int he, .int en, .int ln, .int iw, .int id0])) (hv : w[m + 1]? = some (mI 0 67 (enc ((f, g, sl, op, lo), hd, rs, np, tp, av, lg, pl, tk)))) (h25 : f 25 = 0) (hop : op = 0 ∨ op = 1) (hlg : ¬ lg < 0) (hnp : np ≤ 4) (hT : fltTake f g np q c = 1000010 → hNx (hRestF (hRem (f, g, sl, op, lo) c.toNatClampNeg)).2 = none) : Sp (d + 6) yX9_takes cX9_takes 3 (some .int) [.ref m, .int q, .int c] w 0 0 (fun v w' => (fltTake f g np q c = 1000010 ∧ v = some (.int (nI (hRestF (hRem (f, g, sl, op, lo) c.toNatClampNeg)).1)) ∧ w' = w.set (m + 1) (mI 0 67 (enc (sTake ((f, g, sl, op, lo), hd, rs, np, tp, av, lg, pl, tk) q.toNatClampNeg c.toNatClampNeg)))) ∨ (¬ fltTake f g np q c = 1000010 ∧ v = some (.int 0) ∧ w' = w.set m (mO 10 [.int (nT (fltTake f g np q c)), .int ch, .int ea, .int fa, .int sv0, .ref (m + 1), .ref (m + 2), .ref (m + 3), .ref (m + 4), .ref (m + 5), .ref (m + 6), .ref (m + 7), .ref (m + 8), .ref (m + 9), .ref (m + 10), .int tn, .int he, .int en, .int ln, .int iw, .int id0]))) noX := by
  refine Sp.of (by decide +kernel) (Nat.le_of_ble_eq_true rfl) (fun X hC hnl hE hR hN => ?_)
  have hC : Cx X RX9 cX9_takes (d + 6) 0 0 := hC
  show Wp X 0 0 w [(0, .ref m), (1, .int q), (2, .int c)] [] 0
-- takes
  refine r_aload_n hC dX9_takes_0 rfl (j := 0) rfl ?_
  refine r_iload_n hC dX9_takes_1 rfl (j := 1) rfl ?_
  refine r_callV hC (vs := [.int q]) vX9_takes_2 (sm_isPlayer (d := d + 4) hm hv hnp) hm rfl rfl (by omega) (by omega) (by omega) (Nat.le_of_ble_eq_true rfl) (fun v_1 w_1 hP_1 hlen_1 => ?_) (fun _ _ h => h.elim)
  rw [hP_1.1, hP_1.2]
  show Wp X 0 0 w [(0, .ref m), (1, .int q), (2, .int c)] [.int (bI (isP q np))] 5
  refine r_if_eq hC dX9_takes_5 (tgt := 15) (by decide) (fun c5 => ?_) (fun c5 => ?_)
  · refine r_aload_n hC dX9_takes_15 rfl (j := 0) rfl ?_
    refine r_iconst hC dX9_takes_16 (v := 1) (by decide) ?_
    refine r_callV hC (vs := [.int 1]) vX9_takes_17 (sm_fail (d := d + 5) (x := 1) hm) hm rfl rfl (by omega) (by omega) (by omega) (Nat.le_of_ble_eq_true rfl) (fun v_2 w_2 hP_2 hlen_2 => ?_) (fun _ _ h => h.elim)
    obtain ⟨hv_2, ew_2⟩ := hP_2
    rw [hv_2]
    have hf2_m : w_2[m]? = some (mO 10 [.int 1, .int ch, .int ea, .int fa, .int sv0, .ref (m + 1), .ref (m + 2), .ref (m + 3), .ref (m + 4), .ref (m + 5), .ref (m + 6), .ref (m + 7), .ref (m + 8), .ref (m + 9), .ref (m + 10), .int tn, .int he, .int en, .int ln, .int iw, .int id0]) := by rw [ew_2]; exact List.getElem?_set_self (lt_of_get hm)
    have hf2__m___1_ : w_2[(m + 1)]? = some (mI 0 67 (enc ((f, g, sl, op, lo), hd, rs, np, tp, av, lg, pl, tk))) := by rw [ew_2, List.getElem?_set_ne (by omega)]; exact hv
    show Wp X 0 0 w_2 [(0, .ref m), (1, .int q), (2, .int c)] [.int 0] 20
    refine r_iret hC hE hR dX9_takes_20 (by omega) (by omega) (by rw [ew_2, List.length_set]) ?_
    have p1 : isP q np = false := bI_0.mp c5
    have e9 : fltTake f g np q c = 1000011 := by
      simp [fltTake, p1]
    exact Or.inr ⟨by rw [e9]; decide, rfl, by rw [e9, show nT 1000011 = 1 from by decide, ew_2]⟩
  · refine r_iload_n hC dX9_takes_8 rfl (j := 2) rfl ?_
    refine r_callS hC (vs := [.int c]) vX9_takes_9 (sm_isCell (d := d + 4)) rfl (by omega) (by omega) (by omega) (Nat.le_of_ble_eq_true rfl) (fun v_3 w_3 hP_3 hlen_3 => ?_) (fun _ _ h => h.elim)
    rw [hP_3.1, hP_3.2]
    show Wp X 0 0 w [(0, .ref m), (1, .int q), (2, .int c)] [.int (bI (isC c))] 12
    refine r_if_ne hC dX9_takes_12 (tgt := 21) (by decide) (fun c12 => ?_) (fun c12 => ?_)
    · have p1 : isP q np = true := bI_ne.mp c5
      have p2 : isC c = true := bI_ne.mp c12
      have hc := isC_lt p2
      have hc1 := hc.1
      have hq := isP_lt p1 hnp
      have hq1 : q.toNatClampNeg < 4 := by have := hq.1; omega
      rw [show Wp X 0 0 w [(0, .ref m), (1, .int q), (2, .int c)] [] 21 = Wp X 0 0 w [(0, .ref m), (1, .int (nI q.toNatClampNeg)), (2, .int (nI c.toNatClampNeg))] [] 21 from by rw [← hc.2, ← hq.2]]
      refine r_aload_n hC dX9_takes_21 rfl (j := 0) rfl ?_
      refine r_get hC gX9_takes_22 hm (v := .ref (m + 1)) rfl ?_
      refine r_bipush hC dX9_takes_25 (v := 17) (by decide) ?_
      refine r_iload_n hC dX9_takes_27 rfl (j := 2) rfl ?_
      refine r_iadd hC dX9_takes_28 ?_
      refine r_iald hC dX9_takes_29 (j := (17 + c.toNatClampNeg)) hv (ix17 (c := c.toNatClampNeg) (by omega)) ?_
      rw [enc_hi (c := c.toNatClampNeg) (by omega)]
      refine r_if_ne hC dX9_takes_30 (tgt := 39) (by decide) (fun c30 => ?_) (fun c30 => ?_)
      · refine r_aload_n hC dX9_takes_39 rfl (j := 0) rfl ?_
        refine r_get hC gX9_takes_40 hm (v := .ref (m + 1)) rfl ?_
        refine r_bipush hC dX9_takes_43 (v := 42) (by decide) ?_
        refine r_iload_n hC dX9_takes_45 rfl (j := 2) rfl ?_
        refine r_iadd hC dX9_takes_46 ?_
        refine r_iald hC dX9_takes_47 (j := (42 + c.toNatClampNeg)) hv (ix42 (c := c.toNatClampNeg) (by omega)) ?_
        rw [enc_ow (c := c.toNatClampNeg) (by omega)]
        refine r_iload_n hC dX9_takes_48 rfl (j := 1) rfl ?_
        refine r_iconst hC dX9_takes_49 (v := 1) (by decide) ?_
        refine r_iadd hC dX9_takes_50 ?_
        refine r_icmp_eq hC dX9_takes_51 (tgt := 60) (by decide) (fun c51 => ?_) (fun c51 => ?_)
        · have p4 : g c.toNatClampNeg = q := by rw [add1_inj.mp c51]; exact hq.2.symm
          have e9 : fltTake f g np q c = 1000010 := by
            simp [fltTake, p1, p2, c30, p4]
          refine r_aload_n hC dX9_takes_60 rfl (j := 0) rfl ?_
          refine r_get hC gX9_takes_61 hm (v := .ref (m + 1)) rfl ?_
          refine r_bipush hC dX9_takes_64 (v := 17) (by decide) ?_
          refine r_iload_n hC dX9_takes_66 rfl (j := 2) rfl ?_
          refine r_iadd hC dX9_takes_67 ?_
          refine r_dup2 hC dX9_takes_68 rfl rfl ?_
          refine r_iald hC dX9_takes_69 (j := (17 + c.toNatClampNeg)) hv (ix17 (c := c.toNatClampNeg) (by omega)) ?_
          rw [enc_hi (c := c.toNatClampNeg) (by omega)]
          refine r_iconst hC dX9_takes_70 (v := 1) (by decide) ?_
          refine r_isub hC dX9_takes_71 ?_
          refine r_iast' hC dX9_takes_72 (j := (17 + c.toNatClampNeg)) hv (ix17 (c := c.toNatClampNeg) (by omega)) (fun w_4 ew_4 => ?_)
          have hf4_m : w_4[m]? = some (mO 10 [.int th, .int ch, .int ea, .int fa, .int sv0, .ref (m + 1), .ref (m + 2), .ref (m + 3), .ref (m + 4), .ref (m + 5), .ref (m + 6), .ref (m + 7), .ref (m + 8), .ref (m + 9), .ref (m + 10), .int tn, .int he, .int en, .int ln, .int iw, .int id0]) := by rw [ew_4, List.getElem?_set_ne (by omega)]; exact hm
          have hf4__m___1_ : w_4[(m + 1)]? = some (mI 0 67 (upd (enc ((f, g, sl, op, lo), hd, rs, np, tp, av, lg, pl, tk)) (17 + c.toNatClampNeg) ((f c.toNatClampNeg) - 1))) := by rw [ew_4]; exact List.getElem?_set_self (lt_of_get hv)
          rw [upd_hi (c := c.toNatClampNeg) (by omega)] at ew_4 hf4__m___1_
          refine r_aload_n hC dX9_takes_73 rfl (j := 0) rfl ?_
          refine r_get hC gX9_takes_74 hf4_m (v := .ref (m + 1)) rfl ?_
          refine r_bipush hC dX9_takes_77 (v := 17) (by decide) ?_
          refine r_iload_n hC dX9_takes_79 rfl (j := 2) rfl ?_
          refine r_iadd hC dX9_takes_80 ?_
          refine r_iald hC dX9_takes_81 (j := (17 + c.toNatClampNeg)) hf4__m___1_ (ix17 (c := c.toNatClampNeg) (by omega)) ?_
          rw [enc_hi (c := c.toNatClampNeg) (by omega)]
          rw [pk_us]
          refine r_if_ne hC dX9_takes_82 (tgt := 95) (by decide) (fun c82 => ?_) (fun c82 => ?_)
          · refine r_aload_n hC dX9_takes_95 rfl (j := 0) rfl ?_
            refine r_get hC gX9_takes_96 hf4_m (v := .ref (m + 1)) rfl ?_
            refine r_bipush hC dX9_takes_99 (v := 9) (by decide) ?_
            refine r_iload_n hC dX9_takes_101 rfl (j := 1) rfl ?_
            refine r_iadd hC dX9_takes_102 ?_
            refine r_dup2 hC dX9_takes_103 rfl rfl ?_
            refine r_iald hC dX9_takes_104 (j := (9 + q.toNatClampNeg)) hf4__m___1_ (ix9 (c := q.toNatClampNeg) (by omega)) ?_
            rw [enc_hand (c := q.toNatClampNeg) (by omega)]
            refine r_iconst hC dX9_takes_105 (v := 1) (by decide) ?_
            refine r_iadd hC dX9_takes_106 ?_
            refine r_iast' hC dX9_takes_107 (j := (9 + q.toNatClampNeg)) hf4__m___1_ (ix9 (c := q.toNatClampNeg) (by omega)) (fun w_5 ew_5 => ?_)
            have hf5_m : w_5[m]? = some (mO 10 [.int th, .int ch, .int ea, .int fa, .int sv0, .ref (m + 1), .ref (m + 2), .ref (m + 3), .ref (m + 4), .ref (m + 5), .ref (m + 6), .ref (m + 7), .ref (m + 8), .ref (m + 9), .ref (m + 10), .int tn, .int he, .int en, .int ln, .int iw, .int id0]) := by rw [ew_5, List.getElem?_set_ne (by omega)]; exact hf4_m
            have hf5__m___1_ : w_5[(m + 1)]? = some (mI 0 67 (upd (enc (((upd f c.toNatClampNeg ((f c.toNatClampNeg) - 1)), g, sl, op, lo), hd, rs, np, tp, av, lg, pl, tk)) (9 + q.toNatClampNeg) ((hd q.toNatClampNeg) + 1))) := by rw [ew_5]; exact List.getElem?_set_self (lt_of_get hf4__m___1_)
            rw [upd_hand (c := q.toNatClampNeg) (by omega)] at ew_5 hf5__m___1_
            refine r_aload_n hC dX9_takes_108 rfl (j := 0) rfl ?_
            refine r_get hC gX9_takes_109 hf5_m (v := .ref (m + 1)) rfl ?_
            refine r_bipush hC dX9_takes_112 (v := 8) (by decide) ?_
            refine r_dup2 hC dX9_takes_114 rfl rfl ?_
            refine r_iald hC dX9_takes_115 (j := 8) hf5__m___1_ ⟨by decide, by decide, by decide⟩ ?_
            rw [show enc (((upd f c.toNatClampNeg ((f c.toNatClampNeg) - 1)), g, sl, op, lo), (upd hd q.toNatClampNeg ((hd q.toNatClampNeg) + 1)), rs, np, tp, av, lg, pl, tk) 8 = tk from rfl]
            refine r_iconst hC dX9_takes_116 (v := 1) (by decide) ?_
            refine r_iadd hC dX9_takes_117 ?_
            refine r_iast' hC dX9_takes_118 (j := 8) hf5__m___1_ ⟨by decide, by decide, by decide⟩ (fun w_6 ew_6 => ?_)
            have hf6_m : w_6[m]? = some (mO 10 [.int th, .int ch, .int ea, .int fa, .int sv0, .ref (m + 1), .ref (m + 2), .ref (m + 3), .ref (m + 4), .ref (m + 5), .ref (m + 6), .ref (m + 7), .ref (m + 8), .ref (m + 9), .ref (m + 10), .int tn, .int he, .int en, .int ln, .int iw, .int id0]) := by rw [ew_6, List.getElem?_set_ne (by omega)]; exact hf5_m
            have hf6__m___1_ : w_6[(m + 1)]? = some (mI 0 67 (upd (enc (((upd f c.toNatClampNeg ((f c.toNatClampNeg) - 1)), g, sl, op, lo), (upd hd q.toNatClampNeg ((hd q.toNatClampNeg) + 1)), rs, np, tp, av, lg, pl, tk)) 8 (tk + 1))) := by rw [ew_6]; exact List.getElem?_set_self (lt_of_get hf5__m___1_)
            rw [show upd (enc (((upd f c.toNatClampNeg ((f c.toNatClampNeg) - 1)), g, sl, op, lo), (upd hd q.toNatClampNeg ((hd q.toNatClampNeg) + 1)), rs, np, tp, av, lg, pl, tk)) 8 (tk + 1) = enc (((upd f c.toNatClampNeg ((f c.toNatClampNeg) - 1)), g, sl, op, lo), (upd hd q.toNatClampNeg ((hd q.toNatClampNeg) + 1)), rs, np, tp, av, lg, pl, (tk + 1)) from enc_small (by decide) rfl rfl rfl rfl rfl] at ew_6 hf6__m___1_
            refine r_aload_n hC dX9_takes_119 rfl (j := 0) rfl ?_
            have h25b : (upd f c.toNatClampNeg ((f c.toNatClampNeg) - 1)) 25 = 0 := by
              rw [pk_un (by omega)]; exact h25
            have e7 : hRem (f, g, sl, op, lo) c.toNatClampNeg = ((upd f c.toNatClampNeg ((f c.toNatClampNeg) - 1)), g, sl, op, lo) := by
              simp only [hRem, if_neg c82]
            have hT9 := hT e9
            rw [e7] at hT9
            refine r_callV hC (vs := []) vX9_takes_120 (sm_rests (d := d) hf6_m hf6__m___1_ h25b hop hlg hT9) hf6_m rfl rfl (by omega) (by omega) (by omega) (Nat.le_of_ble_eq_true rfl) (fun v_7 w_7 hP_7 hlen_7 => ?_) (fun _ _ h => h.elim)
            obtain ⟨hv_7, ew_7⟩ := hP_7
            rw [hv_7]
            have hf7_m : w_7[m]? = some (mO 10 [.int th, .int ch, .int ea, .int fa, .int sv0, .ref (m + 1), .ref (m + 2), .ref (m + 3), .ref (m + 4), .ref (m + 5), .ref (m + 6), .ref (m + 7), .ref (m + 8), .ref (m + 9), .ref (m + 10), .int tn, .int he, .int en, .int ln, .int iw, .int id0]) := by rw [ew_7, List.getElem?_set_ne (by omega)]; exact hf6_m
            have hf7__m___1_ : w_7[(m + 1)]? = some (mI 0 67 (enc (((sSettle (((upd f c.toNatClampNeg ((f c.toNatClampNeg) - 1)), g, sl, op, lo), (upd hd q.toNatClampNeg ((hd q.toNatClampNeg) + 1)), rs, np, tp, av, lg, pl, (tk + 1))).1.1, (sSettle (((upd f c.toNatClampNeg ((f c.toNatClampNeg) - 1)), g, sl, op, lo), (upd hd q.toNatClampNeg ((hd q.toNatClampNeg) + 1)), rs, np, tp, av, lg, pl, (tk + 1))).1.2.1, (sSettle (((upd f c.toNatClampNeg ((f c.toNatClampNeg) - 1)), g, sl, op, lo), (upd hd q.toNatClampNeg ((hd q.toNatClampNeg) + 1)), rs, np, tp, av, lg, pl, (tk + 1))).1.2.2.1, (sSettle (((upd f c.toNatClampNeg ((f c.toNatClampNeg) - 1)), g, sl, op, lo), (upd hd q.toNatClampNeg ((hd q.toNatClampNeg) + 1)), rs, np, tp, av, lg, pl, (tk + 1))).1.2.2.2.1, (sSettle (((upd f c.toNatClampNeg ((f c.toNatClampNeg) - 1)), g, sl, op, lo), (upd hd q.toNatClampNeg ((hd q.toNatClampNeg) + 1)), rs, np, tp, av, lg, pl, (tk + 1))).1.2.2.2.2), (sSettle (((upd f c.toNatClampNeg ((f c.toNatClampNeg) - 1)), g, sl, op, lo), (upd hd q.toNatClampNeg ((hd q.toNatClampNeg) + 1)), rs, np, tp, av, lg, pl, (tk + 1))).2.1, (sSettle (((upd f c.toNatClampNeg ((f c.toNatClampNeg) - 1)), g, sl, op, lo), (upd hd q.toNatClampNeg ((hd q.toNatClampNeg) + 1)), rs, np, tp, av, lg, pl, (tk + 1))).2.2.1, np, (sSettle (((upd f c.toNatClampNeg ((f c.toNatClampNeg) - 1)), g, sl, op, lo), (upd hd q.toNatClampNeg ((hd q.toNatClampNeg) + 1)), rs, np, tp, av, lg, pl, (tk + 1))).2.2.2.2.1, (sSettle (((upd f c.toNatClampNeg ((f c.toNatClampNeg) - 1)), g, sl, op, lo), (upd hd q.toNatClampNeg ((hd q.toNatClampNeg) + 1)), rs, np, tp, av, lg, pl, (tk + 1))).2.2.2.2.2.1, (sSettle (((upd f c.toNatClampNeg ((f c.toNatClampNeg) - 1)), g, sl, op, lo), (upd hd q.toNatClampNeg ((hd q.toNatClampNeg) + 1)), rs, np, tp, av, lg, pl, (tk + 1))).2.2.2.2.2.2.1, (sSettle (((upd f c.toNatClampNeg ((f c.toNatClampNeg) - 1)), g, sl, op, lo), (upd hd q.toNatClampNeg ((hd q.toNatClampNeg) + 1)), rs, np, tp, av, lg, pl, (tk + 1))).2.2.2.2.2.2.2.1, (sSettle (((upd f c.toNatClampNeg ((f c.toNatClampNeg) - 1)), g, sl, op, lo), (upd hd q.toNatClampNeg ((hd q.toNatClampNeg) + 1)), rs, np, tp, av, lg, pl, (tk + 1))).2.2.2.2.2.2.2.2))) := by rw [ew_7]; exact List.getElem?_set_self (lt_of_get hf6__m___1_)
            show Wp X 0 0 w_7 [(0, .ref m), (1, .int (nI q.toNatClampNeg)), (2, .int (nI c.toNatClampNeg))] [.int (nI (hRestF ((upd f c.toNatClampNeg ((f c.toNatClampNeg) - 1)), g, sl, op, lo)).1)] 123
            refine r_iret hC hE hR dX9_takes_123 (by omega) (by omega) (by rw [ew_7, List.length_set, ew_6, List.length_set, ew_5, List.length_set, ew_4, List.length_set]) ?_
            have e8 : sTake ((f, g, sl, op, lo), hd, rs, np, tp, av, lg, pl, tk) q.toNatClampNeg c.toNatClampNeg = sSettle (((upd f c.toNatClampNeg ((f c.toNatClampNeg) - 1)), g, sl, op, lo), (upd hd q.toNatClampNeg ((hd q.toNatClampNeg) + 1)), rs, np, tp, av, lg, pl, (tk + 1)) := by
              show sSettle (hRem (f, g, sl, op, lo) c.toNatClampNeg, _, _, _, _) = _
              simp only [hRem, if_neg c82]
            exact Or.inl ⟨e9, by rw [e7], by rw [e8]; simp only [ew_7, ew_6, ew_5, ew_4, List.set_set]⟩
          · refine r_aload_n hC dX9_takes_85 rfl (j := 0) rfl ?_
            refine r_get hC gX9_takes_86 hf4_m (v := .ref (m + 1)) rfl ?_
            refine r_bipush hC dX9_takes_89 (v := 42) (by decide) ?_
            refine r_iload_n hC dX9_takes_91 rfl (j := 2) rfl ?_
            refine r_iadd hC dX9_takes_92 ?_
            refine r_iconst hC dX9_takes_93 (v := 0) (by decide) ?_
            refine r_iast' hC dX9_takes_94 (j := (42 + c.toNatClampNeg)) hf4__m___1_ (ix42 (c := c.toNatClampNeg) (by omega)) (fun w_8 ew_8 => ?_)
            have hf8_m : w_8[m]? = some (mO 10 [.int th, .int ch, .int ea, .int fa, .int sv0, .ref (m + 1), .ref (m + 2), .ref (m + 3), .ref (m + 4), .ref (m + 5), .ref (m + 6), .ref (m + 7), .ref (m + 8), .ref (m + 9), .ref (m + 10), .int tn, .int he, .int en, .int ln, .int iw, .int id0]) := by rw [ew_8, List.getElem?_set_ne (by omega)]; exact hf4_m
            have hf8__m___1_ : w_8[(m + 1)]? = some (mI 0 67 (upd (enc (((upd f c.toNatClampNeg ((f c.toNatClampNeg) - 1)), g, sl, op, lo), hd, rs, np, tp, av, lg, pl, tk)) (42 + c.toNatClampNeg) 0)) := by rw [ew_8]; exact List.getElem?_set_self (lt_of_get hf4__m___1_)
            rw [upd_ow0 (c := c.toNatClampNeg) (by omega)] at ew_8 hf8__m___1_
            refine r_aload_n hC dX9_takes_95 rfl (j := 0) rfl ?_
            refine r_get hC gX9_takes_96 hf8_m (v := .ref (m + 1)) rfl ?_
            refine r_bipush hC dX9_takes_99 (v := 9) (by decide) ?_
            refine r_iload_n hC dX9_takes_101 rfl (j := 1) rfl ?_
            refine r_iadd hC dX9_takes_102 ?_
            refine r_dup2 hC dX9_takes_103 rfl rfl ?_
            refine r_iald hC dX9_takes_104 (j := (9 + q.toNatClampNeg)) hf8__m___1_ (ix9 (c := q.toNatClampNeg) (by omega)) ?_
            rw [enc_hand (c := q.toNatClampNeg) (by omega)]
            refine r_iconst hC dX9_takes_105 (v := 1) (by decide) ?_
            refine r_iadd hC dX9_takes_106 ?_
            refine r_iast' hC dX9_takes_107 (j := (9 + q.toNatClampNeg)) hf8__m___1_ (ix9 (c := q.toNatClampNeg) (by omega)) (fun w_9 ew_9 => ?_)
            have hf9_m : w_9[m]? = some (mO 10 [.int th, .int ch, .int ea, .int fa, .int sv0, .ref (m + 1), .ref (m + 2), .ref (m + 3), .ref (m + 4), .ref (m + 5), .ref (m + 6), .ref (m + 7), .ref (m + 8), .ref (m + 9), .ref (m + 10), .int tn, .int he, .int en, .int ln, .int iw, .int id0]) := by rw [ew_9, List.getElem?_set_ne (by omega)]; exact hf8_m
            have hf9__m___1_ : w_9[(m + 1)]? = some (mI 0 67 (upd (enc (((upd f c.toNatClampNeg ((f c.toNatClampNeg) - 1)), (upd g c.toNatClampNeg (-1)), sl, op, lo), hd, rs, np, tp, av, lg, pl, tk)) (9 + q.toNatClampNeg) ((hd q.toNatClampNeg) + 1))) := by rw [ew_9]; exact List.getElem?_set_self (lt_of_get hf8__m___1_)
            rw [upd_hand (c := q.toNatClampNeg) (by omega)] at ew_9 hf9__m___1_
            refine r_aload_n hC dX9_takes_108 rfl (j := 0) rfl ?_
            refine r_get hC gX9_takes_109 hf9_m (v := .ref (m + 1)) rfl ?_
            refine r_bipush hC dX9_takes_112 (v := 8) (by decide) ?_
            refine r_dup2 hC dX9_takes_114 rfl rfl ?_
            refine r_iald hC dX9_takes_115 (j := 8) hf9__m___1_ ⟨by decide, by decide, by decide⟩ ?_
            rw [show enc (((upd f c.toNatClampNeg ((f c.toNatClampNeg) - 1)), (upd g c.toNatClampNeg (-1)), sl, op, lo), (upd hd q.toNatClampNeg ((hd q.toNatClampNeg) + 1)), rs, np, tp, av, lg, pl, tk) 8 = tk from rfl]
            refine r_iconst hC dX9_takes_116 (v := 1) (by decide) ?_
            refine r_iadd hC dX9_takes_117 ?_
            refine r_iast' hC dX9_takes_118 (j := 8) hf9__m___1_ ⟨by decide, by decide, by decide⟩ (fun w_10 ew_10 => ?_)
            have hf10_m : w_10[m]? = some (mO 10 [.int th, .int ch, .int ea, .int fa, .int sv0, .ref (m + 1), .ref (m + 2), .ref (m + 3), .ref (m + 4), .ref (m + 5), .ref (m + 6), .ref (m + 7), .ref (m + 8), .ref (m + 9), .ref (m + 10), .int tn, .int he, .int en, .int ln, .int iw, .int id0]) := by rw [ew_10, List.getElem?_set_ne (by omega)]; exact hf9_m
            have hf10__m___1_ : w_10[(m + 1)]? = some (mI 0 67 (upd (enc (((upd f c.toNatClampNeg ((f c.toNatClampNeg) - 1)), (upd g c.toNatClampNeg (-1)), sl, op, lo), (upd hd q.toNatClampNeg ((hd q.toNatClampNeg) + 1)), rs, np, tp, av, lg, pl, tk)) 8 (tk + 1))) := by rw [ew_10]; exact List.getElem?_set_self (lt_of_get hf9__m___1_)
            rw [show upd (enc (((upd f c.toNatClampNeg ((f c.toNatClampNeg) - 1)), (upd g c.toNatClampNeg (-1)), sl, op, lo), (upd hd q.toNatClampNeg ((hd q.toNatClampNeg) + 1)), rs, np, tp, av, lg, pl, tk)) 8 (tk + 1) = enc (((upd f c.toNatClampNeg ((f c.toNatClampNeg) - 1)), (upd g c.toNatClampNeg (-1)), sl, op, lo), (upd hd q.toNatClampNeg ((hd q.toNatClampNeg) + 1)), rs, np, tp, av, lg, pl, (tk + 1)) from enc_small (by decide) rfl rfl rfl rfl rfl] at ew_10 hf10__m___1_
            refine r_aload_n hC dX9_takes_119 rfl (j := 0) rfl ?_
            have h25b : (upd f c.toNatClampNeg ((f c.toNatClampNeg) - 1)) 25 = 0 := by
              rw [pk_un (by omega)]; exact h25
            have e7 : hRem (f, g, sl, op, lo) c.toNatClampNeg = ((upd f c.toNatClampNeg ((f c.toNatClampNeg) - 1)), (upd g c.toNatClampNeg (-1)), sl, op, lo) := by
              simp only [hRem, if_pos c82]
            have hT9 := hT e9
            rw [e7] at hT9
            refine r_callV hC (vs := []) vX9_takes_120 (sm_rests (d := d) hf10_m hf10__m___1_ h25b hop hlg hT9) hf10_m rfl rfl (by omega) (by omega) (by omega) (Nat.le_of_ble_eq_true rfl) (fun v_11 w_11 hP_11 hlen_11 => ?_) (fun _ _ h => h.elim)
            obtain ⟨hv_11, ew_11⟩ := hP_11
            rw [hv_11]
            have hf11_m : w_11[m]? = some (mO 10 [.int th, .int ch, .int ea, .int fa, .int sv0, .ref (m + 1), .ref (m + 2), .ref (m + 3), .ref (m + 4), .ref (m + 5), .ref (m + 6), .ref (m + 7), .ref (m + 8), .ref (m + 9), .ref (m + 10), .int tn, .int he, .int en, .int ln, .int iw, .int id0]) := by rw [ew_11, List.getElem?_set_ne (by omega)]; exact hf10_m
            have hf11__m___1_ : w_11[(m + 1)]? = some (mI 0 67 (enc (((sSettle (((upd f c.toNatClampNeg ((f c.toNatClampNeg) - 1)), (upd g c.toNatClampNeg (-1)), sl, op, lo), (upd hd q.toNatClampNeg ((hd q.toNatClampNeg) + 1)), rs, np, tp, av, lg, pl, (tk + 1))).1.1, (sSettle (((upd f c.toNatClampNeg ((f c.toNatClampNeg) - 1)), (upd g c.toNatClampNeg (-1)), sl, op, lo), (upd hd q.toNatClampNeg ((hd q.toNatClampNeg) + 1)), rs, np, tp, av, lg, pl, (tk + 1))).1.2.1, (sSettle (((upd f c.toNatClampNeg ((f c.toNatClampNeg) - 1)), (upd g c.toNatClampNeg (-1)), sl, op, lo), (upd hd q.toNatClampNeg ((hd q.toNatClampNeg) + 1)), rs, np, tp, av, lg, pl, (tk + 1))).1.2.2.1, (sSettle (((upd f c.toNatClampNeg ((f c.toNatClampNeg) - 1)), (upd g c.toNatClampNeg (-1)), sl, op, lo), (upd hd q.toNatClampNeg ((hd q.toNatClampNeg) + 1)), rs, np, tp, av, lg, pl, (tk + 1))).1.2.2.2.1, (sSettle (((upd f c.toNatClampNeg ((f c.toNatClampNeg) - 1)), (upd g c.toNatClampNeg (-1)), sl, op, lo), (upd hd q.toNatClampNeg ((hd q.toNatClampNeg) + 1)), rs, np, tp, av, lg, pl, (tk + 1))).1.2.2.2.2), (sSettle (((upd f c.toNatClampNeg ((f c.toNatClampNeg) - 1)), (upd g c.toNatClampNeg (-1)), sl, op, lo), (upd hd q.toNatClampNeg ((hd q.toNatClampNeg) + 1)), rs, np, tp, av, lg, pl, (tk + 1))).2.1, (sSettle (((upd f c.toNatClampNeg ((f c.toNatClampNeg) - 1)), (upd g c.toNatClampNeg (-1)), sl, op, lo), (upd hd q.toNatClampNeg ((hd q.toNatClampNeg) + 1)), rs, np, tp, av, lg, pl, (tk + 1))).2.2.1, np, (sSettle (((upd f c.toNatClampNeg ((f c.toNatClampNeg) - 1)), (upd g c.toNatClampNeg (-1)), sl, op, lo), (upd hd q.toNatClampNeg ((hd q.toNatClampNeg) + 1)), rs, np, tp, av, lg, pl, (tk + 1))).2.2.2.2.1, (sSettle (((upd f c.toNatClampNeg ((f c.toNatClampNeg) - 1)), (upd g c.toNatClampNeg (-1)), sl, op, lo), (upd hd q.toNatClampNeg ((hd q.toNatClampNeg) + 1)), rs, np, tp, av, lg, pl, (tk + 1))).2.2.2.2.2.1, (sSettle (((upd f c.toNatClampNeg ((f c.toNatClampNeg) - 1)), (upd g c.toNatClampNeg (-1)), sl, op, lo), (upd hd q.toNatClampNeg ((hd q.toNatClampNeg) + 1)), rs, np, tp, av, lg, pl, (tk + 1))).2.2.2.2.2.2.1, (sSettle (((upd f c.toNatClampNeg ((f c.toNatClampNeg) - 1)), (upd g c.toNatClampNeg (-1)), sl, op, lo), (upd hd q.toNatClampNeg ((hd q.toNatClampNeg) + 1)), rs, np, tp, av, lg, pl, (tk + 1))).2.2.2.2.2.2.2.1, (sSettle (((upd f c.toNatClampNeg ((f c.toNatClampNeg) - 1)), (upd g c.toNatClampNeg (-1)), sl, op, lo), (upd hd q.toNatClampNeg ((hd q.toNatClampNeg) + 1)), rs, np, tp, av, lg, pl, (tk + 1))).2.2.2.2.2.2.2.2))) := by rw [ew_11]; exact List.getElem?_set_self (lt_of_get hf10__m___1_)
            show Wp X 0 0 w_11 [(0, .ref m), (1, .int (nI q.toNatClampNeg)), (2, .int (nI c.toNatClampNeg))] [.int (nI (hRestF ((upd f c.toNatClampNeg ((f c.toNatClampNeg) - 1)), (upd g c.toNatClampNeg (-1)), sl, op, lo)).1)] 123
            refine r_iret hC hE hR dX9_takes_123 (by omega) (by omega) (by rw [ew_11, List.length_set, ew_10, List.length_set, ew_9, List.length_set, ew_8, List.length_set, ew_4, List.length_set]) ?_
            have e8 : sTake ((f, g, sl, op, lo), hd, rs, np, tp, av, lg, pl, tk) q.toNatClampNeg c.toNatClampNeg = sSettle (((upd f c.toNatClampNeg ((f c.toNatClampNeg) - 1)), (upd g c.toNatClampNeg (-1)), sl, op, lo), (upd hd q.toNatClampNeg ((hd q.toNatClampNeg) + 1)), rs, np, tp, av, lg, pl, (tk + 1)) := by
              show sSettle (hRem (f, g, sl, op, lo) c.toNatClampNeg, _, _, _, _) = _
              simp only [hRem, if_pos c82]
            exact Or.inl ⟨e9, by rw [e7], by rw [e8]; simp only [ew_11, ew_10, ew_9, ew_8, ew_4, List.set_set]⟩
        · refine r_aload_n hC dX9_takes_54 rfl (j := 0) rfl ?_
          refine r_iconst hC dX9_takes_55 (v := 3) (by decide) ?_
          refine r_callV hC (vs := [.int 3]) vX9_takes_56 (sm_fail (d := d + 5) (x := 3) hm) hm rfl rfl (by omega) (by omega) (by omega) (Nat.le_of_ble_eq_true rfl) (fun v_12 w_12 hP_12 hlen_12 => ?_) (fun _ _ h => h.elim)
          obtain ⟨hv_12, ew_12⟩ := hP_12
          rw [hv_12]
          have hf12_m : w_12[m]? = some (mO 10 [.int 3, .int ch, .int ea, .int fa, .int sv0, .ref (m + 1), .ref (m + 2), .ref (m + 3), .ref (m + 4), .ref (m + 5), .ref (m + 6), .ref (m + 7), .ref (m + 8), .ref (m + 9), .ref (m + 10), .int tn, .int he, .int en, .int ln, .int iw, .int id0]) := by rw [ew_12]; exact List.getElem?_set_self (lt_of_get hm)
          have hf12__m___1_ : w_12[(m + 1)]? = some (mI 0 67 (enc ((f, g, sl, op, lo), hd, rs, np, tp, av, lg, pl, tk))) := by rw [ew_12, List.getElem?_set_ne (by omega)]; exact hv
          show Wp X 0 0 w_12 [(0, .ref m), (1, .int (nI q.toNatClampNeg)), (2, .int (nI c.toNatClampNeg))] [.int 0] 59
          refine r_iret hC hE hR dX9_takes_59 (by omega) (by omega) (by rw [ew_12, List.length_set]) ?_
          have p1 : isP q np = true := bI_ne.mp c5
          have p2 : isC c = true := bI_ne.mp c12
          have p4 : ¬ g c.toNatClampNeg = q := fun z => c51 (by rw [← hq.2, z])
          have e9 : fltTake f g np q c = 1000015 := by
            simp [fltTake, p1, p2, c30, p4]
          exact Or.inr ⟨by rw [e9]; decide, rfl, by rw [e9, show nT 1000015 = 3 from by decide, ew_12]⟩
      · refine r_aload_n hC dX9_takes_33 rfl (j := 0) rfl ?_
        refine r_iconst hC dX9_takes_34 (v := 2) (by decide) ?_
        refine r_callV hC (vs := [.int 2]) vX9_takes_35 (sm_fail (d := d + 5) (x := 2) hm) hm rfl rfl (by omega) (by omega) (by omega) (Nat.le_of_ble_eq_true rfl) (fun v_13 w_13 hP_13 hlen_13 => ?_) (fun _ _ h => h.elim)
        obtain ⟨hv_13, ew_13⟩ := hP_13
        rw [hv_13]
        have hf13_m : w_13[m]? = some (mO 10 [.int 2, .int ch, .int ea, .int fa, .int sv0, .ref (m + 1), .ref (m + 2), .ref (m + 3), .ref (m + 4), .ref (m + 5), .ref (m + 6), .ref (m + 7), .ref (m + 8), .ref (m + 9), .ref (m + 10), .int tn, .int he, .int en, .int ln, .int iw, .int id0]) := by rw [ew_13]; exact List.getElem?_set_self (lt_of_get hm)
        have hf13__m___1_ : w_13[(m + 1)]? = some (mI 0 67 (enc ((f, g, sl, op, lo), hd, rs, np, tp, av, lg, pl, tk))) := by rw [ew_13, List.getElem?_set_ne (by omega)]; exact hv
        show Wp X 0 0 w_13 [(0, .ref m), (1, .int (nI q.toNatClampNeg)), (2, .int (nI c.toNatClampNeg))] [.int 0] 38
        refine r_iret hC hE hR dX9_takes_38 (by omega) (by omega) (by rw [ew_13, List.length_set]) ?_
        have p1 : isP q np = true := bI_ne.mp c5
        have p2 : isC c = true := bI_ne.mp c12
        have e9 : fltTake f g np q c = 1000014 := by
          simp [fltTake, p1, p2, c30]
        exact Or.inr ⟨by rw [e9]; decide, rfl, by rw [e9, show nT 1000014 = 2 from by decide, ew_13]⟩
    · refine r_aload_n hC dX9_takes_15 rfl (j := 0) rfl ?_
      refine r_iconst hC dX9_takes_16 (v := 1) (by decide) ?_
      refine r_callV hC (vs := [.int 1]) vX9_takes_17 (sm_fail (d := d + 5) (x := 1) hm) hm rfl rfl (by omega) (by omega) (by omega) (Nat.le_of_ble_eq_true rfl) (fun v_14 w_14 hP_14 hlen_14 => ?_) (fun _ _ h => h.elim)
      obtain ⟨hv_14, ew_14⟩ := hP_14
      rw [hv_14]
      have hf14_m : w_14[m]? = some (mO 10 [.int 1, .int ch, .int ea, .int fa, .int sv0, .ref (m + 1), .ref (m + 2), .ref (m + 3), .ref (m + 4), .ref (m + 5), .ref (m + 6), .ref (m + 7), .ref (m + 8), .ref (m + 9), .ref (m + 10), .int tn, .int he, .int en, .int ln, .int iw, .int id0]) := by rw [ew_14]; exact List.getElem?_set_self (lt_of_get hm)
      have hf14__m___1_ : w_14[(m + 1)]? = some (mI 0 67 (enc ((f, g, sl, op, lo), hd, rs, np, tp, av, lg, pl, tk))) := by rw [ew_14, List.getElem?_set_ne (by omega)]; exact hv
      show Wp X 0 0 w_14 [(0, .ref m), (1, .int q), (2, .int c)] [.int 0] 20
      refine r_iret hC hE hR dX9_takes_20 (by omega) (by omega) (by rw [ew_14, List.length_set]) ?_
      have p1 : isC c = false := bI_0.mp c12
      have e9 : fltTake f g np q c = 1000011 := by
        simp [fltTake, p1]
      exact Or.inr ⟨by rw [e9]; decide, rfl, by rw [e9, show nT 1000011 = 1 from by decide, ew_14]⟩
set_option maxRecDepth 100000 in
set_option maxHeartbeats 4000000 in
theorem sm_drops {d : Nat} {q c x : Int32} {w : mW} {m : Nat} {th ch ea fa sv0 tn he en ln iw id0 : Int32} {f g : Nat → Int32} {sl op lo : Int32} {hd rs : Nat → Int32} {np : Nat} {tp av lg pl tk : Int32} (hm : w[m]? = some (mO 10 [.int th, .int ch, .int ea, .int fa, .int sv0, .ref (m + 1), .ref (m + 2), .ref (m + 3), .ref (m + 4), .ref (m + 5), .ref (m + 6), .ref (m + 7), .ref (m + 8), .ref (m + 9), .ref (m + 10), .int tn, .int he, .int en, .int ln, .int iw, .int id0])) (hv : w[m + 1]? = some (mI 0 67 (enc ((f, g, sl, op, lo), hd, rs, np, tp, av, lg, pl, tk)))) (h25 : f 25 = 0) (hop : op = 0 ∨ op = 1) (hlg : ¬ lg < 0) (hnp : np ≤ 4) (hT : fltDrop f hd rs np q c x = 1000010 → hNx (hRestF (hPlace (f, g, sl, op, lo) c.toNatClampNeg x (nI q.toNatClampNeg))).2 = none) : Sp (d + 7) yX9_drops cX9_drops 6 (some .int) [.ref m, .int q, .int c, .int x] w 0 0 (fun v w' => (fltDrop f hd rs np q c x = 1000010 ∧ v = some (.int (sDropN ((f, g, sl, op, lo), hd, rs, np, tp, av, lg, pl, tk) c.toNatClampNeg x (nI q.toNatClampNeg))) ∧ w' = w.set (m + 1) (mI 0 67 (enc (sDrop ((f, g, sl, op, lo), hd, rs, np, tp, av, lg, pl, tk) q.toNatClampNeg c.toNatClampNeg x)))) ∨ (¬ fltDrop f hd rs np q c x = 1000010 ∧ v = some (.int 0) ∧ w' = w.set m (mO 10 [.int (nD (fltDrop f hd rs np q c x)), .int ch, .int ea, .int fa, .int sv0, .ref (m + 1), .ref (m + 2), .ref (m + 3), .ref (m + 4), .ref (m + 5), .ref (m + 6), .ref (m + 7), .ref (m + 8), .ref (m + 9), .ref (m + 10), .int tn, .int he, .int en, .int ln, .int iw, .int id0]))) noX := by
  refine Sp.of (by decide +kernel) (Nat.le_of_ble_eq_true rfl) (fun X hC hnl hE hR hN => ?_)
  have hC : Cx X RX9 cX9_drops (d + 7) 0 0 := hC
  show Wp X 0 0 w [(0, .ref m), (1, .int q), (2, .int c), (3, .int x)] [] 0
  refine r_aload_n hC dX9_drops_0 rfl (j := 0) rfl ?_
  refine r_iload_n hC dX9_drops_1 rfl (j := 1) rfl ?_
  refine r_callV hC (vs := [.int q]) vX9_drops_2 (sm_isPlayer (d := d + 5) hm hv hnp) hm rfl rfl (by omega) (by omega) (by omega) (Nat.le_of_ble_eq_true rfl) (fun v_1 w_1 hP_1 hlen_1 => ?_) (fun _ _ h => h.elim)
  rw [hP_1.1, hP_1.2]
  show Wp X 0 0 w [(0, .ref m), (1, .int q), (2, .int c), (3, .int x)] [.int (bI (isP q np))] 5
  refine r_if_eq hC dX9_drops_5 (tgt := 15) (by decide) (fun c5 => ?_) (fun c5 => ?_)
  · refine r_aload_n hC dX9_drops_15 rfl (j := 0) rfl ?_
    refine r_iconst hC dX9_drops_16 (v := 1) (by decide) ?_
    refine r_callV hC (vs := [.int 1]) vX9_drops_17 (sm_fail (d := d + 6) (x := 1) hm) hm rfl rfl (by omega) (by omega) (by omega) (Nat.le_of_ble_eq_true rfl) (fun v_2 w_2 hP_2 hlen_2 => ?_) (fun _ _ h => h.elim)
    obtain ⟨hv_2, ew_2⟩ := hP_2
    rw [hv_2]
    have hf2_m : w_2[m]? = some (mO 10 [.int 1, .int ch, .int ea, .int fa, .int sv0, .ref (m + 1), .ref (m + 2), .ref (m + 3), .ref (m + 4), .ref (m + 5), .ref (m + 6), .ref (m + 7), .ref (m + 8), .ref (m + 9), .ref (m + 10), .int tn, .int he, .int en, .int ln, .int iw, .int id0]) := by rw [ew_2]; exact List.getElem?_set_self (lt_of_get hm)
    have hf2__m___1_ : w_2[(m + 1)]? = some (mI 0 67 (enc ((f, g, sl, op, lo), hd, rs, np, tp, av, lg, pl, tk))) := by rw [ew_2, List.getElem?_set_ne (by omega)]; exact hv
    show Wp X 0 0 w_2 [(0, .ref m), (1, .int q), (2, .int c), (3, .int x)] [.int 0] 20
    refine r_iret hC hE hR dX9_drops_20 (by omega) (by omega) (by rw [ew_2, List.length_set]) ?_
    have p1 : isP q np = false := bI_0.mp c5
    have e9 : fltDrop f hd rs np q c x = 1000011 := by
      simp [fltDrop, fltPile, p1]
    exact Or.inr ⟨by rw [e9]; decide, rfl, by rw [e9, show nD 1000011 = 1 from by decide, ew_2]⟩
  · refine r_iload_n hC dX9_drops_8 rfl (j := 2) rfl ?_
    refine r_callS hC (vs := [.int c]) vX9_drops_9 (sm_isCell (d := d + 5)) rfl (by omega) (by omega) (by omega) (Nat.le_of_ble_eq_true rfl) (fun v_3 w_3 hP_3 hlen_3 => ?_) (fun _ _ h => h.elim)
    rw [hP_3.1, hP_3.2]
    show Wp X 0 0 w [(0, .ref m), (1, .int q), (2, .int c), (3, .int x)] [.int (bI (isC c))] 12
    refine r_if_ne hC dX9_drops_12 (tgt := 21) (by decide) (fun c12 => ?_) (fun c12 => ?_)
    · refine r_iload_n hC dX9_drops_21 rfl (j := 3) rfl ?_
      refine r_iconst hC dX9_drops_22 (v := 1) (by decide) ?_
      refine r_bipush hC dX9_drops_23 (v := 9) (by decide) ?_
      refine r_callS hC (vs := [.int x, .int 1, .int 9]) vX9_drops_25 (sm_isIn (d := d + 6)) rfl (by omega) (by omega) (by omega) (Nat.le_of_ble_eq_true rfl) (fun v_4 w_4 hP_4 hlen_4 => ?_) (fun _ _ h => h.elim)
      rw [hP_4.1, hP_4.2]
      show Wp X 0 0 w [(0, .ref m), (1, .int q), (2, .int c), (3, .int x)] [.int (bI (isI x 1 9))] 28
      refine r_if_ne hC dX9_drops_28 (tgt := 37) (by decide) (fun c28 => ?_) (fun c28 => ?_)
      · have p1 : isP q np = true := bI_ne.mp c5
        have p2 : isC c = true := bI_ne.mp c12
        have p3 : isS x = true := bI_ne.mp c28
        have hc := isC_lt p2
        have hc1 := hc.1
        have hq := isP_lt p1 hnp
        have hq1 : q.toNatClampNeg < 4 := by have := hq.1; omega
        rw [show Wp X 0 0 w [(0, .ref m), (1, .int q), (2, .int c), (3, .int x)] [] 37 = Wp X 0 0 w [(0, .ref m), (1, .int (nI q.toNatClampNeg)), (2, .int (nI c.toNatClampNeg)), (3, .int x)] [] 37 from by rw [← hc.2, ← hq.2]]
        refine r_aload_n hC dX9_drops_37 rfl (j := 0) rfl ?_
        refine r_get hC gX9_drops_38 hm (v := .ref (m + 1)) rfl ?_
        refine r_bipush hC dX9_drops_41 (v := 13) (by decide) ?_
        refine r_iload_n hC dX9_drops_43 rfl (j := 1) rfl ?_
        refine r_iadd hC dX9_drops_44 ?_
        refine r_iald hC dX9_drops_45 (j := (13 + q.toNatClampNeg)) hv (ix13 (c := q.toNatClampNeg) (by omega)) ?_
        rw [enc_rest (c := q.toNatClampNeg) (by omega)]
        refine r_if_gt hC dX9_drops_46 (tgt := 61) (by decide) (fun c46 => ?_) (fun c46 => ?_)
        · refine r_aload_n hC dX9_drops_61 rfl (j := 0) rfl ?_
          refine r_iconst hC dX9_drops_62 (v := 3) (by decide) ?_
          refine r_callV hC (vs := [.int 3]) vX9_drops_63 (sm_fail (d := d + 6) (x := 3) hm) hm rfl rfl (by omega) (by omega) (by omega) (Nat.le_of_ble_eq_true rfl) (fun v_5 w_5 hP_5 hlen_5 => ?_) (fun _ _ h => h.elim)
          obtain ⟨hv_5, ew_5⟩ := hP_5
          rw [hv_5]
          have hf5_m : w_5[m]? = some (mO 10 [.int 3, .int ch, .int ea, .int fa, .int sv0, .ref (m + 1), .ref (m + 2), .ref (m + 3), .ref (m + 4), .ref (m + 5), .ref (m + 6), .ref (m + 7), .ref (m + 8), .ref (m + 9), .ref (m + 10), .int tn, .int he, .int en, .int ln, .int iw, .int id0]) := by rw [ew_5]; exact List.getElem?_set_self (lt_of_get hm)
          have hf5__m___1_ : w_5[(m + 1)]? = some (mI 0 67 (enc ((f, g, sl, op, lo), hd, rs, np, tp, av, lg, pl, tk))) := by rw [ew_5, List.getElem?_set_ne (by omega)]; exact hv
          show Wp X 0 0 w_5 [(0, .ref m), (1, .int (nI q.toNatClampNeg)), (2, .int (nI c.toNatClampNeg)), (3, .int x)] [.int 0] 66
          refine r_iret hC hE hR dX9_drops_66 (by omega) (by omega) (by rw [ew_5, List.length_set]) ?_
          have p1 : isP q np = true := bI_ne.mp c5
          have p2 : isC c = true := bI_ne.mp c12
          have p3 : isS x = true := bI_ne.mp c28
          have p4 : ¬ rs q.toNatClampNeg ≤ 0 := Int32.not_le.mpr c46
          have e9 : fltDrop f hd rs np q c x = 1000013 := by
            simp [fltDrop, fltPile, p1, p2, p3, p4]
          exact Or.inr ⟨by rw [e9]; decide, rfl, by rw [e9, show nD 1000013 = 3 from by decide, ew_5]⟩
        · refine r_aload_n hC dX9_drops_49 rfl (j := 0) rfl ?_
          refine r_callV hC (vs := []) vX9_drops_50 (sm_stones (d := d + 6) hm hv) hm rfl rfl (by omega) (by omega) (by omega) (Nat.le_of_ble_eq_true rfl) (fun v_6 w_6 hP_6 hlen_6 => ?_) (fun _ _ h => h.elim)
          rw [hP_6.1, hP_6.2]
          show Wp X 0 0 w [(0, .ref m), (1, .int (nI q.toNatClampNeg)), (2, .int (nI c.toNatClampNeg)), (3, .int x)] [.int (hSum f 25)] 53
          refine r_iload_n hC dX9_drops_53 rfl (j := 3) rfl ?_
          refine r_iadd hC dX9_drops_54 ?_
          refine r_sipush hC dX9_drops_55 (v := 300) (by decide) ?_
          refine r_icmp_le hC dX9_drops_58 (tgt := 67) (by decide) (fun c58 => ?_) (fun c58 => ?_)
          · refine r_aload_n hC dX9_drops_67 rfl (j := 0) rfl ?_
            refine r_get hC gX9_drops_68 hm (v := .ref (m + 1)) rfl ?_
            refine r_bipush hC dX9_drops_71 (v := 9) (by decide) ?_
            refine r_iload_n hC dX9_drops_73 rfl (j := 1) rfl ?_
            refine r_iadd hC dX9_drops_74 ?_
            refine r_iald hC dX9_drops_75 (j := (9 + q.toNatClampNeg)) hv (ix9 (c := q.toNatClampNeg) (by omega)) ?_
            rw [enc_hand (c := q.toNatClampNeg) (by omega)]
            refine r_iload_n hC dX9_drops_76 rfl (j := 3) rfl ?_
            refine r_icmp_ge hC dX9_drops_77 (tgt := 86) (by decide) (fun c77 => ?_) (fun c77 => ?_)
            · have p4 : rs q.toNatClampNeg ≤ 0 := Int32.not_lt.mp c46
              have e9 : fltDrop f hd rs np q c x = 1000010 := by
                simp [fltDrop, fltPile, p1, p2, p3, c58, p4, c77]
              refine r_aload_n hC dX9_drops_86 rfl (j := 0) rfl ?_
              refine r_iload_n hC dX9_drops_87 rfl (j := 1) rfl ?_
              refine r_callV hC (vs := [.int (nI q.toNatClampNeg)]) vX9_drops_88 (sm_waits (d := d + 6) (ex := nI q.toNatClampNeg) hm hv hnp) hm rfl rfl (by omega) (by omega) (by omega) (Nat.le_of_ble_eq_true rfl) (fun v_7 w_7 hP_7 hlen_7 => ?_) (fun _ _ h => h.elim)
              obtain ⟨hv_7, ew_7⟩ := hP_7
              rw [hv_7]
              have hf7_m : w_7[m]? = some (mO 10 [.int th, .int ch, .int ea, .int fa, .int sv0, .ref (m + 1), .ref (m + 2), .ref (m + 3), .ref (m + 4), .ref (m + 5), .ref (m + 6), .ref (m + 7), .ref (m + 8), .ref (m + 9), .ref (m + 10), .int tn, .int he, .int en, .int ln, .int iw, .int id0]) := by rw [ew_7, List.getElem?_set_ne (by omega)]; exact hm
              have hf7__m___1_ : w_7[(m + 1)]? = some (mI 0 67 (enc ((f, g, sl, op, lo), hd, (sPass rs (nI q.toNatClampNeg) np), np, tp, av, lg, pl, tk))) := by rw [ew_7]; exact List.getElem?_set_self (lt_of_get hv)
              show Wp X 0 0 w_7 [(0, .ref m), (1, .int (nI q.toNatClampNeg)), (2, .int (nI c.toNatClampNeg)), (3, .int x)] [.int (hCnt (fun j => !decide (sPass rs (nI q.toNatClampNeg) np j ≤ 0)) np)] 91
              refine r_istore hC dX9_drops_91 (by rw [hnl]; decide) (L' := [(4, .int (hCnt (fun j => !decide (sPass rs (nI q.toNatClampNeg) np j ≤ 0)) np)), (0, .ref m), (1, .int (nI q.toNatClampNeg)), (2, .int (nI c.toNatClampNeg)), (3, .int x)]) rfl ?_
              refine r_aload_n hC dX9_drops_93 rfl (j := 1) rfl ?_
              refine r_get hC gX9_drops_94 hf7_m (v := .ref (m + 1)) rfl ?_
              refine r_bipush hC dX9_drops_97 (v := 9) (by decide) ?_
              refine r_iload_n hC dX9_drops_99 rfl (j := 2) rfl ?_
              refine r_iadd hC dX9_drops_100 ?_
              refine r_dup2 hC dX9_drops_101 rfl rfl ?_
              refine r_iald hC dX9_drops_102 (j := (9 + q.toNatClampNeg)) hf7__m___1_ (ix9 (c := q.toNatClampNeg) (by omega)) ?_
              rw [enc_hand (c := q.toNatClampNeg) (by omega)]
              refine r_iload_n hC dX9_drops_103 rfl (j := 4) rfl ?_
              refine r_isub hC dX9_drops_104 ?_
              refine r_iast' hC dX9_drops_105 (j := (9 + q.toNatClampNeg)) hf7__m___1_ (ix9 (c := q.toNatClampNeg) (by omega)) (fun w_8 ew_8 => ?_)
              have hf8_m : w_8[m]? = some (mO 10 [.int th, .int ch, .int ea, .int fa, .int sv0, .ref (m + 1), .ref (m + 2), .ref (m + 3), .ref (m + 4), .ref (m + 5), .ref (m + 6), .ref (m + 7), .ref (m + 8), .ref (m + 9), .ref (m + 10), .int tn, .int he, .int en, .int ln, .int iw, .int id0]) := by rw [ew_8, List.getElem?_set_ne (by omega)]; exact hf7_m
              have hf8__m___1_ : w_8[(m + 1)]? = some (mI 0 67 (upd (enc ((f, g, sl, op, lo), hd, (sPass rs (nI q.toNatClampNeg) np), np, tp, av, lg, pl, tk)) (9 + q.toNatClampNeg) ((hd q.toNatClampNeg) - x))) := by rw [ew_8]; exact List.getElem?_set_self (lt_of_get hf7__m___1_)
              rw [upd_hand (c := q.toNatClampNeg) (by omega)] at ew_8 hf8__m___1_
              refine r_aload_n hC dX9_drops_106 rfl (j := 1) rfl ?_
              refine r_iload_n hC dX9_drops_107 rfl (j := 3) rfl ?_
              refine r_iload_n hC dX9_drops_108 rfl (j := 4) rfl ?_
              refine r_iload_n hC dX9_drops_109 rfl (j := 2) rfl ?_
              refine r_iconst hC dX9_drops_110 (v := 1) (by decide) ?_
              refine r_iadd hC dX9_drops_111 ?_
              refine r_callV hC (vs := [.int (nI c.toNatClampNeg), .int x, .int ((nI q.toNatClampNeg) + 1)]) vX9_drops_112 (sm_heaps (d := d) (c := c.toNatClampNeg) (x := x) (t := nI q.toNatClampNeg) hf8_m hf8__m___1_ h25 hop hlg hc1 (hT e9)) hf8_m rfl rfl (by omega) (by omega) (by omega) (Nat.le_of_ble_eq_true rfl) (fun v_9 w_9 hP_9 hlen_9 => ?_) (fun _ _ h => h.elim)
              obtain ⟨hv_9, ew_9⟩ := hP_9
              rw [hv_9]
              have hf9_m : w_9[m]? = some (mO 10 [.int th, .int ch, .int ea, .int fa, .int sv0, .ref (m + 1), .ref (m + 2), .ref (m + 3), .ref (m + 4), .ref (m + 5), .ref (m + 6), .ref (m + 7), .ref (m + 8), .ref (m + 9), .ref (m + 10), .int tn, .int he, .int en, .int ln, .int iw, .int id0]) := by rw [ew_9, List.getElem?_set_ne (by omega)]; exact hf8_m
              have hf9__m___1_ : w_9[(m + 1)]? = some (mI 0 67 (enc (((sDropA ((f, g, sl, op, lo), hd, rs, np, tp, av, lg, pl, tk) q.toNatClampNeg c.toNatClampNeg x).1.1, (sDropA ((f, g, sl, op, lo), hd, rs, np, tp, av, lg, pl, tk) q.toNatClampNeg c.toNatClampNeg x).1.2.1, (sDropA ((f, g, sl, op, lo), hd, rs, np, tp, av, lg, pl, tk) q.toNatClampNeg c.toNatClampNeg x).1.2.2.1, (sDropA ((f, g, sl, op, lo), hd, rs, np, tp, av, lg, pl, tk) q.toNatClampNeg c.toNatClampNeg x).1.2.2.2.1, (sDropA ((f, g, sl, op, lo), hd, rs, np, tp, av, lg, pl, tk) q.toNatClampNeg c.toNatClampNeg x).1.2.2.2.2), (sDropA ((f, g, sl, op, lo), hd, rs, np, tp, av, lg, pl, tk) q.toNatClampNeg c.toNatClampNeg x).2.1, (sDropA ((f, g, sl, op, lo), hd, rs, np, tp, av, lg, pl, tk) q.toNatClampNeg c.toNatClampNeg x).2.2.1, np, (sDropA ((f, g, sl, op, lo), hd, rs, np, tp, av, lg, pl, tk) q.toNatClampNeg c.toNatClampNeg x).2.2.2.2.1, (sDropA ((f, g, sl, op, lo), hd, rs, np, tp, av, lg, pl, tk) q.toNatClampNeg c.toNatClampNeg x).2.2.2.2.2.1, (sDropA ((f, g, sl, op, lo), hd, rs, np, tp, av, lg, pl, tk) q.toNatClampNeg c.toNatClampNeg x).2.2.2.2.2.2.1, (sDropA ((f, g, sl, op, lo), hd, rs, np, tp, av, lg, pl, tk) q.toNatClampNeg c.toNatClampNeg x).2.2.2.2.2.2.2.1, (sDropA ((f, g, sl, op, lo), hd, rs, np, tp, av, lg, pl, tk) q.toNatClampNeg c.toNatClampNeg x).2.2.2.2.2.2.2.2))) := by rw [ew_9]; exact List.getElem?_set_self (lt_of_get hf8__m___1_)
              show Wp X 0 0 w_9 [(4, .int (hCnt (fun j => !decide (sPass rs (nI q.toNatClampNeg) np j ≤ 0)) np)), (0, .ref m), (1, .int (nI q.toNatClampNeg)), (2, .int (nI c.toNatClampNeg)), (3, .int x)] [.int (sDropN ((f, g, sl, op, lo), hd, rs, np, tp, av, lg, pl, tk) c.toNatClampNeg x (nI q.toNatClampNeg))] 115
              refine r_istore hC dX9_drops_115 (by rw [hnl]; decide) (L' := [(5, .int (sDropN ((f, g, sl, op, lo), hd, rs, np, tp, av, lg, pl, tk) c.toNatClampNeg x (nI q.toNatClampNeg))), (4, .int (hCnt (fun j => !decide (sPass rs (nI q.toNatClampNeg) np j ≤ 0)) np)), (0, .ref m), (1, .int (nI q.toNatClampNeg)), (2, .int (nI c.toNatClampNeg)), (3, .int x)]) rfl ?_
              refine r_iload hC dX9_drops_117 (j := 0) rfl ?_
              refine r_if_le hC dX9_drops_119 (tgt := 135) (by decide) (fun c119 => ?_) (fun c119 => ?_)
              · refine r_iload hC dX9_drops_135 (j := 0) rfl ?_
                refine r_iret hC hE hR dX9_drops_137 (by omega) (by omega) (by rw [ew_9, List.length_set, ew_8, List.length_set, ew_7, List.length_set]) ?_
                have e8 : sDrop ((f, g, sl, op, lo), hd, rs, np, tp, av, lg, pl, tk) q.toNatClampNeg c.toNatClampNeg x = sDropA ((f, g, sl, op, lo), hd, rs, np, tp, av, lg, pl, tk) q.toNatClampNeg c.toNatClampNeg x := if_pos c119
                exact Or.inl ⟨e9, rfl, by rw [e8, ew_9, ew_8, ew_7]; simp only [List.set_set]; rfl⟩
              · refine r_aload_n hC dX9_drops_122 rfl (j := 2) rfl ?_
                refine r_get hC gX9_drops_123 hf9_m (v := .ref (m + 1)) rfl ?_
                refine r_bipush hC dX9_drops_126 (v := 13) (by decide) ?_
                refine r_iload_n hC dX9_drops_128 rfl (j := 3) rfl ?_
                refine r_iadd hC dX9_drops_129 ?_
                refine r_iload hC dX9_drops_130 (j := 0) rfl ?_
                refine r_iconst hC dX9_drops_132 (v := 4) (by decide) ?_
                refine r_idiv hC dX9_drops_133 (by decide) ?_
                refine r_iast' hC dX9_drops_134 (j := (13 + q.toNatClampNeg)) hf9__m___1_ (ix13 (c := q.toNatClampNeg) (by omega)) (fun w_10 ew_10 => ?_)
                have hf10_m : w_10[m]? = some (mO 10 [.int th, .int ch, .int ea, .int fa, .int sv0, .ref (m + 1), .ref (m + 2), .ref (m + 3), .ref (m + 4), .ref (m + 5), .ref (m + 6), .ref (m + 7), .ref (m + 8), .ref (m + 9), .ref (m + 10), .int tn, .int he, .int en, .int ln, .int iw, .int id0]) := by rw [ew_10, List.getElem?_set_ne (by omega)]; exact hf9_m
                have hf10__m___1_ : w_10[(m + 1)]? = some (mI 0 67 (upd (enc (((sDropA ((f, g, sl, op, lo), hd, rs, np, tp, av, lg, pl, tk) q.toNatClampNeg c.toNatClampNeg x).1.1, (sDropA ((f, g, sl, op, lo), hd, rs, np, tp, av, lg, pl, tk) q.toNatClampNeg c.toNatClampNeg x).1.2.1, (sDropA ((f, g, sl, op, lo), hd, rs, np, tp, av, lg, pl, tk) q.toNatClampNeg c.toNatClampNeg x).1.2.2.1, (sDropA ((f, g, sl, op, lo), hd, rs, np, tp, av, lg, pl, tk) q.toNatClampNeg c.toNatClampNeg x).1.2.2.2.1, (sDropA ((f, g, sl, op, lo), hd, rs, np, tp, av, lg, pl, tk) q.toNatClampNeg c.toNatClampNeg x).1.2.2.2.2), (sDropA ((f, g, sl, op, lo), hd, rs, np, tp, av, lg, pl, tk) q.toNatClampNeg c.toNatClampNeg x).2.1, (sDropA ((f, g, sl, op, lo), hd, rs, np, tp, av, lg, pl, tk) q.toNatClampNeg c.toNatClampNeg x).2.2.1, np, (sDropA ((f, g, sl, op, lo), hd, rs, np, tp, av, lg, pl, tk) q.toNatClampNeg c.toNatClampNeg x).2.2.2.2.1, (sDropA ((f, g, sl, op, lo), hd, rs, np, tp, av, lg, pl, tk) q.toNatClampNeg c.toNatClampNeg x).2.2.2.2.2.1, (sDropA ((f, g, sl, op, lo), hd, rs, np, tp, av, lg, pl, tk) q.toNatClampNeg c.toNatClampNeg x).2.2.2.2.2.2.1, (sDropA ((f, g, sl, op, lo), hd, rs, np, tp, av, lg, pl, tk) q.toNatClampNeg c.toNatClampNeg x).2.2.2.2.2.2.2.1, (sDropA ((f, g, sl, op, lo), hd, rs, np, tp, av, lg, pl, tk) q.toNatClampNeg c.toNatClampNeg x).2.2.2.2.2.2.2.2)) (13 + q.toNatClampNeg) ((sDropN ((f, g, sl, op, lo), hd, rs, np, tp, av, lg, pl, tk) c.toNatClampNeg x (nI q.toNatClampNeg)) / 4))) := by rw [ew_10]; exact List.getElem?_set_self (lt_of_get hf9__m___1_)
                rw [upd_rest (c := q.toNatClampNeg) (by omega)] at ew_10 hf10__m___1_
                refine r_iload hC dX9_drops_135 (j := 0) rfl ?_
                refine r_iret hC hE hR dX9_drops_137 (by omega) (by omega) (by rw [ew_10, List.length_set, ew_9, List.length_set, ew_8, List.length_set, ew_7, List.length_set]) ?_
                have e8 : sDrop ((f, g, sl, op, lo), hd, rs, np, tp, av, lg, pl, tk) q.toNatClampNeg c.toNatClampNeg x = ((sDropA ((f, g, sl, op, lo), hd, rs, np, tp, av, lg, pl, tk) q.toNatClampNeg c.toNatClampNeg x).1, (sDropA ((f, g, sl, op, lo), hd, rs, np, tp, av, lg, pl, tk) q.toNatClampNeg c.toNatClampNeg x).2.1, upd (sDropA ((f, g, sl, op, lo), hd, rs, np, tp, av, lg, pl, tk) q.toNatClampNeg c.toNatClampNeg x).2.2.1 q.toNatClampNeg (sDropN ((f, g, sl, op, lo), hd, rs, np, tp, av, lg, pl, tk) c.toNatClampNeg x (nI q.toNatClampNeg) / 4), (sDropA ((f, g, sl, op, lo), hd, rs, np, tp, av, lg, pl, tk) q.toNatClampNeg c.toNatClampNeg x).2.2.2.1, (sDropA ((f, g, sl, op, lo), hd, rs, np, tp, av, lg, pl, tk) q.toNatClampNeg c.toNatClampNeg x).2.2.2.2) := if_neg c119
                exact Or.inl ⟨e9, rfl, by rw [e8, ew_10, ew_9, ew_8, ew_7]; simp only [List.set_set]; rfl⟩
            · refine r_aload_n hC dX9_drops_80 rfl (j := 0) rfl ?_
              refine r_iconst hC dX9_drops_81 (v := 4) (by decide) ?_
              refine r_callV hC (vs := [.int 4]) vX9_drops_82 (sm_fail (d := d + 6) (x := 4) hm) hm rfl rfl (by omega) (by omega) (by omega) (Nat.le_of_ble_eq_true rfl) (fun v_11 w_11 hP_11 hlen_11 => ?_) (fun _ _ h => h.elim)
              obtain ⟨hv_11, ew_11⟩ := hP_11
              rw [hv_11]
              have hf11_m : w_11[m]? = some (mO 10 [.int 4, .int ch, .int ea, .int fa, .int sv0, .ref (m + 1), .ref (m + 2), .ref (m + 3), .ref (m + 4), .ref (m + 5), .ref (m + 6), .ref (m + 7), .ref (m + 8), .ref (m + 9), .ref (m + 10), .int tn, .int he, .int en, .int ln, .int iw, .int id0]) := by rw [ew_11]; exact List.getElem?_set_self (lt_of_get hm)
              have hf11__m___1_ : w_11[(m + 1)]? = some (mI 0 67 (enc ((f, g, sl, op, lo), hd, rs, np, tp, av, lg, pl, tk))) := by rw [ew_11, List.getElem?_set_ne (by omega)]; exact hv
              show Wp X 0 0 w_11 [(0, .ref m), (1, .int (nI q.toNatClampNeg)), (2, .int (nI c.toNatClampNeg)), (3, .int x)] [.int 0] 85
              refine r_iret hC hE hR dX9_drops_85 (by omega) (by omega) (by rw [ew_11, List.length_set]) ?_
              have p1 : isP q np = true := bI_ne.mp c5
              have p2 : isC c = true := bI_ne.mp c12
              have p3 : isS x = true := bI_ne.mp c28
              have p4 : rs q.toNatClampNeg ≤ 0 := Int32.not_lt.mp c46
              have e9 : fltDrop f hd rs np q c x = 1000015 := by
                simp [fltDrop, fltPile, p1, p2, p3, c58, p4, c77]
              exact Or.inr ⟨by rw [e9]; decide, rfl, by rw [e9, show nD 1000015 = 4 from by decide, ew_11]⟩
          · refine r_aload_n hC dX9_drops_61 rfl (j := 0) rfl ?_
            refine r_iconst hC dX9_drops_62 (v := 3) (by decide) ?_
            refine r_callV hC (vs := [.int 3]) vX9_drops_63 (sm_fail (d := d + 6) (x := 3) hm) hm rfl rfl (by omega) (by omega) (by omega) (Nat.le_of_ble_eq_true rfl) (fun v_12 w_12 hP_12 hlen_12 => ?_) (fun _ _ h => h.elim)
            obtain ⟨hv_12, ew_12⟩ := hP_12
            rw [hv_12]
            have hf12_m : w_12[m]? = some (mO 10 [.int 3, .int ch, .int ea, .int fa, .int sv0, .ref (m + 1), .ref (m + 2), .ref (m + 3), .ref (m + 4), .ref (m + 5), .ref (m + 6), .ref (m + 7), .ref (m + 8), .ref (m + 9), .ref (m + 10), .int tn, .int he, .int en, .int ln, .int iw, .int id0]) := by rw [ew_12]; exact List.getElem?_set_self (lt_of_get hm)
            have hf12__m___1_ : w_12[(m + 1)]? = some (mI 0 67 (enc ((f, g, sl, op, lo), hd, rs, np, tp, av, lg, pl, tk))) := by rw [ew_12, List.getElem?_set_ne (by omega)]; exact hv
            show Wp X 0 0 w_12 [(0, .ref m), (1, .int (nI q.toNatClampNeg)), (2, .int (nI c.toNatClampNeg)), (3, .int x)] [.int 0] 66
            refine r_iret hC hE hR dX9_drops_66 (by omega) (by omega) (by rw [ew_12, List.length_set]) ?_
            have p1 : isP q np = true := bI_ne.mp c5
            have p2 : isC c = true := bI_ne.mp c12
            have p3 : isS x = true := bI_ne.mp c28
            have e9 : fltDrop f hd rs np q c x = 1000013 := by
              simp [fltDrop, fltPile, p1, p2, p3, c58]
            exact Or.inr ⟨by rw [e9]; decide, rfl, by rw [e9, show nD 1000013 = 3 from by decide, ew_12]⟩
      · refine r_aload_n hC dX9_drops_31 rfl (j := 0) rfl ?_
        refine r_iconst hC dX9_drops_32 (v := 2) (by decide) ?_
        refine r_callV hC (vs := [.int 2]) vX9_drops_33 (sm_fail (d := d + 6) (x := 2) hm) hm rfl rfl (by omega) (by omega) (by omega) (Nat.le_of_ble_eq_true rfl) (fun v_13 w_13 hP_13 hlen_13 => ?_) (fun _ _ h => h.elim)
        obtain ⟨hv_13, ew_13⟩ := hP_13
        rw [hv_13]
        have hf13_m : w_13[m]? = some (mO 10 [.int 2, .int ch, .int ea, .int fa, .int sv0, .ref (m + 1), .ref (m + 2), .ref (m + 3), .ref (m + 4), .ref (m + 5), .ref (m + 6), .ref (m + 7), .ref (m + 8), .ref (m + 9), .ref (m + 10), .int tn, .int he, .int en, .int ln, .int iw, .int id0]) := by rw [ew_13]; exact List.getElem?_set_self (lt_of_get hm)
        have hf13__m___1_ : w_13[(m + 1)]? = some (mI 0 67 (enc ((f, g, sl, op, lo), hd, rs, np, tp, av, lg, pl, tk))) := by rw [ew_13, List.getElem?_set_ne (by omega)]; exact hv
        show Wp X 0 0 w_13 [(0, .ref m), (1, .int q), (2, .int c), (3, .int x)] [.int 0] 36
        refine r_iret hC hE hR dX9_drops_36 (by omega) (by omega) (by rw [ew_13, List.length_set]) ?_
        have p1 : isP q np = true := bI_ne.mp c5
        have p2 : isC c = true := bI_ne.mp c12
        have p3 : isS x = false := bI_0.mp c28
        have e9 : fltDrop f hd rs np q c x = 1000012 := by
          simp [fltDrop, fltPile, p1, p2, p3]
        exact Or.inr ⟨by rw [e9]; decide, rfl, by rw [e9, show nD 1000012 = 2 from by decide, ew_13]⟩
    · refine r_aload_n hC dX9_drops_15 rfl (j := 0) rfl ?_
      refine r_iconst hC dX9_drops_16 (v := 1) (by decide) ?_
      refine r_callV hC (vs := [.int 1]) vX9_drops_17 (sm_fail (d := d + 6) (x := 1) hm) hm rfl rfl (by omega) (by omega) (by omega) (Nat.le_of_ble_eq_true rfl) (fun v_14 w_14 hP_14 hlen_14 => ?_) (fun _ _ h => h.elim)
      obtain ⟨hv_14, ew_14⟩ := hP_14
      rw [hv_14]
      have hf14_m : w_14[m]? = some (mO 10 [.int 1, .int ch, .int ea, .int fa, .int sv0, .ref (m + 1), .ref (m + 2), .ref (m + 3), .ref (m + 4), .ref (m + 5), .ref (m + 6), .ref (m + 7), .ref (m + 8), .ref (m + 9), .ref (m + 10), .int tn, .int he, .int en, .int ln, .int iw, .int id0]) := by rw [ew_14]; exact List.getElem?_set_self (lt_of_get hm)
      have hf14__m___1_ : w_14[(m + 1)]? = some (mI 0 67 (enc ((f, g, sl, op, lo), hd, rs, np, tp, av, lg, pl, tk))) := by rw [ew_14, List.getElem?_set_ne (by omega)]; exact hv
      show Wp X 0 0 w_14 [(0, .ref m), (1, .int q), (2, .int c), (3, .int x)] [.int 0] 20
      refine r_iret hC hE hR dX9_drops_20 (by omega) (by omega) (by rw [ew_14, List.length_set]) ?_
      have p1 : isC c = false := bI_0.mp c12
      have e9 : fltDrop f hd rs np q c x = 1000011 := by
        simp [fltDrop, fltPile, p1]
      exact Or.inr ⟨by rw [e9]; decide, rfl, by rw [e9, show nD 1000011 = 1 from by decide, ew_14]⟩
end MD5
