section MD4
/-- the place of an exception among those that a call can throw -/
def nE (h : Nat) : Int32 := if h = 1000012 then 1 else 2
def nD (h : Nat) : Int32 := if h = 1000011 then 1 else if h = 1000012 then 2 else if h = 1000013 then 3 else 4
def nT (h : Nat) : Int32 := if h = 1000011 then 1 else if h = 1000014 then 2 else 3
theorem bI_T {b : Bool} (h : ¬ bI b = 0) : b = true := bI_ne.mp h
set_option maxRecDepth 100000 in
set_option maxHeartbeats 4000000 in
theorem sm_heaps {d c : Nat} {x t : Int32} {w : mW} {m : Nat} {th ch ea fa sv0 tn he en ln iw id0 : Int32} {f g : Nat → Int32} {sl op lo : Int32} {hd rs : Nat → Int32} {np : Nat} {tp av lg pl tk : Int32} (hm : w[m]? = some (mO 10 [.int th, .int ch, .int ea, .int fa, .int sv0, .ref (m + 1), .ref (m + 2), .ref (m + 3), .ref (m + 4), .ref (m + 5), .ref (m + 6), .ref (m + 7), .ref (m + 8), .ref (m + 9), .ref (m + 10), .int tn, .int he, .int en, .int ln, .int iw, .int id0])) (hv : w[m + 1]? = some (mI 0 67 (enc ((f, g, sl, op, lo), hd, rs, np, tp, av, lg, pl, tk)))) (h25 : f 25 = 0) (hop : op = 0 ∨ op = 1) (hlg : ¬ lg < 0) (hc : c < 25) (hT : hNx (hRestF (hPlace (f, g, sl, op, lo) c x t)).2 = none) : Sp (d + 6) yX9_heaps cX9_heaps 4 (some .int) [.ref m, .int (nI c), .int x, .int (t + 1)] w 0 0 (fun v w' => v = some (.int (sDropN ((f, g, sl, op, lo), hd, rs, np, tp, av, lg, pl, tk) c x t)) ∧ w' = w.set (m + 1) (mI 0 67 (enc (sSettle ((hPlace (f, g, sl, op, lo) c x t), hd, rs, np, tp, av, lg, pl + x, tk))))) noX := by
  refine Sp.of (by decide +kernel) (Nat.le_of_ble_eq_true rfl) (fun X hC hnl hE hR hN => ?_)
  have hC : Cx X RX9 cX9_heaps (d + 6) 0 0 := hC
  show Wp X 0 0 w [(0, .ref m), (1, .int (nI c)), (2, .int x), (3, .int (t + 1))] [] 0
  refine r_aload_n hC dX9_heaps_0 rfl (j := 0) rfl ?_
  refine r_get hC gX9_heaps_1 hm (v := .ref (m + 1)) rfl ?_
  refine r_bipush hC dX9_heaps_4 (v := 17) (by decide) ?_
  refine r_iload_n hC dX9_heaps_6 rfl (j := 1) rfl ?_
  refine r_iadd hC dX9_heaps_7 ?_
  refine r_dup2 hC dX9_heaps_8 rfl rfl ?_
  refine r_iald hC dX9_heaps_9 (j := (17 + c)) hv (ix17 (c := c) (by omega)) ?_
  rw [enc_hi (c := c) (by omega)]
  refine r_iload_n hC dX9_heaps_10 rfl (j := 2) rfl ?_
  refine r_iadd hC dX9_heaps_11 ?_
  refine r_iast' hC dX9_heaps_12 (j := (17 + c)) hv (ix17 (c := c) (by omega)) (fun w_1 ew_1 => ?_)
  have hf1_m : w_1[m]? = some (mO 10 [.int th, .int ch, .int ea, .int fa, .int sv0, .ref (m + 1), .ref (m + 2), .ref (m + 3), .ref (m + 4), .ref (m + 5), .ref (m + 6), .ref (m + 7), .ref (m + 8), .ref (m + 9), .ref (m + 10), .int tn, .int he, .int en, .int ln, .int iw, .int id0]) := by rw [ew_1, List.getElem?_set_ne (by omega)]; exact hm
  have hf1__m___1_ : w_1[(m + 1)]? = some (mI 0 67 (upd (enc ((f, g, sl, op, lo), hd, rs, np, tp, av, lg, pl, tk)) (17 + c) ((f c) + x))) := by rw [ew_1]; exact List.getElem?_set_self (lt_of_get hv)
  rw [upd_hi (c := c) (by omega)] at ew_1 hf1__m___1_
  refine r_aload_n hC dX9_heaps_13 rfl (j := 0) rfl ?_
  refine r_get hC gX9_heaps_14 hf1_m (v := .ref (m + 1)) rfl ?_
  refine r_bipush hC dX9_heaps_17 (v := 42) (by decide) ?_
  refine r_iload_n hC dX9_heaps_19 rfl (j := 1) rfl ?_
  refine r_iadd hC dX9_heaps_20 ?_
  refine r_iload_n hC dX9_heaps_21 rfl (j := 3) rfl ?_
  refine r_iast' hC dX9_heaps_22 (j := (42 + c)) hf1__m___1_ (ix42 (c := c) (by omega)) (fun w_2 ew_2 => ?_)
  have hf2_m : w_2[m]? = some (mO 10 [.int th, .int ch, .int ea, .int fa, .int sv0, .ref (m + 1), .ref (m + 2), .ref (m + 3), .ref (m + 4), .ref (m + 5), .ref (m + 6), .ref (m + 7), .ref (m + 8), .ref (m + 9), .ref (m + 10), .int tn, .int he, .int en, .int ln, .int iw, .int id0]) := by rw [ew_2, List.getElem?_set_ne (by omega)]; exact hf1_m
  have hf2__m___1_ : w_2[(m + 1)]? = some (mI 0 67 (upd (enc (((upd f c ((f c) + x)), g, sl, op, lo), hd, rs, np, tp, av, lg, pl, tk)) (42 + c) (t + 1))) := by rw [ew_2]; exact List.getElem?_set_self (lt_of_get hf1__m___1_)
  rw [upd_ow (c := c) (x := t) (by omega)] at ew_2 hf2__m___1_
  refine r_aload_n hC dX9_heaps_23 rfl (j := 0) rfl ?_
  refine r_get hC gX9_heaps_24 hf2_m (v := .ref (m + 1)) rfl ?_
  refine r_bipush hC dX9_heaps_27 (v := 6) (by decide) ?_
  refine r_dup2 hC dX9_heaps_29 rfl rfl ?_
  refine r_iald hC dX9_heaps_30 (j := 6) hf2__m___1_ ⟨by decide, by decide, by decide⟩ ?_
  rw [show enc (((upd f c ((f c) + x)), (upd g c t), sl, op, lo), hd, rs, np, tp, av, lg, pl, tk) 6 = pl from rfl]
  refine r_iload_n hC dX9_heaps_31 rfl (j := 2) rfl ?_
  refine r_iadd hC dX9_heaps_32 ?_
  refine r_iast' hC dX9_heaps_33 (j := 6) hf2__m___1_ ⟨by decide, by decide, by decide⟩ (fun w_3 ew_3 => ?_)
  have hf3_m : w_3[m]? = some (mO 10 [.int th, .int ch, .int ea, .int fa, .int sv0, .ref (m + 1), .ref (m + 2), .ref (m + 3), .ref (m + 4), .ref (m + 5), .ref (m + 6), .ref (m + 7), .ref (m + 8), .ref (m + 9), .ref (m + 10), .int tn, .int he, .int en, .int ln, .int iw, .int id0]) := by rw [ew_3, List.getElem?_set_ne (by omega)]; exact hf2_m
  have hf3__m___1_ : w_3[(m + 1)]? = some (mI 0 67 (upd (enc (((upd f c ((f c) + x)), (upd g c t), sl, op, lo), hd, rs, np, tp, av, lg, pl, tk)) 6 (pl + x))) := by rw [ew_3]; exact List.getElem?_set_self (lt_of_get hf2__m___1_)
  rw [show upd (enc (((upd f c ((f c) + x)), (upd g c t), sl, op, lo), hd, rs, np, tp, av, lg, pl, tk)) 6 (pl + x) = enc (((upd f c ((f c) + x)), (upd g c t), sl, op, lo), hd, rs, np, tp, av, lg, (pl + x), tk) from enc_small (by decide) rfl rfl rfl rfl rfl] at ew_3 hf3__m___1_
  refine r_aload_n hC dX9_heaps_34 rfl (j := 0) rfl ?_
  have h25b : ((hPlace (f, g, sl, op, lo) c x t)).1 25 = 0 := by
    show upd f c (f c + x) 25 = 0
    rw [pk_un (by omega)]; exact h25
  refine r_callV hC (vs := []) vX9_heaps_35 (sm_rests (d := d) hf3_m hf3__m___1_ h25b hop hlg hT) hf3_m rfl rfl (by omega) (by omega) (by omega) (Nat.le_of_ble_eq_true rfl) (fun v_4 w_4 hP_4 hlen_4 => ?_) (fun _ _ h => h.elim)
  obtain ⟨hv_4, ew_4⟩ := hP_4
  rw [hv_4]
  have hf4_m : w_4[m]? = some (mO 10 [.int th, .int ch, .int ea, .int fa, .int sv0, .ref (m + 1), .ref (m + 2), .ref (m + 3), .ref (m + 4), .ref (m + 5), .ref (m + 6), .ref (m + 7), .ref (m + 8), .ref (m + 9), .ref (m + 10), .int tn, .int he, .int en, .int ln, .int iw, .int id0]) := by rw [ew_4, List.getElem?_set_ne (by omega)]; exact hf3_m
  have hf4__m___1_ : w_4[(m + 1)]? = some (mI 0 67 (enc (((sSettle ((hPlace (f, g, sl, op, lo) c x t), hd, rs, np, tp, av, lg, pl + x, tk)).1.1, (sSettle ((hPlace (f, g, sl, op, lo) c x t), hd, rs, np, tp, av, lg, pl + x, tk)).1.2.1, (sSettle ((hPlace (f, g, sl, op, lo) c x t), hd, rs, np, tp, av, lg, pl + x, tk)).1.2.2.1, (sSettle ((hPlace (f, g, sl, op, lo) c x t), hd, rs, np, tp, av, lg, pl + x, tk)).1.2.2.2.1, (sSettle ((hPlace (f, g, sl, op, lo) c x t), hd, rs, np, tp, av, lg, pl + x, tk)).1.2.2.2.2), (sSettle ((hPlace (f, g, sl, op, lo) c x t), hd, rs, np, tp, av, lg, pl + x, tk)).2.1, (sSettle ((hPlace (f, g, sl, op, lo) c x t), hd, rs, np, tp, av, lg, pl + x, tk)).2.2.1, np, (sSettle ((hPlace (f, g, sl, op, lo) c x t), hd, rs, np, tp, av, lg, pl + x, tk)).2.2.2.2.1, (sSettle ((hPlace (f, g, sl, op, lo) c x t), hd, rs, np, tp, av, lg, pl + x, tk)).2.2.2.2.2.1, (sSettle ((hPlace (f, g, sl, op, lo) c x t), hd, rs, np, tp, av, lg, pl + x, tk)).2.2.2.2.2.2.1, (sSettle ((hPlace (f, g, sl, op, lo) c x t), hd, rs, np, tp, av, lg, pl + x, tk)).2.2.2.2.2.2.2.1, (sSettle ((hPlace (f, g, sl, op, lo) c x t), hd, rs, np, tp, av, lg, pl + x, tk)).2.2.2.2.2.2.2.2))) := by rw [ew_4]; exact List.getElem?_set_self (lt_of_get hf3__m___1_)
  show Wp X 0 0 w_4 [(0, .ref m), (1, .int (nI c)), (2, .int x), (3, .int (t + 1))] [.int (sDropN ((f, g, sl, op, lo), hd, rs, np, tp, av, lg, pl, tk) c x t)] 38
  refine r_iret hC hE hR dX9_heaps_38 (by omega) (by omega) (by rw [ew_4, List.length_set, ew_3, List.length_set, ew_2, List.length_set, ew_1, List.length_set]) ?_
  exact ⟨rfl, by simp only [ew_4, ew_3, ew_2, ew_1, List.set_set]; rfl⟩
set_option maxRecDepth 100000 in
set_option maxHeartbeats 4000000 in
theorem sm_adds {d : Nat} {x : Int32} {w : mW} {m : Nat} {th ch ea fa sv0 tn he en ln iw id0 : Int32} {f g : Nat → Int32} {sl op lo : Int32} {hd rs : Nat → Int32} {np : Nat} {tp av lg pl tk : Int32} (hm : w[m]? = some (mO 10 [.int th, .int ch, .int ea, .int fa, .int sv0, .ref (m + 1), .ref (m + 2), .ref (m + 3), .ref (m + 4), .ref (m + 5), .ref (m + 6), .ref (m + 7), .ref (m + 8), .ref (m + 9), .ref (m + 10), .int tn, .int he, .int en, .int ln, .int iw, .int id0])) (hv : w[m + 1]? = some (mI 0 67 (enc ((f, g, sl, op, lo), hd, rs, np, tp, av, lg, pl, tk)))) (hnp : np ≤ 4) : Sp (d + 1) yX9_adds cX9_adds 3 (some .int) [.ref m, .int x] w 0 0 (fun v w' => (fltEntry np x = 1000010 ∧ v = some (.int (nI np)) ∧ w' = w.set (m + 1) (mI 0 67 (enc ((f, g, sl, op, lo), upd hd np x, upd rs np 0, np + 1, (tp, av, lg, pl, tk))))) ∨ (¬ fltEntry np x = 1000010 ∧ v = some (.int 0) ∧ w' = w.set m (mO 10 [.int (nE (fltEntry np x)), .int ch, .int ea, .int fa, .int sv0, .ref (m + 1), .ref (m + 2), .ref (m + 3), .ref (m + 4), .ref (m + 5), .ref (m + 6), .ref (m + 7), .ref (m + 8), .ref (m + 9), .ref (m + 10), .int tn, .int he, .int en, .int ln, .int iw, .int id0]))) noX := by
  refine Sp.of (by decide +kernel) (Nat.le_of_ble_eq_true rfl) (fun X hC hnl hE hR hN => ?_)
  have hC : Cx X RX9 cX9_adds (d + 1) 0 0 := hC
  show Wp X 0 0 w [(0, .ref m), (1, .int x)] [] 0
  refine r_iload_n hC dX9_adds_0 rfl (j := 1) rfl ?_
  refine r_iconst hC dX9_adds_1 (v := 1) (by decide) ?_
  refine r_bipush hC dX9_adds_2 (v := 60) (by decide) ?_
  refine r_callS hC (vs := [.int x, .int 1, .int 60]) vX9_adds_4 (sm_isIn (d := d)) rfl (by omega) (by omega) (by omega) (Nat.le_of_ble_eq_true rfl) (fun v_1 w_1 hP_1 hlen_1 => ?_) (fun _ _ h => h.elim)
  rw [hP_1.1, hP_1.2]
  show Wp X 0 0 w [(0, .ref m), (1, .int x)] [.int (bI (isI x 1 60))] 7
  refine r_if_ne hC dX9_adds_7 (tgt := 16) (by decide) (fun c7 => ?_) (fun c7 => ?_)
  · refine r_aload_n hC dX9_adds_16 rfl (j := 0) rfl ?_
    refine r_get hC gX9_adds_17 hm (v := .ref (m + 1)) rfl ?_
    refine r_iconst hC dX9_adds_20 (v := 0) (by decide) ?_
    refine r_iald hC dX9_adds_21 (j := 0) hv ⟨by decide, by decide, by decide⟩ ?_
    rw [show enc ((f, g, sl, op, lo), hd, rs, np, tp, av, lg, pl, tk) 0 = nI np from rfl]
    refine r_istore_n hC dX9_adds_22 rfl (by rw [hnl]; decide) (L' := [(2, .int (nI np)), (0, .ref m), (1, .int x)]) rfl ?_
    refine r_iload_n hC dX9_adds_23 rfl (j := 0) rfl ?_
    refine r_iconst hC dX9_adds_24 (v := 4) (by decide) ?_
    refine r_icmp_ne hC dX9_adds_25 (tgt := 34) (by decide) (fun c25 => ?_) (fun c25 => ?_)
    · have hn4 : np < 4 := by have : ¬ np = 4 := fun q => c25 (by rw [q]; rfl); omega
      refine r_aload_n hC dX9_adds_34 rfl (j := 1) rfl ?_
      refine r_get hC gX9_adds_35 hm (v := .ref (m + 1)) rfl ?_
      refine r_bipush hC dX9_adds_38 (v := 9) (by decide) ?_
      refine r_iload_n hC dX9_adds_40 rfl (j := 0) rfl ?_
      refine r_iadd hC dX9_adds_41 ?_
      refine r_iload_n hC dX9_adds_42 rfl (j := 2) rfl ?_
      refine r_iast' hC dX9_adds_43 (j := (9 + np)) hv (ix9 (c := np) (by omega)) (fun w_2 ew_2 => ?_)
      have hf2_m : w_2[m]? = some (mO 10 [.int th, .int ch, .int ea, .int fa, .int sv0, .ref (m + 1), .ref (m + 2), .ref (m + 3), .ref (m + 4), .ref (m + 5), .ref (m + 6), .ref (m + 7), .ref (m + 8), .ref (m + 9), .ref (m + 10), .int tn, .int he, .int en, .int ln, .int iw, .int id0]) := by rw [ew_2, List.getElem?_set_ne (by omega)]; exact hm
      have hf2__m___1_ : w_2[(m + 1)]? = some (mI 0 67 (upd (enc ((f, g, sl, op, lo), hd, rs, np, tp, av, lg, pl, tk)) (9 + np) x)) := by rw [ew_2]; exact List.getElem?_set_self (lt_of_get hv)
      rw [upd_hand (c := np) (by omega)] at ew_2 hf2__m___1_
      refine r_aload_n hC dX9_adds_44 rfl (j := 1) rfl ?_
      refine r_get hC gX9_adds_45 hf2_m (v := .ref (m + 1)) rfl ?_
      refine r_bipush hC dX9_adds_48 (v := 13) (by decide) ?_
      refine r_iload_n hC dX9_adds_50 rfl (j := 0) rfl ?_
      refine r_iadd hC dX9_adds_51 ?_
      refine r_iconst hC dX9_adds_52 (v := 0) (by decide) ?_
      refine r_iast' hC dX9_adds_53 (j := (13 + np)) hf2__m___1_ (ix13 (c := np) (by omega)) (fun w_3 ew_3 => ?_)
      have hf3_m : w_3[m]? = some (mO 10 [.int th, .int ch, .int ea, .int fa, .int sv0, .ref (m + 1), .ref (m + 2), .ref (m + 3), .ref (m + 4), .ref (m + 5), .ref (m + 6), .ref (m + 7), .ref (m + 8), .ref (m + 9), .ref (m + 10), .int tn, .int he, .int en, .int ln, .int iw, .int id0]) := by rw [ew_3, List.getElem?_set_ne (by omega)]; exact hf2_m
      have hf3__m___1_ : w_3[(m + 1)]? = some (mI 0 67 (upd (enc ((f, g, sl, op, lo), (upd hd np x), rs, np, tp, av, lg, pl, tk)) (13 + np) 0)) := by rw [ew_3]; exact List.getElem?_set_self (lt_of_get hf2__m___1_)
      rw [upd_rest (c := np) (by omega)] at ew_3 hf3__m___1_
      refine r_aload_n hC dX9_adds_54 rfl (j := 1) rfl ?_
      refine r_get hC gX9_adds_55 hf3_m (v := .ref (m + 1)) rfl ?_
      refine r_iconst hC dX9_adds_58 (v := 0) (by decide) ?_
      refine r_dup2 hC dX9_adds_59 rfl rfl ?_
      refine r_iald hC dX9_adds_60 (j := 0) hf3__m___1_ ⟨by decide, by decide, by decide⟩ ?_
      rw [show enc ((f, g, sl, op, lo), (upd hd np x), (upd rs np 0), np, tp, av, lg, pl, tk) 0 = nI np from rfl]
      refine r_iconst hC dX9_adds_61 (v := 1) (by decide) ?_
      refine r_iadd hC dX9_adds_62 ?_
      refine r_iast' hC dX9_adds_63 (j := 0) hf3__m___1_ ⟨by decide, by decide, by decide⟩ (fun w_4 ew_4 => ?_)
      have hf4_m : w_4[m]? = some (mO 10 [.int th, .int ch, .int ea, .int fa, .int sv0, .ref (m + 1), .ref (m + 2), .ref (m + 3), .ref (m + 4), .ref (m + 5), .ref (m + 6), .ref (m + 7), .ref (m + 8), .ref (m + 9), .ref (m + 10), .int tn, .int he, .int en, .int ln, .int iw, .int id0]) := by rw [ew_4, List.getElem?_set_ne (by omega)]; exact hf3_m
      have hf4__m___1_ : w_4[(m + 1)]? = some (mI 0 67 (upd (enc ((f, g, sl, op, lo), (upd hd np x), (upd rs np 0), np, tp, av, lg, pl, tk)) 0 ((nI np) + 1))) := by rw [ew_4]; exact List.getElem?_set_self (lt_of_get hf3__m___1_)
      rw [show upd (enc ((f, g, sl, op, lo), (upd hd np x), (upd rs np 0), np, tp, av, lg, pl, tk)) 0 ((nI np) + 1) = enc ((f, g, sl, op, lo), (upd hd np x), (upd rs np 0), (np + 1), tp, av, lg, pl, tk) from enc_small (by decide) (by show [nI (np + 1), _, _, _, _, _, _, _, _] = _; rw [nI_succ]; rfl) rfl rfl rfl rfl] at ew_4 hf4__m___1_
      refine r_iload_n hC dX9_adds_64 rfl (j := 0) rfl ?_
      refine r_iret hC hE hR dX9_adds_65 (by omega) (by omega) (by rw [ew_4, List.length_set, ew_3, List.length_set, ew_2, List.length_set]) ?_
      have e1 : isI x 1 60 = true := bI_ne.mp c7
      have e2 : ¬ (x < 1 ∨ ¬ x ≤ 60) := by
        simp only [isI, Bool.and_eq_true, Bool.not_eq_true', decide_eq_false_iff_not] at e1
        exact fun q => q.elim e1.1 (fun z => z (Int32.not_lt.mp e1.2))
      have e9 : fltEntry np x = 1000010 := (if_neg e2).trans (if_pos (Int32.not_le.mp (nI_ge (b := 4) hn4 (by decide))))
      exact Or.inl ⟨e9, rfl, by simp only [ew_4, ew_3, ew_2, List.set_set]⟩
    · refine r_aload_n hC dX9_adds_28 rfl (j := 1) rfl ?_
      refine r_iconst hC dX9_adds_29 (v := 2) (by decide) ?_
      refine r_callV hC (vs := [.int 2]) vX9_adds_30 (sm_fail (d := d) (x := 2) hm) hm rfl rfl (by omega) (by omega) (by omega) (Nat.le_of_ble_eq_true rfl) (fun v_5 w_5 hP_5 hlen_5 => ?_) (fun _ _ h => h.elim)
      obtain ⟨hv_5, ew_5⟩ := hP_5
      rw [hv_5]
      have hf5_m : w_5[m]? = some (mO 10 [.int 2, .int ch, .int ea, .int fa, .int sv0, .ref (m + 1), .ref (m + 2), .ref (m + 3), .ref (m + 4), .ref (m + 5), .ref (m + 6), .ref (m + 7), .ref (m + 8), .ref (m + 9), .ref (m + 10), .int tn, .int he, .int en, .int ln, .int iw, .int id0]) := by rw [ew_5]; exact List.getElem?_set_self (lt_of_get hm)
      have hf5__m___1_ : w_5[(m + 1)]? = some (mI 0 67 (enc ((f, g, sl, op, lo), hd, rs, np, tp, av, lg, pl, tk))) := by rw [ew_5, List.getElem?_set_ne (by omega)]; exact hv
      show Wp X 0 0 w_5 [(2, .int (nI np)), (0, .ref m), (1, .int x)] [.int 0] 33
      refine r_iret hC hE hR dX9_adds_33 (by omega) (by omega) (by rw [ew_5, List.length_set]) ?_
      have e1 : isI x 1 60 = true := bI_ne.mp c7
      have e2 : ¬ (x < 1 ∨ ¬ x ≤ 60) := by
        simp only [isI, Bool.and_eq_true, Bool.not_eq_true', decide_eq_false_iff_not] at e1
        exact fun q => q.elim e1.1 (fun z => z (Int32.not_lt.mp e1.2))
      have e3 : np = 4 := (lit_eq (N := 4) rfl (by omega) (by decide)).mp c25
      have e9 : fltEntry np x = 1000013 := (if_neg e2).trans (if_neg (by rw [e3]; decide))
      exact Or.inr ⟨by rw [e9]; decide, rfl, by rw [e9, show nE 1000013 = 2 from by decide, ew_5]⟩
  · refine r_aload_n hC dX9_adds_10 rfl (j := 0) rfl ?_
    refine r_iconst hC dX9_adds_11 (v := 1) (by decide) ?_
    refine r_callV hC (vs := [.int 1]) vX9_adds_12 (sm_fail (d := d) (x := 1) hm) hm rfl rfl (by omega) (by omega) (by omega) (Nat.le_of_ble_eq_true rfl) (fun v_6 w_6 hP_6 hlen_6 => ?_) (fun _ _ h => h.elim)
    obtain ⟨hv_6, ew_6⟩ := hP_6
    rw [hv_6]
    have hf6_m : w_6[m]? = some (mO 10 [.int 1, .int ch, .int ea, .int fa, .int sv0, .ref (m + 1), .ref (m + 2), .ref (m + 3), .ref (m + 4), .ref (m + 5), .ref (m + 6), .ref (m + 7), .ref (m + 8), .ref (m + 9), .ref (m + 10), .int tn, .int he, .int en, .int ln, .int iw, .int id0]) := by rw [ew_6]; exact List.getElem?_set_self (lt_of_get hm)
    have hf6__m___1_ : w_6[(m + 1)]? = some (mI 0 67 (enc ((f, g, sl, op, lo), hd, rs, np, tp, av, lg, pl, tk))) := by rw [ew_6, List.getElem?_set_ne (by omega)]; exact hv
    show Wp X 0 0 w_6 [(0, .ref m), (1, .int x)] [.int 0] 15
    refine r_iret hC hE hR dX9_adds_15 (by omega) (by omega) (by rw [ew_6, List.length_set]) ?_
    have e1 : isI x 1 60 = false := bI_0.mp c7
    have e2 : x < 1 ∨ ¬ x ≤ 60 := by
      rcases Decidable.em (x < 1) with q | q
      · exact Or.inl q
      · refine Or.inr (fun z => ?_)
        simp [isI, q, Int32.not_lt.mpr z] at e1
    have e9 : fltEntry np x = 1000012 := if_pos e2
    exact Or.inr ⟨by rw [e9]; decide, rfl, by rw [e9, show nE 1000012 = 1 from by decide, ew_6]⟩
set_option maxRecDepth 100000 in
set_option maxHeartbeats 4000000 in
theorem wt_it {X : mC} {d : Nat} {c : Nat} {ex : Int32} {w : mW} {m : Nat} {th ch ea fa sv0 tn he en ln iw id0 : Int32} {f g : Nat → Int32} {sl op lo : Int32} {hd rs : Nat → Int32} {np : Nat} {tp av lg pl tk : Int32} (hC : Cx X RX9 cX9_waits d 0 0) (hnl : mNL X = 4) (hm : w[m]? = some (mO 10 [.int th, .int ch, .int ea, .int fa, .int sv0, .ref (m + 1), .ref (m + 2), .ref (m + 3), .ref (m + 4), .ref (m + 5), .ref (m + 6), .ref (m + 7), .ref (m + 8), .ref (m + 9), .ref (m + 10), .int tn, .int he, .int en, .int ln, .int iw, .int id0])) (hv : w[m + 1]? = some (mI 0 67 (enc ((f, g, sl, op, lo), hd, (sPass rs ex c), np, tp, av, lg, pl, tk)))) (hnp : np ≤ 4) (hc : c < np) (kk : ∀ w', w' = w.set (m + 1) (mI 0 67 (enc ((f, g, sl, op, lo), hd, (sPass rs ex (c + 1)), np, tp, av, lg, pl, tk))) → Wp X 0 0 w' [(0, .ref m), (1, .int ex), (2, .int (hCnt (fun j => !decide (sPass rs ex (c + 1) j ≤ 0)) (c + 1))), (3, .int (nI (c + 1)))] [] 4) : Wp X 0 0 w [(0, .ref m), (1, .int ex), (2, .int (hCnt (fun j => !decide (sPass rs ex c j ≤ 0)) c)), (3, .int (nI c))] [] 4 := by
  refine r_iload_n hC dX9_waits_4 rfl (j := 3) rfl ?_
  refine r_aload_n hC dX9_waits_5 rfl (j := 0) rfl ?_
  refine r_get hC gX9_waits_6 hm (v := .ref (m + 1)) rfl ?_
  refine r_iconst hC dX9_waits_9 (v := 0) (by decide) ?_
  refine r_iald hC dX9_waits_10 (j := 0) hv ⟨by decide, by decide, by decide⟩ ?_
  rw [show enc ((f, g, sl, op, lo), hd, (sPass rs ex c), np, tp, av, lg, pl, tk) 0 = nI np from rfl]
  refine r_icmp_ge hC dX9_waits_11 (tgt := 74) (by decide) (fun h => absurd h (nI_ge hc (by omega))) (fun _ => ?_)
  refine r_aload_n hC dX9_waits_14 rfl (j := 0) rfl ?_
  refine r_get hC gX9_waits_15 hm (v := .ref (m + 1)) rfl ?_
  refine r_bipush hC dX9_waits_18 (v := 13) (by decide) ?_
  refine r_iload_n hC dX9_waits_20 rfl (j := 3) rfl ?_
  refine r_iadd hC dX9_waits_21 ?_
  refine r_dup2 hC dX9_waits_22 rfl rfl ?_
  refine r_iald hC dX9_waits_23 (j := (13 + c)) hv (ix13 (c := c) (by omega)) ?_
  rw [enc_rest (c := c) (by omega)]
  refine r_iload_n hC dX9_waits_24 rfl (j := 3) rfl ?_
  refine r_iload_n hC dX9_waits_25 rfl (j := 1) rfl ?_
  refine r_icmp_eq hC dX9_waits_26 (tgt := 45) (by decide) (fun c26 => ?_) (fun c26 => ?_)
  · refine r_iconst hC dX9_waits_45 (v := 0) (by decide) ?_
    refine r_isub hC dX9_waits_46 ?_
    refine r_iast' hC dX9_waits_47 (j := (13 + c)) hv (ix13 (c := c) (by omega)) (fun w_1 ew_1 => ?_)
    have hf1_m : w_1[m]? = some (mO 10 [.int th, .int ch, .int ea, .int fa, .int sv0, .ref (m + 1), .ref (m + 2), .ref (m + 3), .ref (m + 4), .ref (m + 5), .ref (m + 6), .ref (m + 7), .ref (m + 8), .ref (m + 9), .ref (m + 10), .int tn, .int he, .int en, .int ln, .int iw, .int id0]) := by rw [ew_1, List.getElem?_set_ne (by omega)]; exact hm
    have hf1__m___1_ : w_1[(m + 1)]? = some (mI 0 67 (upd (enc ((f, g, sl, op, lo), hd, (sPass rs ex c), np, tp, av, lg, pl, tk)) (13 + c) (((sPass rs ex c) c) - 0))) := by rw [ew_1]; exact List.getElem?_set_self (lt_of_get hv)
    rw [upd_rest (c := c) (by omega)] at ew_1 hf1__m___1_
    refine r_iload_n hC dX9_waits_48 rfl (j := 2) rfl ?_
    refine r_aload_n hC dX9_waits_49 rfl (j := 0) rfl ?_
    refine r_get hC gX9_waits_50 hf1_m (v := .ref (m + 1)) rfl ?_
    refine r_bipush hC dX9_waits_53 (v := 13) (by decide) ?_
    refine r_iload_n hC dX9_waits_55 rfl (j := 3) rfl ?_
    refine r_iadd hC dX9_waits_56 ?_
    refine r_iald hC dX9_waits_57 (j := (13 + c)) hf1__m___1_ (ix13 (c := c) (by omega)) ?_
    rw [enc_rest (c := c) (by omega)]
    rw [pk_us]
    refine r_if_le hC dX9_waits_58 (tgt := 65) (by decide) (fun c58 => ?_) (fun c58 => ?_)
    · refine r_iconst hC dX9_waits_65 (v := 0) (by decide) ?_
      refine r_iadd hC dX9_waits_66 ?_
      refine r_istore_n hC dX9_waits_67 rfl (by rw [hnl]; decide) (L' := [(2, .int ((hCnt (fun j => !decide (sPass rs ex c j ≤ 0)) c) + 0)), (0, .ref m), (1, .int ex), (3, .int (nI c))]) rfl ?_
      refine r_iinc hC dX9_waits_68 (j := 3) rfl (v := nI (c + 1)) (nI_succ c).symm (by rw [hnl]; decide) (L' := [(3, .int (nI (c + 1))), (2, .int ((hCnt (fun j => !decide (sPass rs ex c j ≤ 0)) c) + 0)), (0, .ref m), (1, .int ex)]) rfl ?_
      refine r_goto hC dX9_waits_71 (tgt := 4) (by decide) ?_
      refine r_locals [2, 3, 1, 0] (L' := [(0, .ref m), (1, .int ex), (2, .int ((hCnt (fun j => !decide (sPass rs ex c j ≤ 0)) c) + 0)), (3, .int (nI (c + 1)))]) rfl ?_
      have e8 : sPass rs ex (c + 1) = (sPass rs ex c) := if_neg (fun q => q.1 c26)
      have e7 : upd (sPass rs ex c) c ((sPass rs ex c) c - 0) = (sPass rs ex c) := by rw [Int32.sub_zero]; exact upd_self
      have e6 : sPass rs ex (c + 1) c = (sPass rs ex c) c := by rw [e8]
      have e5 : hCnt (fun j => !decide (sPass rs ex (c + 1) j ≤ 0)) c = hCnt (fun j => !decide (sPass rs ex c j ≤ 0)) c := hCnt_congr (fun j hj => by show (!decide (sPass rs ex (c + 1) j ≤ 0)) = _; rw [sPass_lt hj])
      have z9 := c58
      rw [show ((sPass rs ex c) c - 0 : Int32) = (sPass rs ex c) c from Int32.sub_zero _] at z9
      have e4 : hCnt (fun j => !decide (sPass rs ex (c + 1) j ≤ 0)) (c + 1) = hCnt (fun j => !decide (sPass rs ex c j ≤ 0)) c + 0 := by
        rw [Int32.add_zero, ← e5]
        exact if_neg (by show ¬ (!decide (sPass rs ex (c + 1) c ≤ 0)) = true; rw [e6]; simp [z9])
      have kk2 := kk w_1 (by rw [e8, ew_1, e7])
      rw [e4] at kk2
      exact kk2
    · refine r_iconst hC dX9_waits_61 (v := 1) (by decide) ?_
      refine r_goto hC dX9_waits_62 (tgt := 66) (by decide) ?_
      refine r_iadd hC dX9_waits_66 ?_
      refine r_istore_n hC dX9_waits_67 rfl (by rw [hnl]; decide) (L' := [(2, .int ((hCnt (fun j => !decide (sPass rs ex c j ≤ 0)) c) + 1)), (0, .ref m), (1, .int ex), (3, .int (nI c))]) rfl ?_
      refine r_iinc hC dX9_waits_68 (j := 3) rfl (v := nI (c + 1)) (nI_succ c).symm (by rw [hnl]; decide) (L' := [(3, .int (nI (c + 1))), (2, .int ((hCnt (fun j => !decide (sPass rs ex c j ≤ 0)) c) + 1)), (0, .ref m), (1, .int ex)]) rfl ?_
      refine r_goto hC dX9_waits_71 (tgt := 4) (by decide) ?_
      refine r_locals [2, 3, 1, 0] (L' := [(0, .ref m), (1, .int ex), (2, .int ((hCnt (fun j => !decide (sPass rs ex c j ≤ 0)) c) + 1)), (3, .int (nI (c + 1)))]) rfl ?_
      have e8 : sPass rs ex (c + 1) = (sPass rs ex c) := if_neg (fun q => q.1 c26)
      have e7 : upd (sPass rs ex c) c ((sPass rs ex c) c - 0) = (sPass rs ex c) := by rw [Int32.sub_zero]; exact upd_self
      have e6 : sPass rs ex (c + 1) c = (sPass rs ex c) c := by rw [e8]
      have e5 : hCnt (fun j => !decide (sPass rs ex (c + 1) j ≤ 0)) c = hCnt (fun j => !decide (sPass rs ex c j ≤ 0)) c := hCnt_congr (fun j hj => by show (!decide (sPass rs ex (c + 1) j ≤ 0)) = _; rw [sPass_lt hj])
      have z9 := c58
      rw [show ((sPass rs ex c) c - 0 : Int32) = (sPass rs ex c) c from Int32.sub_zero _] at z9
      have e4 : hCnt (fun j => !decide (sPass rs ex (c + 1) j ≤ 0)) (c + 1) = hCnt (fun j => !decide (sPass rs ex c j ≤ 0)) c + 1 := by
        rw [← e5]
        exact if_pos (by show (!decide (sPass rs ex (c + 1) c ≤ 0)) = true; rw [e6]; simp [z9])
      have kk2 := kk w_1 (by rw [e8, ew_1, e7])
      rw [e4] at kk2
      exact kk2
  · refine r_aload_n hC dX9_waits_29 rfl (j := 0) rfl ?_
    refine r_get hC gX9_waits_30 hm (v := .ref (m + 1)) rfl ?_
    refine r_bipush hC dX9_waits_33 (v := 13) (by decide) ?_
    refine r_iload_n hC dX9_waits_35 rfl (j := 3) rfl ?_
    refine r_iadd hC dX9_waits_36 ?_
    refine r_iald hC dX9_waits_37 (j := (13 + c)) hv (ix13 (c := c) (by omega)) ?_
    rw [enc_rest (c := c) (by omega)]
    refine r_if_le hC dX9_waits_38 (tgt := 45) (by decide) (fun c38 => ?_) (fun c38 => ?_)
    · refine r_iconst hC dX9_waits_45 (v := 0) (by decide) ?_
      refine r_isub hC dX9_waits_46 ?_
      refine r_iast' hC dX9_waits_47 (j := (13 + c)) hv (ix13 (c := c) (by omega)) (fun w_2 ew_2 => ?_)
      have hf2_m : w_2[m]? = some (mO 10 [.int th, .int ch, .int ea, .int fa, .int sv0, .ref (m + 1), .ref (m + 2), .ref (m + 3), .ref (m + 4), .ref (m + 5), .ref (m + 6), .ref (m + 7), .ref (m + 8), .ref (m + 9), .ref (m + 10), .int tn, .int he, .int en, .int ln, .int iw, .int id0]) := by rw [ew_2, List.getElem?_set_ne (by omega)]; exact hm
      have hf2__m___1_ : w_2[(m + 1)]? = some (mI 0 67 (upd (enc ((f, g, sl, op, lo), hd, (sPass rs ex c), np, tp, av, lg, pl, tk)) (13 + c) (((sPass rs ex c) c) - 0))) := by rw [ew_2]; exact List.getElem?_set_self (lt_of_get hv)
      rw [upd_rest (c := c) (by omega)] at ew_2 hf2__m___1_
      refine r_iload_n hC dX9_waits_48 rfl (j := 2) rfl ?_
      refine r_aload_n hC dX9_waits_49 rfl (j := 0) rfl ?_
      refine r_get hC gX9_waits_50 hf2_m (v := .ref (m + 1)) rfl ?_
      refine r_bipush hC dX9_waits_53 (v := 13) (by decide) ?_
      refine r_iload_n hC dX9_waits_55 rfl (j := 3) rfl ?_
      refine r_iadd hC dX9_waits_56 ?_
      refine r_iald hC dX9_waits_57 (j := (13 + c)) hf2__m___1_ (ix13 (c := c) (by omega)) ?_
      rw [enc_rest (c := c) (by omega)]
      rw [pk_us]
      refine r_if_le hC dX9_waits_58 (tgt := 65) (by decide) (fun c58 => ?_) (fun c58 => ?_)
      · refine r_iconst hC dX9_waits_65 (v := 0) (by decide) ?_
        refine r_iadd hC dX9_waits_66 ?_
        refine r_istore_n hC dX9_waits_67 rfl (by rw [hnl]; decide) (L' := [(2, .int ((hCnt (fun j => !decide (sPass rs ex c j ≤ 0)) c) + 0)), (0, .ref m), (1, .int ex), (3, .int (nI c))]) rfl ?_
        refine r_iinc hC dX9_waits_68 (j := 3) rfl (v := nI (c + 1)) (nI_succ c).symm (by rw [hnl]; decide) (L' := [(3, .int (nI (c + 1))), (2, .int ((hCnt (fun j => !decide (sPass rs ex c j ≤ 0)) c) + 0)), (0, .ref m), (1, .int ex)]) rfl ?_
        refine r_goto hC dX9_waits_71 (tgt := 4) (by decide) ?_
        refine r_locals [2, 3, 1, 0] (L' := [(0, .ref m), (1, .int ex), (2, .int ((hCnt (fun j => !decide (sPass rs ex c j ≤ 0)) c) + 0)), (3, .int (nI (c + 1)))]) rfl ?_
        have e8 : sPass rs ex (c + 1) = (sPass rs ex c) := if_neg (fun q => q.2 c38)
        have e7 : upd (sPass rs ex c) c ((sPass rs ex c) c - 0) = (sPass rs ex c) := by rw [Int32.sub_zero]; exact upd_self
        have e6 : sPass rs ex (c + 1) c = (sPass rs ex c) c := by rw [e8]
        have e5 : hCnt (fun j => !decide (sPass rs ex (c + 1) j ≤ 0)) c = hCnt (fun j => !decide (sPass rs ex c j ≤ 0)) c := hCnt_congr (fun j hj => by show (!decide (sPass rs ex (c + 1) j ≤ 0)) = _; rw [sPass_lt hj])
        have z9 := c58
        rw [show ((sPass rs ex c) c - 0 : Int32) = (sPass rs ex c) c from Int32.sub_zero _] at z9
        have e4 : hCnt (fun j => !decide (sPass rs ex (c + 1) j ≤ 0)) (c + 1) = hCnt (fun j => !decide (sPass rs ex c j ≤ 0)) c + 0 := by
          rw [Int32.add_zero, ← e5]
          exact if_neg (by show ¬ (!decide (sPass rs ex (c + 1) c ≤ 0)) = true; rw [e6]; simp [z9])
        have kk2 := kk w_2 (by rw [e8, ew_2, e7])
        rw [e4] at kk2
        exact kk2
      · refine r_iconst hC dX9_waits_61 (v := 1) (by decide) ?_
        refine r_goto hC dX9_waits_62 (tgt := 66) (by decide) ?_
        refine r_iadd hC dX9_waits_66 ?_
        refine r_istore_n hC dX9_waits_67 rfl (by rw [hnl]; decide) (L' := [(2, .int ((hCnt (fun j => !decide (sPass rs ex c j ≤ 0)) c) + 1)), (0, .ref m), (1, .int ex), (3, .int (nI c))]) rfl ?_
        refine r_iinc hC dX9_waits_68 (j := 3) rfl (v := nI (c + 1)) (nI_succ c).symm (by rw [hnl]; decide) (L' := [(3, .int (nI (c + 1))), (2, .int ((hCnt (fun j => !decide (sPass rs ex c j ≤ 0)) c) + 1)), (0, .ref m), (1, .int ex)]) rfl ?_
        refine r_goto hC dX9_waits_71 (tgt := 4) (by decide) ?_
        refine r_locals [2, 3, 1, 0] (L' := [(0, .ref m), (1, .int ex), (2, .int ((hCnt (fun j => !decide (sPass rs ex c j ≤ 0)) c) + 1)), (3, .int (nI (c + 1)))]) rfl ?_
        have e8 : sPass rs ex (c + 1) = (sPass rs ex c) := if_neg (fun q => q.2 c38)
        have e7 : upd (sPass rs ex c) c ((sPass rs ex c) c - 0) = (sPass rs ex c) := by rw [Int32.sub_zero]; exact upd_self
        have e6 : sPass rs ex (c + 1) c = (sPass rs ex c) c := by rw [e8]
        have e5 : hCnt (fun j => !decide (sPass rs ex (c + 1) j ≤ 0)) c = hCnt (fun j => !decide (sPass rs ex c j ≤ 0)) c := hCnt_congr (fun j hj => by show (!decide (sPass rs ex (c + 1) j ≤ 0)) = _; rw [sPass_lt hj])
        have z9 := c58
        rw [show ((sPass rs ex c) c - 0 : Int32) = (sPass rs ex c) c from Int32.sub_zero _] at z9
        have e4 : hCnt (fun j => !decide (sPass rs ex (c + 1) j ≤ 0)) (c + 1) = hCnt (fun j => !decide (sPass rs ex c j ≤ 0)) c + 1 := by
          rw [← e5]
          exact if_pos (by show (!decide (sPass rs ex (c + 1) c ≤ 0)) = true; rw [e6]; simp [z9])
        have kk2 := kk w_2 (by rw [e8, ew_2, e7])
        rw [e4] at kk2
        exact kk2
    · refine r_iconst hC dX9_waits_41 (v := 1) (by decide) ?_
      refine r_goto hC dX9_waits_42 (tgt := 46) (by decide) ?_
      refine r_isub hC dX9_waits_46 ?_
      refine r_iast' hC dX9_waits_47 (j := (13 + c)) hv (ix13 (c := c) (by omega)) (fun w_3 ew_3 => ?_)
      have hf3_m : w_3[m]? = some (mO 10 [.int th, .int ch, .int ea, .int fa, .int sv0, .ref (m + 1), .ref (m + 2), .ref (m + 3), .ref (m + 4), .ref (m + 5), .ref (m + 6), .ref (m + 7), .ref (m + 8), .ref (m + 9), .ref (m + 10), .int tn, .int he, .int en, .int ln, .int iw, .int id0]) := by rw [ew_3, List.getElem?_set_ne (by omega)]; exact hm
      have hf3__m___1_ : w_3[(m + 1)]? = some (mI 0 67 (upd (enc ((f, g, sl, op, lo), hd, (sPass rs ex c), np, tp, av, lg, pl, tk)) (13 + c) (((sPass rs ex c) c) - 1))) := by rw [ew_3]; exact List.getElem?_set_self (lt_of_get hv)
      rw [upd_rest (c := c) (by omega)] at ew_3 hf3__m___1_
      refine r_iload_n hC dX9_waits_48 rfl (j := 2) rfl ?_
      refine r_aload_n hC dX9_waits_49 rfl (j := 0) rfl ?_
      refine r_get hC gX9_waits_50 hf3_m (v := .ref (m + 1)) rfl ?_
      refine r_bipush hC dX9_waits_53 (v := 13) (by decide) ?_
      refine r_iload_n hC dX9_waits_55 rfl (j := 3) rfl ?_
      refine r_iadd hC dX9_waits_56 ?_
      refine r_iald hC dX9_waits_57 (j := (13 + c)) hf3__m___1_ (ix13 (c := c) (by omega)) ?_
      rw [enc_rest (c := c) (by omega)]
      rw [pk_us]
      refine r_if_le hC dX9_waits_58 (tgt := 65) (by decide) (fun c58 => ?_) (fun c58 => ?_)
      · refine r_iconst hC dX9_waits_65 (v := 0) (by decide) ?_
        refine r_iadd hC dX9_waits_66 ?_
        refine r_istore_n hC dX9_waits_67 rfl (by rw [hnl]; decide) (L' := [(2, .int ((hCnt (fun j => !decide (sPass rs ex c j ≤ 0)) c) + 0)), (0, .ref m), (1, .int ex), (3, .int (nI c))]) rfl ?_
        refine r_iinc hC dX9_waits_68 (j := 3) rfl (v := nI (c + 1)) (nI_succ c).symm (by rw [hnl]; decide) (L' := [(3, .int (nI (c + 1))), (2, .int ((hCnt (fun j => !decide (sPass rs ex c j ≤ 0)) c) + 0)), (0, .ref m), (1, .int ex)]) rfl ?_
        refine r_goto hC dX9_waits_71 (tgt := 4) (by decide) ?_
        refine r_locals [2, 3, 1, 0] (L' := [(0, .ref m), (1, .int ex), (2, .int ((hCnt (fun j => !decide (sPass rs ex c j ≤ 0)) c) + 0)), (3, .int (nI (c + 1)))]) rfl ?_
        have e8 : sPass rs ex (c + 1) = upd (sPass rs ex c) c ((sPass rs ex c) c - 1) := if_pos ⟨c26, c38⟩
        have e6 : sPass rs ex (c + 1) c = (sPass rs ex c) c - 1 := by rw [e8]; exact pk_us
        have e5 : hCnt (fun j => !decide (sPass rs ex (c + 1) j ≤ 0)) c = hCnt (fun j => !decide (sPass rs ex c j ≤ 0)) c := hCnt_congr (fun j hj => by show (!decide (sPass rs ex (c + 1) j ≤ 0)) = _; rw [sPass_lt hj])
        have z9 := c58
        have e4 : hCnt (fun j => !decide (sPass rs ex (c + 1) j ≤ 0)) (c + 1) = hCnt (fun j => !decide (sPass rs ex c j ≤ 0)) c + 0 := by
          rw [Int32.add_zero, ← e5]
          exact if_neg (by show ¬ (!decide (sPass rs ex (c + 1) c ≤ 0)) = true; rw [e6]; simp [z9])
        have kk2 := kk w_3 (by rw [e8, ew_3])
        rw [e4] at kk2
        exact kk2
      · refine r_iconst hC dX9_waits_61 (v := 1) (by decide) ?_
        refine r_goto hC dX9_waits_62 (tgt := 66) (by decide) ?_
        refine r_iadd hC dX9_waits_66 ?_
        refine r_istore_n hC dX9_waits_67 rfl (by rw [hnl]; decide) (L' := [(2, .int ((hCnt (fun j => !decide (sPass rs ex c j ≤ 0)) c) + 1)), (0, .ref m), (1, .int ex), (3, .int (nI c))]) rfl ?_
        refine r_iinc hC dX9_waits_68 (j := 3) rfl (v := nI (c + 1)) (nI_succ c).symm (by rw [hnl]; decide) (L' := [(3, .int (nI (c + 1))), (2, .int ((hCnt (fun j => !decide (sPass rs ex c j ≤ 0)) c) + 1)), (0, .ref m), (1, .int ex)]) rfl ?_
        refine r_goto hC dX9_waits_71 (tgt := 4) (by decide) ?_
        refine r_locals [2, 3, 1, 0] (L' := [(0, .ref m), (1, .int ex), (2, .int ((hCnt (fun j => !decide (sPass rs ex c j ≤ 0)) c) + 1)), (3, .int (nI (c + 1)))]) rfl ?_
        have e8 : sPass rs ex (c + 1) = upd (sPass rs ex c) c ((sPass rs ex c) c - 1) := if_pos ⟨c26, c38⟩
        have e6 : sPass rs ex (c + 1) c = (sPass rs ex c) c - 1 := by rw [e8]; exact pk_us
        have e5 : hCnt (fun j => !decide (sPass rs ex (c + 1) j ≤ 0)) c = hCnt (fun j => !decide (sPass rs ex c j ≤ 0)) c := hCnt_congr (fun j hj => by show (!decide (sPass rs ex (c + 1) j ≤ 0)) = _; rw [sPass_lt hj])
        have z9 := c58
        have e4 : hCnt (fun j => !decide (sPass rs ex (c + 1) j ≤ 0)) (c + 1) = hCnt (fun j => !decide (sPass rs ex c j ≤ 0)) c + 1 := by
          rw [← e5]
          exact if_pos (by show (!decide (sPass rs ex (c + 1) c ≤ 0)) = true; rw [e6]; simp [z9])
        have kk2 := kk w_3 (by rw [e8, ew_3])
        rw [e4] at kk2
        exact kk2
set_option maxRecDepth 100000 in
theorem wt_all {X : mC} {d : Nat} {ex : Int32} {m : Nat} {th ch ea fa sv0 tn he en ln iw id0 : Int32} {f g : Nat → Int32} {sl op lo : Int32} {hd rs : Nat → Int32} {np : Nat} {tp av lg pl tk : Int32} (hC : Cx X RX9 cX9_waits d 0 0) (hnl : mNL X = 4) (hnp : np ≤ 4) {w0 : mW} (hl0 : m + 1 < w0.length) (kk : ∀ w', w' = w0.set (m + 1) (mI 0 67 (enc ((f, g, sl, op, lo), hd, (sPass rs ex np), np, tp, av, lg, pl, tk))) → Wp X 0 0 w' [(0, .ref m), (1, .int ex), (2, .int (hCnt (fun j => !decide (sPass rs ex np j ≤ 0)) np)), (3, .int (nI np))] [] 4) : ∀ (n c : Nat) (w : mW), c + n = np → w[m]? = some (mO 10 [.int th, .int ch, .int ea, .int fa, .int sv0, .ref (m + 1), .ref (m + 2), .ref (m + 3), .ref (m + 4), .ref (m + 5), .ref (m + 6), .ref (m + 7), .ref (m + 8), .ref (m + 9), .ref (m + 10), .int tn, .int he, .int en, .int ln, .int iw, .int id0]) → w = w0.set (m + 1) (mI 0 67 (enc ((f, g, sl, op, lo), hd, (sPass rs ex c), np, tp, av, lg, pl, tk))) → Wp X 0 0 w [(0, .ref m), (1, .int ex), (2, .int (hCnt (fun j => !decide (sPass rs ex c j ≤ 0)) c)), (3, .int (nI c))] [] 4 := by
  intro n
  induction n with
  | zero =>
    intro c w h9 hm e9
    obtain rfl : c = np := by omega
    exact kk w e9
  | succ n ih =>
    intro c w h9 hm e9
    have hv : w[m + 1]? = some (mI 0 67 (enc ((f, g, sl, op, lo), hd, (sPass rs ex c), np, tp, av, lg, pl, tk))) := by rw [e9]; exact List.getElem?_set_self hl0
    refine wt_it hC hnl hm hv hnp (by omega) (fun w2 e2 => ih (c + 1) w2 (by omega) ?_ ?_)
    · rw [e2, List.getElem?_set_ne (by omega)]; exact hm
    · rw [e2, e9, List.set_set]
set_option maxRecDepth 100000 in
set_option maxHeartbeats 4000000 in
theorem sm_waits {d : Nat} {ex : Int32} {w : mW} {m : Nat} {th ch ea fa sv0 tn he en ln iw id0 : Int32} {f g : Nat → Int32} {sl op lo : Int32} {hd rs : Nat → Int32} {np : Nat} {tp av lg pl tk : Int32} (hm : w[m]? = some (mO 10 [.int th, .int ch, .int ea, .int fa, .int sv0, .ref (m + 1), .ref (m + 2), .ref (m + 3), .ref (m + 4), .ref (m + 5), .ref (m + 6), .ref (m + 7), .ref (m + 8), .ref (m + 9), .ref (m + 10), .int tn, .int he, .int en, .int ln, .int iw, .int id0])) (hv : w[m + 1]? = some (mI 0 67 (enc ((f, g, sl, op, lo), hd, rs, np, tp, av, lg, pl, tk)))) (hnp : np ≤ 4) : Sp d yX9_waits cX9_waits 4 (some .int) [.ref m, .int ex] w 0 0 (fun v w' => v = some (.int (hCnt (fun j => !decide (sPass rs ex np j ≤ 0)) np)) ∧ w' = w.set (m + 1) (mI 0 67 (enc ((f, g, sl, op, lo), hd, (sPass rs ex np), np, tp, av, lg, pl, tk)))) noX := by
  refine Sp.of (by decide +kernel) (Nat.le_of_ble_eq_true rfl) (fun X hC hnl hE hR hN => ?_)
  have hC : Cx X RX9 cX9_waits d 0 0 := hC
  show Wp X 0 0 w [(0, .ref m), (1, .int ex)] [] 0
  refine r_iconst hC dX9_waits_0 (v := 0) (by decide) ?_
  refine r_istore_n hC dX9_waits_1 rfl (by rw [hnl]; decide) (L' := [(2, .int 0), (0, .ref m), (1, .int ex)]) rfl ?_
  refine r_iconst hC dX9_waits_2 (v := 0) (by decide) ?_
  refine r_istore_n hC dX9_waits_3 rfl (by rw [hnl]; decide) (L' := [(3, .int 0), (2, .int 0), (0, .ref m), (1, .int ex)]) rfl ?_
  refine r_locals [2, 3, 1, 0] (L' := [(0, .ref m), (1, .int ex), (2, .int 0), (3, .int 0)]) rfl ?_
  refine wt_all (w0 := w) hC hnl hnp (lt_of_get hv) (fun w2 e2 => ?_) np 0 w (Nat.zero_add np) hm (set_same hv).symm
  have hm2 : w2[m]? = some (mO 10 [.int th, .int ch, .int ea, .int fa, .int sv0, .ref (m + 1), .ref (m + 2), .ref (m + 3), .ref (m + 4), .ref (m + 5), .ref (m + 6), .ref (m + 7), .ref (m + 8), .ref (m + 9), .ref (m + 10), .int tn, .int he, .int en, .int ln, .int iw, .int id0]) := by rw [e2, List.getElem?_set_ne (by omega)]; exact hm
  have hv2 : w2[m + 1]? = some (mI 0 67 (enc ((f, g, sl, op, lo), hd, (sPass rs ex np), np, tp, av, lg, pl, tk))) := by rw [e2]; exact List.getElem?_set_self (lt_of_get hv)
  refine r_iload_n hC dX9_waits_4 rfl (j := 3) rfl ?_
  refine r_aload_n hC dX9_waits_5 rfl (j := 0) rfl ?_
  refine r_get hC gX9_waits_6 hm2 (v := .ref (m + 1)) rfl ?_
  refine r_iconst hC dX9_waits_9 (v := 0) (by decide) ?_
  refine r_iald hC dX9_waits_10 (j := 0) hv2 ⟨by decide, by decide, by decide⟩ ?_
  rw [show enc ((f, g, sl, op, lo), hd, (sPass rs ex np), np, tp, av, lg, pl, tk) 0 = nI np from rfl]
  refine r_icmp_ge hC dX9_waits_11 (tgt := 74) (by decide) (fun _ => ?_) (fun h => absurd (nI_le (Nat.le_refl np) (by omega)) h)
  refine r_iload_n hC dX9_waits_74 rfl (j := 2) rfl ?_
  refine r_iret hC hE hR dX9_waits_75 (by omega) (by omega) (by rw [e2, List.length_set]) ?_
  exact ⟨rfl, e2⟩
end MD4
