section MD12
set_option maxRecDepth 100000 in
set_option maxHeartbeats 4000000 in
theorem sm_isPeak {d : Nat} {c : Int32} {w : mW} {m : Nat} {th : Int32} {f g : Nat → Int32} {sl op lo : Int32} {hd rs : Nat → Int32} {np : Nat} {tp av lg pl tk : Int32} {l : List sv} {ea fa : Int32} {so : Option sv} {tx : Nat → Int32} {tn : Nat} {lf : Nat → Int32} {ln : Nat} (H : MdAt w m th ((f, g, sl, op, lo), hd, rs, np, tp, av, lg, pl, tk) l ea fa so tx tn lf ln) (h25 : f 25 = 0) (hpos : ∀ j, j < 25 → ¬ f j < 0) : Sp (d + 2) yX9_isPeak cX9_isPeak 2 (some .boolean) [.ref m, .int c] w 0 0 (fun v w' => (isC c = true ∧ v = some (.int (bI (hPeak f c.toNatClampNeg))) ∧ MdTo w w' m 0 ((f, g, sl, op, lo), hd, rs, np, tp, av, lg, pl, tk) l ea fa so tx tn lf ln) ∨ (isC c = false ∧ v = some (.int 0) ∧ MdTo w w' m 1 ((f, g, sl, op, lo), hd, rs, np, tp, av, lg, pl, tk) l ea fa so tx tn lf ln)) noX := by
  refine Sp.of (by decide +kernel) (Nat.le_of_ble_eq_true rfl) (fun X hC hnl hE hR hN => ?_)
  have hC : Cx X RX9 cX9_isPeak (d + 2) 0 0 := hC
  show Wp X 0 0 w [(0, .ref m), (1, .int c)] [] 0
  obtain ⟨he, en, iw, id0, bf, sf, kf, pf, lt, hm, hv, hbf, hsf, hkf, hpf, htx, hlf, hlt, hwd, hwa, hpo, hso⟩ := H
  have hF0 : Fr m w w := Fr.rfl
  refine r_aload_n hC dX9_isPeak_0 rfl (j := 0) rfl ?_
  refine r_iload_n hC dX9_isPeak_1 rfl (j := 1) rfl ?_
  refine r_callS hC (vs := [.int c]) vX9_isPeak_2 (sm_isCell (d := d)) rfl (by omega) (by omega) (by omega) (Nat.le_of_ble_eq_true rfl) (fun v_1 w_1 hP_1 hlen_1 => ?_) (fun _ _ h => h.elim)
  rw [hP_1.1, hP_1.2]
  show Wp X 0 0 w [(0, .ref m), (1, .int c)] [.int (bI (isC c)), .ref m] 5
  refine r_if_eq hC dX9_isPeak_5 (tgt := 12) (by decide) (fun c5 => ?_) (fun c5 => ?_)
  · refine r_iconst hC dX9_isPeak_12 (v := 1) (by decide) ?_
    refine r_put' hC pX9_isPeak_13 hm (Nat.le_of_ble_eq_true rfl) (fun _ => rfl) (fun _ => rfl) (fun w_2 ew_2 => ?_)
    replace ew_2 : w_2 = (w).set (m) (mO 10 [.int 1, .int (nI l.length), .int ea, .int fa, .int (bI so.isSome), .ref (m + 1), .ref (m + 2), .ref (m + 3), .ref (m + 4), .ref (m + 5), .ref (m + 6), .ref (m + 7), .ref (m + 8), .ref (m + 9), .ref (m + 10), .int (nI tn), .int he, .int en, .int (nI ln), .int iw, .int id0]) := ew_2
    have hf2_m : w_2[m]? = some (mO 10 [.int 1, .int (nI l.length), .int ea, .int fa, .int (bI so.isSome), .ref (m + 1), .ref (m + 2), .ref (m + 3), .ref (m + 4), .ref (m + 5), .ref (m + 6), .ref (m + 7), .ref (m + 8), .ref (m + 9), .ref (m + 10), .int (nI tn), .int he, .int en, .int (nI ln), .int iw, .int id0]) := by rw [ew_2]; exact List.getElem?_set_self (lt_of_get hm)
    have hf2__m___1_ : w_2[(m + 1)]? = some (mI 0 67 (enc ((f, g, sl, op, lo), hd, rs, np, tp, av, lg, pl, tk))) := by rw [ew_2, List.getElem?_set_ne (by omega)]; exact hv
    have hf2__m___2_ : w_2[(m + 2)]? = some (mI 0 67 bf) := by rw [ew_2, List.getElem?_set_ne (by omega)]; exact hbf
    have hf2__m___3_ : w_2[(m + 3)]? = some (mI 0 67 sf) := by rw [ew_2, List.getElem?_set_ne (by omega)]; exact hsf
    have hf2__m___4_ : w_2[(m + 4)]? = some (mI 0 67 kf) := by rw [ew_2, List.getElem?_set_ne (by omega)]; exact hkf
    have hf2__m___5_ : w_2[(m + 5)]? = some (mI 0 536 pf) := by rw [ew_2, List.getElem?_set_ne (by omega)]; exact hpf
    have hf2__m___6_ : w_2[(m + 6)]? = some (mI 0 60 tx) := by rw [ew_2, List.getElem?_set_ne (by omega)]; exact htx
    have hf2__m___7_ : w_2[(m + 7)]? = some (mI 0 40 lf) := by rw [ew_2, List.getElem?_set_ne (by omega)]; exact hlf
    have hf2__m___8_ : w_2[(m + 8)]? = some (mI 0 8 lt) := by rw [ew_2, List.getElem?_set_ne (by omega)]; exact hlt
    have hf2__m___9_ : w_2[(m + 9)]? = some (mI 0 41 wdF) := by rw [ew_2, List.getElem?_set_ne (by omega)]; exact hwd
    have hf2__m___10_ : w_2[(m + 10)]? = some (mI 0 9 waF) := by rw [ew_2, List.getElem?_set_ne (by omega)]; exact hwa
    have hF_2 : Fr m w w_2 := by rw [ew_2]; exact (Fr.set hF0 (by omega) (by omega))
    refine r_aload_n hC dX9_isPeak_16 rfl (j := 0) rfl ?_
    refine r_get hC gX9_isPeak_17 hf2_m (v := .int 1) rfl ?_
    refine r_if_ne hC dX9_isPeak_20 (tgt := 35) (by decide) (fun _ => ?_) (fun h => absurd h (by decide))
    refine r_iconst hC dX9_isPeak_35 (v := 0) (by decide) ?_
    refine r_nret hC hE hR dX9_isPeak_36 (by decide) (by omega) (by omega) (hF_2.1) ?_
    exact (Or.inr ⟨(bI_0.mp c5), rfl, ⟨⟨_, _, _, _, _, _, _, _, _, hf2_m, hf2__m___1_, hf2__m___2_, hf2__m___3_, hf2__m___4_, hf2__m___5_, hf2__m___6_, hf2__m___7_, hf2__m___8_, hf2__m___9_, hf2__m___10_, hpo, hso⟩, hF_2⟩⟩)
  · refine r_iconst hC dX9_isPeak_8 (v := 0) (by decide) ?_
    refine r_goto hC dX9_isPeak_9 (tgt := 13) (by decide) ?_
    refine r_put' hC pX9_isPeak_13 hm (Nat.le_of_ble_eq_true rfl) (fun _ => rfl) (fun _ => rfl) (fun w_3 ew_3 => ?_)
    replace ew_3 : w_3 = (w).set (m) (mO 10 [.int 0, .int (nI l.length), .int ea, .int fa, .int (bI so.isSome), .ref (m + 1), .ref (m + 2), .ref (m + 3), .ref (m + 4), .ref (m + 5), .ref (m + 6), .ref (m + 7), .ref (m + 8), .ref (m + 9), .ref (m + 10), .int (nI tn), .int he, .int en, .int (nI ln), .int iw, .int id0]) := ew_3
    have hf3_m : w_3[m]? = some (mO 10 [.int 0, .int (nI l.length), .int ea, .int fa, .int (bI so.isSome), .ref (m + 1), .ref (m + 2), .ref (m + 3), .ref (m + 4), .ref (m + 5), .ref (m + 6), .ref (m + 7), .ref (m + 8), .ref (m + 9), .ref (m + 10), .int (nI tn), .int he, .int en, .int (nI ln), .int iw, .int id0]) := by rw [ew_3]; exact List.getElem?_set_self (lt_of_get hm)
    have hf3__m___1_ : w_3[(m + 1)]? = some (mI 0 67 (enc ((f, g, sl, op, lo), hd, rs, np, tp, av, lg, pl, tk))) := by rw [ew_3, List.getElem?_set_ne (by omega)]; exact hv
    have hf3__m___2_ : w_3[(m + 2)]? = some (mI 0 67 bf) := by rw [ew_3, List.getElem?_set_ne (by omega)]; exact hbf
    have hf3__m___3_ : w_3[(m + 3)]? = some (mI 0 67 sf) := by rw [ew_3, List.getElem?_set_ne (by omega)]; exact hsf
    have hf3__m___4_ : w_3[(m + 4)]? = some (mI 0 67 kf) := by rw [ew_3, List.getElem?_set_ne (by omega)]; exact hkf
    have hf3__m___5_ : w_3[(m + 5)]? = some (mI 0 536 pf) := by rw [ew_3, List.getElem?_set_ne (by omega)]; exact hpf
    have hf3__m___6_ : w_3[(m + 6)]? = some (mI 0 60 tx) := by rw [ew_3, List.getElem?_set_ne (by omega)]; exact htx
    have hf3__m___7_ : w_3[(m + 7)]? = some (mI 0 40 lf) := by rw [ew_3, List.getElem?_set_ne (by omega)]; exact hlf
    have hf3__m___8_ : w_3[(m + 8)]? = some (mI 0 8 lt) := by rw [ew_3, List.getElem?_set_ne (by omega)]; exact hlt
    have hf3__m___9_ : w_3[(m + 9)]? = some (mI 0 41 wdF) := by rw [ew_3, List.getElem?_set_ne (by omega)]; exact hwd
    have hf3__m___10_ : w_3[(m + 10)]? = some (mI 0 9 waF) := by rw [ew_3, List.getElem?_set_ne (by omega)]; exact hwa
    have hF_3 : Fr m w w_3 := by rw [ew_3]; exact (Fr.set hF0 (by omega) (by omega))
    refine r_aload_n hC dX9_isPeak_16 rfl (j := 0) rfl ?_
    refine r_get hC gX9_isPeak_17 hf3_m (v := .int 0) rfl ?_
    refine r_if_ne hC dX9_isPeak_20 (tgt := 35) (by decide) (fun h => absurd (by decide) h) (fun _ => ?_)
    have p1 : isC c = true := bI_ne.mp c5
    have hb9 := isC_lt p1
    have hb8 := hb9.1
    rw [show Wp X 0 0 w_3 [(0, .ref m), (1, .int c)] [] 23 = Wp X 0 0 w_3 [(0, .ref m), (1, .int (nI c.toNatClampNeg))] [] 23 from by rw [← hb9.2]]
    refine r_aload_n hC dX9_isPeak_23 rfl (j := 0) rfl ?_
    refine r_iload_n hC dX9_isPeak_24 rfl (j := 1) rfl ?_
    refine r_callV hC (vs := [.int (nI c.toNatClampNeg)]) vX9_isPeak_25 (sm_isTop (d := d + 1) hf3_m hf3__m___1_ h25 hpos hb8) hf3_m rfl rfl (by omega) (by omega) (by omega) (Nat.le_of_ble_eq_true rfl) (fun v_4 w_4 hP_4 hlen_4 => ?_) (fun _ _ h => h.elim)
    rw [hP_4.1, hP_4.2]
    show Wp X 0 0 w_3 [(0, .ref m), (1, .int (nI c.toNatClampNeg))] [.int (bI (hPeak f c.toNatClampNeg))] 28
    refine r_if_eq hC dX9_isPeak_28 (tgt := 35) (by decide) (fun c28 => ?_) (fun c28 => ?_)
    · refine r_iconst hC dX9_isPeak_35 (v := 0) (by decide) ?_
      refine r_nret hC hE hR dX9_isPeak_36 (by decide) (by omega) (by omega) (hF_3.1) ?_
      exact (Or.inl ⟨p1, (by rw [bI_0.mp c28]; rfl), ⟨⟨_, _, _, _, _, _, _, _, _, hf3_m, hf3__m___1_, hf3__m___2_, hf3__m___3_, hf3__m___4_, hf3__m___5_, hf3__m___6_, hf3__m___7_, hf3__m___8_, hf3__m___9_, hf3__m___10_, hpo, hso⟩, hF_3⟩⟩)
    · refine r_iconst hC dX9_isPeak_31 (v := 1) (by decide) ?_
      refine r_goto hC dX9_isPeak_32 (tgt := 36) (by decide) ?_
      refine r_nret hC hE hR dX9_isPeak_36 (by decide) (by omega) (by omega) (hF_3.1) ?_
      exact (Or.inl ⟨p1, (by rw [bI_ne.mp c28]; rfl), ⟨⟨_, _, _, _, _, _, _, _, _, hf3_m, hf3__m___1_, hf3__m___2_, hf3__m___3_, hf3__m___4_, hf3__m___5_, hf3__m___6_, hf3__m___7_, hf3__m___8_, hf3__m___9_, hf3__m___10_, hpo, hso⟩, hF_3⟩⟩)
set_option maxRecDepth 100000 in
set_option maxHeartbeats 4000000 in
theorem pk_it {X : mC} {d : Nat} {c : Nat} {w : mW} {m : Nat} {th ch ea fa sv0 tn he en ln iw id0 : Int32} {f g : Nat → Int32} {sl op lo : Int32} {hd rs : Nat → Int32} {np : Nat} {tp av lg pl tk : Int32} (hC : Cx X RX9 cX9_peaks (d + 1) 0 0) (hnl : mNL X = 3) (hm : w[m]? = some (mO 10 [.int th, .int ch, .int ea, .int fa, .int sv0, .ref (m + 1), .ref (m + 2), .ref (m + 3), .ref (m + 4), .ref (m + 5), .ref (m + 6), .ref (m + 7), .ref (m + 8), .ref (m + 9), .ref (m + 10), .int tn, .int he, .int en, .int ln, .int iw, .int id0])) (hv : w[m + 1]? = some (mI 0 67 (enc ((f, g, sl, op, lo), hd, rs, np, tp, av, lg, pl, tk)))) (h25 : f 25 = 0) (hpos : ∀ j, j < 25 → ¬ f j < 0) (hc : c < 25) (kk : Wp X 0 0 w [(0, .ref m), (1, .int (hCnt (hPeak f) (c + 1))), (2, .int (nI (c + 1)))] [] 4) : Wp X 0 0 w [(0, .ref m), (1, .int (hCnt (hPeak f) c)), (2, .int (nI c))] [] 4 := by
  refine r_iload_n hC dX9_peaks_4 rfl (j := 2) rfl ?_
  refine r_bipush hC dX9_peaks_5 (v := 25) (by decide) ?_
  refine r_icmp_ge hC dX9_peaks_7 (tgt := 32) (by decide) (fun h => absurd h (lit_ge rfl hc (by decide))) (fun _ => ?_)
  refine r_iload_n hC dX9_peaks_10 rfl (j := 1) rfl ?_
  refine r_aload_n hC dX9_peaks_11 rfl (j := 0) rfl ?_
  refine r_iload_n hC dX9_peaks_12 rfl (j := 2) rfl ?_
  refine r_callV hC (vs := [.int (nI c)]) vX9_peaks_13 (sm_isTop (d := d) hm hv h25 hpos hc) hm rfl rfl (by omega) (by omega) (by omega) (Nat.le_of_ble_eq_true rfl) (fun v_1 w_1 hP_1 hlen_1 => ?_) (fun _ _ h => h.elim)
  rw [hP_1.1, hP_1.2]
  show Wp X 0 0 w [(0, .ref m), (1, .int (hCnt (hPeak f) c)), (2, .int (nI c))] [.int (bI (hPeak f c)), .int (hCnt (hPeak f) c)] 16
  refine r_if_eq hC dX9_peaks_16 (tgt := 23) (by decide) (fun c16 => ?_) (fun c16 => ?_)
  · refine r_iconst hC dX9_peaks_23 (v := 0) (by decide) ?_
    refine r_iadd hC dX9_peaks_24 ?_
    refine r_istore_n hC dX9_peaks_25 rfl (by rw [hnl]; decide) (L' := [(1, .int ((hCnt (hPeak f) c) + 0)), (0, .ref m), (2, .int (nI c))]) rfl ?_
    refine r_iinc hC dX9_peaks_26 (j := 2) rfl (v := nI (c + 1)) (nI_succ c).symm (by rw [hnl]; decide) (L' := [(2, .int (nI (c + 1))), (1, .int ((hCnt (hPeak f) c) + 0)), (0, .ref m)]) rfl ?_
    refine r_goto hC dX9_peaks_29 (tgt := 4) (by decide) ?_
    refine r_locals [2, 1, 0] (L' := [(0, .ref m), (1, .int ((hCnt (hPeak f) c) + 0)), (2, .int (nI (c + 1)))]) rfl ?_
    have e9 : hCnt (hPeak f) (c + 1) = hCnt (hPeak f) c + 0 := (if_neg (by rw [bI_0.mp c16]; decide)).trans (Int32.add_zero _).symm
    rw [e9] at kk
    exact kk
  · refine r_iconst hC dX9_peaks_19 (v := 1) (by decide) ?_
    refine r_goto hC dX9_peaks_20 (tgt := 24) (by decide) ?_
    refine r_iadd hC dX9_peaks_24 ?_
    refine r_istore_n hC dX9_peaks_25 rfl (by rw [hnl]; decide) (L' := [(1, .int ((hCnt (hPeak f) c) + 1)), (0, .ref m), (2, .int (nI c))]) rfl ?_
    refine r_iinc hC dX9_peaks_26 (j := 2) rfl (v := nI (c + 1)) (nI_succ c).symm (by rw [hnl]; decide) (L' := [(2, .int (nI (c + 1))), (1, .int ((hCnt (hPeak f) c) + 1)), (0, .ref m)]) rfl ?_
    refine r_goto hC dX9_peaks_29 (tgt := 4) (by decide) ?_
    refine r_locals [2, 1, 0] (L' := [(0, .ref m), (1, .int ((hCnt (hPeak f) c) + 1)), (2, .int (nI (c + 1)))]) rfl ?_
    have e9 : hCnt (hPeak f) (c + 1) = hCnt (hPeak f) c + 1 := if_pos (bI_ne.mp c16)
    rw [e9] at kk
    exact kk
set_option maxRecDepth 100000 in
theorem pk_all {X : mC} {d : Nat} {w : mW} {m : Nat} {th ch ea fa sv0 tn he en ln iw id0 : Int32} {f g : Nat → Int32} {sl op lo : Int32} {hd rs : Nat → Int32} {np : Nat} {tp av lg pl tk : Int32} (hC : Cx X RX9 cX9_peaks (d + 1) 0 0) (hnl : mNL X = 3) (hm : w[m]? = some (mO 10 [.int th, .int ch, .int ea, .int fa, .int sv0, .ref (m + 1), .ref (m + 2), .ref (m + 3), .ref (m + 4), .ref (m + 5), .ref (m + 6), .ref (m + 7), .ref (m + 8), .ref (m + 9), .ref (m + 10), .int tn, .int he, .int en, .int ln, .int iw, .int id0])) (hv : w[m + 1]? = some (mI 0 67 (enc ((f, g, sl, op, lo), hd, rs, np, tp, av, lg, pl, tk)))) (h25 : f 25 = 0) (hpos : ∀ j, j < 25 → ¬ f j < 0) (kk : Wp X 0 0 w [(0, .ref m), (1, .int (hCnt (hPeak f) 25)), (2, .int (nI 25))] [] 4) : ∀ n c : Nat, c + n = 25 → Wp X 0 0 w [(0, .ref m), (1, .int (hCnt (hPeak f) c)), (2, .int (nI c))] [] 4 := by
  intro n
  induction n with
  | zero =>
    intro c h9
    obtain rfl : c = 25 := by omega
    exact kk
  | succ n ih =>
    intro c h9
    exact pk_it hC hnl hm hv h25 hpos (by omega) (ih (c + 1) (by omega))
set_option maxRecDepth 100000 in
set_option maxHeartbeats 4000000 in
theorem sm_peaks {d : Nat} {w : mW} {m : Nat} {th ch ea fa sv0 tn he en ln iw id0 : Int32} {f g : Nat → Int32} {sl op lo : Int32} {hd rs : Nat → Int32} {np : Nat} {tp av lg pl tk : Int32} (hm : w[m]? = some (mO 10 [.int th, .int ch, .int ea, .int fa, .int sv0, .ref (m + 1), .ref (m + 2), .ref (m + 3), .ref (m + 4), .ref (m + 5), .ref (m + 6), .ref (m + 7), .ref (m + 8), .ref (m + 9), .ref (m + 10), .int tn, .int he, .int en, .int ln, .int iw, .int id0])) (hv : w[m + 1]? = some (mI 0 67 (enc ((f, g, sl, op, lo), hd, rs, np, tp, av, lg, pl, tk)))) (h25 : f 25 = 0) (hpos : ∀ j, j < 25 → ¬ f j < 0) : Sp (d + 1) yX9_peaks cX9_peaks 3 (some .int) [.ref m] w 0 0 (fun v w' => v = some (.int (hCnt (hPeak f) 25)) ∧ w' = w) noX := by
  refine Sp.of (by decide +kernel) (Nat.le_of_ble_eq_true rfl) (fun X hC hnl hE hR hN => ?_)
  have hC : Cx X RX9 cX9_peaks (d + 1) 0 0 := hC
  show Wp X 0 0 w [(0, .ref m)] [] 0
  refine r_iconst hC dX9_peaks_0 (v := 0) (by decide) ?_
  refine r_istore_n hC dX9_peaks_1 rfl (by rw [hnl]; decide) (L' := [(1, .int 0), (0, .ref m)]) rfl ?_
  refine r_iconst hC dX9_peaks_2 (v := 0) (by decide) ?_
  refine r_istore_n hC dX9_peaks_3 rfl (by rw [hnl]; decide) (L' := [(2, .int 0), (1, .int 0), (0, .ref m)]) rfl ?_
  refine r_locals [2, 1, 0] (L' := [(0, .ref m), (1, .int 0), (2, .int 0)]) rfl ?_
  refine pk_all hC hnl hm hv h25 hpos ?_ 25 0 rfl
  refine r_iload_n hC dX9_peaks_4 rfl (j := 2) rfl ?_
  refine r_bipush hC dX9_peaks_5 (v := 25) (by decide) ?_
  refine r_icmp_ge hC dX9_peaks_7 (tgt := 32) (by decide) (fun _ => ?_) (fun h => absurd (lit_le rfl (Nat.le_refl 25) (by decide)) h)
  refine r_iload_n hC dX9_peaks_32 rfl (j := 1) rfl ?_
  refine r_iret hC hE hR dX9_peaks_33 (by omega) (by omega) (rfl) ?_
  exact ⟨rfl, rfl⟩
set_option maxRecDepth 100000 in
set_option maxHeartbeats 4000000 in
theorem sm_peakCount {d : Nat} {w : mW} {m : Nat} {th : Int32} {f g : Nat → Int32} {sl op lo : Int32} {hd rs : Nat → Int32} {np : Nat} {tp av lg pl tk : Int32} {l : List sv} {ea fa : Int32} {so : Option sv} {tx : Nat → Int32} {tn : Nat} {lf : Nat → Int32} {ln : Nat} (H : MdAt w m th ((f, g, sl, op, lo), hd, rs, np, tp, av, lg, pl, tk) l ea fa so tx tn lf ln) (h25 : f 25 = 0) (hpos : ∀ j, j < 25 → ¬ f j < 0) : Sp (d + 2) yX9_peakCount cX9_peakCount 1 (some .int) [.ref m] w 0 0 (fun v w' => (v = some (.int (hCnt (hPeak f) 25)) ∧ MdTo w w' m 0 ((f, g, sl, op, lo), hd, rs, np, tp, av, lg, pl, tk) l ea fa so tx tn lf ln)) noX := by
  refine Sp.of (by decide +kernel) (Nat.le_of_ble_eq_true rfl) (fun X hC hnl hE hR hN => ?_)
  have hC : Cx X RX9 cX9_peakCount (d + 2) 0 0 := hC
  show Wp X 0 0 w [(0, .ref m)] [] 0
  obtain ⟨he, en, iw, id0, bf, sf, kf, pf, lt, hm, hv, hbf, hsf, hkf, hpf, htx, hlf, hlt, hwd, hwa, hpo, hso⟩ := H
  have hF0 : Fr m w w := Fr.rfl
  refine r_aload_n hC dX9_peakCount_0 rfl (j := 0) rfl ?_
  refine r_iconst hC dX9_peakCount_1 (v := 0) (by decide) ?_
  refine r_put' hC pX9_peakCount_2 hm (Nat.le_of_ble_eq_true rfl) (fun _ => rfl) (fun _ => rfl) (fun w_1 ew_1 => ?_)
  replace ew_1 : w_1 = (w).set (m) (mO 10 [.int 0, .int (nI l.length), .int ea, .int fa, .int (bI so.isSome), .ref (m + 1), .ref (m + 2), .ref (m + 3), .ref (m + 4), .ref (m + 5), .ref (m + 6), .ref (m + 7), .ref (m + 8), .ref (m + 9), .ref (m + 10), .int (nI tn), .int he, .int en, .int (nI ln), .int iw, .int id0]) := ew_1
  have hf1_m : w_1[m]? = some (mO 10 [.int 0, .int (nI l.length), .int ea, .int fa, .int (bI so.isSome), .ref (m + 1), .ref (m + 2), .ref (m + 3), .ref (m + 4), .ref (m + 5), .ref (m + 6), .ref (m + 7), .ref (m + 8), .ref (m + 9), .ref (m + 10), .int (nI tn), .int he, .int en, .int (nI ln), .int iw, .int id0]) := by rw [ew_1]; exact List.getElem?_set_self (lt_of_get hm)
  have hf1__m___1_ : w_1[(m + 1)]? = some (mI 0 67 (enc ((f, g, sl, op, lo), hd, rs, np, tp, av, lg, pl, tk))) := by rw [ew_1, List.getElem?_set_ne (by omega)]; exact hv
  have hf1__m___2_ : w_1[(m + 2)]? = some (mI 0 67 bf) := by rw [ew_1, List.getElem?_set_ne (by omega)]; exact hbf
  have hf1__m___3_ : w_1[(m + 3)]? = some (mI 0 67 sf) := by rw [ew_1, List.getElem?_set_ne (by omega)]; exact hsf
  have hf1__m___4_ : w_1[(m + 4)]? = some (mI 0 67 kf) := by rw [ew_1, List.getElem?_set_ne (by omega)]; exact hkf
  have hf1__m___5_ : w_1[(m + 5)]? = some (mI 0 536 pf) := by rw [ew_1, List.getElem?_set_ne (by omega)]; exact hpf
  have hf1__m___6_ : w_1[(m + 6)]? = some (mI 0 60 tx) := by rw [ew_1, List.getElem?_set_ne (by omega)]; exact htx
  have hf1__m___7_ : w_1[(m + 7)]? = some (mI 0 40 lf) := by rw [ew_1, List.getElem?_set_ne (by omega)]; exact hlf
  have hf1__m___8_ : w_1[(m + 8)]? = some (mI 0 8 lt) := by rw [ew_1, List.getElem?_set_ne (by omega)]; exact hlt
  have hf1__m___9_ : w_1[(m + 9)]? = some (mI 0 41 wdF) := by rw [ew_1, List.getElem?_set_ne (by omega)]; exact hwd
  have hf1__m___10_ : w_1[(m + 10)]? = some (mI 0 9 waF) := by rw [ew_1, List.getElem?_set_ne (by omega)]; exact hwa
  have hF_1 : Fr m w w_1 := by rw [ew_1]; exact (Fr.set hF0 (by omega) (by omega))
  refine r_aload_n hC dX9_peakCount_5 rfl (j := 0) rfl ?_
  refine r_callV hC (vs := []) vX9_peakCount_6 (sm_peaks (d := d) hf1_m hf1__m___1_ h25 hpos) hf1_m rfl rfl (by omega) (by omega) (by omega) (Nat.le_of_ble_eq_true rfl) (fun v_2 w_2 hP_2 hlen_2 => ?_) (fun _ _ h => h.elim)
  rw [hP_2.1, hP_2.2]
  show Wp X 0 0 w_1 [(0, .ref m)] [.int (hCnt (hPeak f) 25)] 9
  refine r_iret hC hE hR dX9_peakCount_9 (by omega) (by omega) (hF_1.1) ?_
  exact ⟨rfl, ⟨⟨_, _, _, _, _, _, _, _, _, hf1_m, hf1__m___1_, hf1__m___2_, hf1__m___3_, hf1__m___4_, hf1__m___5_, hf1__m___6_, hf1__m___7_, hf1__m___8_, hf1__m___9_, hf1__m___10_, hpo, hso⟩, hF_1⟩⟩
set_option maxRecDepth 100000 in
set_option maxHeartbeats 4000000 in
theorem oc_it {X : mC} {d : Nat} {c : Nat} {t : Int32} {w : mW} {m : Nat} {th ch ea fa sv0 tn he en ln iw id0 : Int32} {f g : Nat → Int32} {sl op lo : Int32} {hd rs : Nat → Int32} {np : Nat} {tp av lg pl tk : Int32} (hC : Cx X RX9 cX9_owned (d + 1) 0 0) (hnl : mNL X = 5) (hm : w[m]? = some (mO 10 [.int th, .int ch, .int ea, .int fa, .int sv0, .ref (m + 1), .ref (m + 2), .ref (m + 3), .ref (m + 4), .ref (m + 5), .ref (m + 6), .ref (m + 7), .ref (m + 8), .ref (m + 9), .ref (m + 10), .int tn, .int he, .int en, .int ln, .int iw, .int id0])) (hv : w[m + 1]? = some (mI 0 67 (enc ((f, g, sl, op, lo), hd, rs, np, tp, av, lg, pl, tk)))) (h25 : f 25 = 0) (hpos : ∀ j, j < 25 → ¬ f j < 0) (hc : c < 25) (kk : Wp X 0 0 w [(0, .ref m), (1, .int t), (2, .int 0), (3, .int (hCnt (hOwnP f g t) (c + 1))), (4, .int (nI (c + 1)))] [] 5) : Wp X 0 0 w [(0, .ref m), (1, .int t), (2, .int 0), (3, .int (hCnt (hOwnP f g t) c)), (4, .int (nI c))] [] 5 := by
  refine r_iload hC dX9_owned_5 (j := 4) rfl ?_
  refine r_bipush hC dX9_owned_7 (v := 25) (by decide) ?_
  refine r_icmp_ge hC dX9_owned_9 (tgt := 64) (by decide) (fun h => absurd h (lit_ge rfl hc (by decide))) (fun _ => ?_)
  refine r_aload_n hC dX9_owned_12 rfl (j := 0) rfl ?_
  refine r_iload hC dX9_owned_13 (j := 4) rfl ?_
  refine r_callV hC (vs := [.int (nI c)]) vX9_owned_15 (sm_isTop (d := d) hm hv h25 hpos hc) hm rfl rfl (by omega) (by omega) (by omega) (Nat.le_of_ble_eq_true rfl) (fun v_1 w_1 hP_1 hlen_1 => ?_) (fun _ _ h => h.elim)
  rw [hP_1.1, hP_1.2]
  show Wp X 0 0 w [(0, .ref m), (1, .int t), (2, .int 0), (3, .int (hCnt (hOwnP f g t) c)), (4, .int (nI c))] [.int (bI (hPeak f c))] 18
  refine r_if_eq hC dX9_owned_18 (tgt := 58) (by decide) (fun c18 => ?_) (fun c18 => ?_)
  · refine r_iinc hC dX9_owned_58 (j := 4) rfl (v := nI (c + 1)) (nI_succ c).symm (by rw [hnl]; decide) (L' := [(4, .int (nI (c + 1))), (0, .ref m), (1, .int t), (2, .int 0), (3, .int (hCnt (hOwnP f g t) c))]) rfl ?_
    refine r_goto hC dX9_owned_61 (tgt := 5) (by decide) ?_
    refine r_locals [1, 2, 3, 4, 0] (L' := [(0, .ref m), (1, .int t), (2, .int 0), (3, .int (hCnt (hOwnP f g t) c)), (4, .int (nI (c + 1)))]) rfl ?_
    have h8 : hOwnP f g t c = false := by
      simp [hOwnP, bI_0.mp c18]
    have e9 : hCnt (hOwnP f g t) (c + 1) = hCnt (hOwnP f g t) c := if_neg (by rw [h8]; decide)
    rw [e9] at kk
    exact kk
  · refine r_aload_n hC dX9_owned_21 rfl (j := 0) rfl ?_
    refine r_get hC gX9_owned_22 hm (v := .ref (m + 1)) rfl ?_
    refine r_bipush hC dX9_owned_25 (v := 42) (by decide) ?_
    refine r_iload hC dX9_owned_27 (j := 4) rfl ?_
    refine r_iadd hC dX9_owned_29 ?_
    refine r_iald hC dX9_owned_30 (j := (42 + c)) hv (ix42 (c := c) (by omega)) ?_
    rw [enc_ow (c := c) (by omega)]
    refine r_iload_n hC dX9_owned_31 rfl (j := 1) rfl ?_
    refine r_iconst hC dX9_owned_32 (v := 1) (by decide) ?_
    refine r_iadd hC dX9_owned_33 ?_
    refine r_icmp_ne hC dX9_owned_34 (tgt := 58) (by decide) (fun c34 => ?_) (fun c34 => ?_)
    · refine r_iinc hC dX9_owned_58 (j := 4) rfl (v := nI (c + 1)) (nI_succ c).symm (by rw [hnl]; decide) (L' := [(4, .int (nI (c + 1))), (0, .ref m), (1, .int t), (2, .int 0), (3, .int (hCnt (hOwnP f g t) c))]) rfl ?_
      refine r_goto hC dX9_owned_61 (tgt := 5) (by decide) ?_
      refine r_locals [1, 2, 3, 4, 0] (L' := [(0, .ref m), (1, .int t), (2, .int 0), (3, .int (hCnt (hOwnP f g t) c)), (4, .int (nI (c + 1)))]) rfl ?_
      have h7 : ¬ g c = t := fun z => c34 (by rw [z])
      have h8 : hOwnP f g t c = false := by
        simp [hOwnP, h7]
      have e9 : hCnt (hOwnP f g t) (c + 1) = hCnt (hOwnP f g t) c := if_neg (by rw [h8]; decide)
      rw [e9] at kk
      exact kk
    · refine r_iload_n hC dX9_owned_37 rfl (j := 3) rfl ?_
      refine r_iload_n hC dX9_owned_38 rfl (j := 2) rfl ?_
      refine r_if_eq hC dX9_owned_39 (tgt := 55) (by decide) (fun _ => ?_) (fun h => absurd (by decide) h)
      refine r_iconst hC dX9_owned_55 (v := 1) (by decide) ?_
      refine r_iadd hC dX9_owned_56 ?_
      refine r_istore_n hC dX9_owned_57 rfl (by rw [hnl]; decide) (L' := [(3, .int ((hCnt (hOwnP f g t) c) + 1)), (0, .ref m), (1, .int t), (2, .int 0), (4, .int (nI c))]) rfl ?_
      refine r_iinc hC dX9_owned_58 (j := 4) rfl (v := nI (c + 1)) (nI_succ c).symm (by rw [hnl]; decide) (L' := [(4, .int (nI (c + 1))), (3, .int ((hCnt (hOwnP f g t) c) + 1)), (0, .ref m), (1, .int t), (2, .int 0)]) rfl ?_
      refine r_goto hC dX9_owned_61 (tgt := 5) (by decide) ?_
      refine r_locals [2, 3, 4, 1, 0] (L' := [(0, .ref m), (1, .int t), (2, .int 0), (3, .int ((hCnt (hOwnP f g t) c) + 1)), (4, .int (nI (c + 1)))]) rfl ?_
      have h7 : g c = t := add1_inj.mp c34
      have h8 : hOwnP f g t c = true := by
        simp [hOwnP, h7, bI_ne.mp c18]
      have e9 : hCnt (hOwnP f g t) (c + 1) = hCnt (hOwnP f g t) c + 1 := if_pos h8
      rw [e9] at kk
      exact kk
set_option maxRecDepth 100000 in
theorem oc_all {X : mC} {d : Nat} {t : Int32} {w : mW} {m : Nat} {th ch ea fa sv0 tn he en ln iw id0 : Int32} {f g : Nat → Int32} {sl op lo : Int32} {hd rs : Nat → Int32} {np : Nat} {tp av lg pl tk : Int32} (hC : Cx X RX9 cX9_owned (d + 1) 0 0) (hnl : mNL X = 5) (hm : w[m]? = some (mO 10 [.int th, .int ch, .int ea, .int fa, .int sv0, .ref (m + 1), .ref (m + 2), .ref (m + 3), .ref (m + 4), .ref (m + 5), .ref (m + 6), .ref (m + 7), .ref (m + 8), .ref (m + 9), .ref (m + 10), .int tn, .int he, .int en, .int ln, .int iw, .int id0])) (hv : w[m + 1]? = some (mI 0 67 (enc ((f, g, sl, op, lo), hd, rs, np, tp, av, lg, pl, tk)))) (h25 : f 25 = 0) (hpos : ∀ j, j < 25 → ¬ f j < 0) (kk : Wp X 0 0 w [(0, .ref m), (1, .int t), (2, .int 0), (3, .int (hCnt (hOwnP f g t) 25)), (4, .int (nI 25))] [] 5) : ∀ n c : Nat, c + n = 25 → Wp X 0 0 w [(0, .ref m), (1, .int t), (2, .int 0), (3, .int (hCnt (hOwnP f g t) c)), (4, .int (nI c))] [] 5 := by
  intro n
  induction n with
  | zero =>
    intro c h9
    obtain rfl : c = 25 := by omega
    exact kk
  | succ n ih =>
    intro c h9
    exact oc_it hC hnl hm hv h25 hpos (by omega) (ih (c + 1) (by omega))
set_option maxRecDepth 100000 in
set_option maxHeartbeats 4000000 in
theorem sm_owned0 {d : Nat} {t : Int32} {w : mW} {m : Nat} {th ch ea fa sv0 tn he en ln iw id0 : Int32} {f g : Nat → Int32} {sl op lo : Int32} {hd rs : Nat → Int32} {np : Nat} {tp av lg pl tk : Int32} (hm : w[m]? = some (mO 10 [.int th, .int ch, .int ea, .int fa, .int sv0, .ref (m + 1), .ref (m + 2), .ref (m + 3), .ref (m + 4), .ref (m + 5), .ref (m + 6), .ref (m + 7), .ref (m + 8), .ref (m + 9), .ref (m + 10), .int tn, .int he, .int en, .int ln, .int iw, .int id0])) (hv : w[m + 1]? = some (mI 0 67 (enc ((f, g, sl, op, lo), hd, rs, np, tp, av, lg, pl, tk)))) (h25 : f 25 = 0) (hpos : ∀ j, j < 25 → ¬ f j < 0) : Sp (d + 1) yX9_owned cX9_owned 5 (some .int) [.ref m, .int t, .int 0] w 0 0 (fun v w' => v = some (.int (hCnt (hOwnP f g t) 25)) ∧ w' = w) noX := by
  refine Sp.of (by decide +kernel) (Nat.le_of_ble_eq_true rfl) (fun X hC hnl hE hR hN => ?_)
  have hC : Cx X RX9 cX9_owned (d + 1) 0 0 := hC
  show Wp X 0 0 w [(0, .ref m), (1, .int t), (2, .int 0)] [] 0
  refine r_iconst hC dX9_owned_0 (v := 0) (by decide) ?_
  refine r_istore_n hC dX9_owned_1 rfl (by rw [hnl]; decide) (L' := [(3, .int 0), (0, .ref m), (1, .int t), (2, .int 0)]) rfl ?_
  refine r_iconst hC dX9_owned_2 (v := 0) (by decide) ?_
  refine r_istore hC dX9_owned_3 (by rw [hnl]; decide) (L' := [(4, .int 0), (3, .int 0), (0, .ref m), (1, .int t), (2, .int 0)]) rfl ?_
  refine r_locals [2, 3, 4, 1, 0] (L' := [(0, .ref m), (1, .int t), (2, .int 0), (3, .int 0), (4, .int 0)]) rfl ?_
  refine oc_all hC hnl hm hv h25 hpos ?_ 25 0 rfl
  refine r_iload hC dX9_owned_5 (j := 4) rfl ?_
  refine r_bipush hC dX9_owned_7 (v := 25) (by decide) ?_
  refine r_icmp_ge hC dX9_owned_9 (tgt := 64) (by decide) (fun _ => ?_) (fun h => absurd (lit_le rfl (Nat.le_refl 25) (by decide)) h)
  refine r_iload_n hC dX9_owned_64 rfl (j := 3) rfl ?_
  refine r_iret hC hE hR dX9_owned_65 (by omega) (by omega) (rfl) ?_
  exact ⟨rfl, rfl⟩
set_option maxRecDepth 100000 in
set_option maxHeartbeats 4000000 in
theorem os_it {X : mC} {d : Nat} {c : Nat} {t : Int32} {w : mW} {m : Nat} {th ch ea fa sv0 tn he en ln iw id0 : Int32} {f g : Nat → Int32} {sl op lo : Int32} {hd rs : Nat → Int32} {np : Nat} {tp av lg pl tk : Int32} (hC : Cx X RX9 cX9_owned (d + 1) 0 0) (hnl : mNL X = 5) (hm : w[m]? = some (mO 10 [.int th, .int ch, .int ea, .int fa, .int sv0, .ref (m + 1), .ref (m + 2), .ref (m + 3), .ref (m + 4), .ref (m + 5), .ref (m + 6), .ref (m + 7), .ref (m + 8), .ref (m + 9), .ref (m + 10), .int tn, .int he, .int en, .int ln, .int iw, .int id0])) (hv : w[m + 1]? = some (mI 0 67 (enc ((f, g, sl, op, lo), hd, rs, np, tp, av, lg, pl, tk)))) (h25 : f 25 = 0) (hpos : ∀ j, j < 25 → ¬ f j < 0) (hc : c < 25) (kk : Wp X 0 0 w [(0, .ref m), (1, .int t), (2, .int 1), (3, .int (hSumIf (hOwnP f g t) f (c + 1))), (4, .int (nI (c + 1)))] [] 5) : Wp X 0 0 w [(0, .ref m), (1, .int t), (2, .int 1), (3, .int (hSumIf (hOwnP f g t) f c)), (4, .int (nI c))] [] 5 := by
  refine r_iload hC dX9_owned_5 (j := 4) rfl ?_
  refine r_bipush hC dX9_owned_7 (v := 25) (by decide) ?_
  refine r_icmp_ge hC dX9_owned_9 (tgt := 64) (by decide) (fun h => absurd h (lit_ge rfl hc (by decide))) (fun _ => ?_)
  refine r_aload_n hC dX9_owned_12 rfl (j := 0) rfl ?_
  refine r_iload hC dX9_owned_13 (j := 4) rfl ?_
  refine r_callV hC (vs := [.int (nI c)]) vX9_owned_15 (sm_isTop (d := d) hm hv h25 hpos hc) hm rfl rfl (by omega) (by omega) (by omega) (Nat.le_of_ble_eq_true rfl) (fun v_1 w_1 hP_1 hlen_1 => ?_) (fun _ _ h => h.elim)
  rw [hP_1.1, hP_1.2]
  show Wp X 0 0 w [(0, .ref m), (1, .int t), (2, .int 1), (3, .int (hSumIf (hOwnP f g t) f c)), (4, .int (nI c))] [.int (bI (hPeak f c))] 18
  refine r_if_eq hC dX9_owned_18 (tgt := 58) (by decide) (fun c18 => ?_) (fun c18 => ?_)
  · refine r_iinc hC dX9_owned_58 (j := 4) rfl (v := nI (c + 1)) (nI_succ c).symm (by rw [hnl]; decide) (L' := [(4, .int (nI (c + 1))), (0, .ref m), (1, .int t), (2, .int 1), (3, .int (hSumIf (hOwnP f g t) f c))]) rfl ?_
    refine r_goto hC dX9_owned_61 (tgt := 5) (by decide) ?_
    refine r_locals [1, 2, 3, 4, 0] (L' := [(0, .ref m), (1, .int t), (2, .int 1), (3, .int (hSumIf (hOwnP f g t) f c)), (4, .int (nI (c + 1)))]) rfl ?_
    have h8 : hOwnP f g t c = false := by
      simp [hOwnP, bI_0.mp c18]
    have e9 : hSumIf (hOwnP f g t) f (c + 1) = hSumIf (hOwnP f g t) f c := if_neg (by rw [h8]; decide)
    rw [e9] at kk
    exact kk
  · refine r_aload_n hC dX9_owned_21 rfl (j := 0) rfl ?_
    refine r_get hC gX9_owned_22 hm (v := .ref (m + 1)) rfl ?_
    refine r_bipush hC dX9_owned_25 (v := 42) (by decide) ?_
    refine r_iload hC dX9_owned_27 (j := 4) rfl ?_
    refine r_iadd hC dX9_owned_29 ?_
    refine r_iald hC dX9_owned_30 (j := (42 + c)) hv (ix42 (c := c) (by omega)) ?_
    rw [enc_ow (c := c) (by omega)]
    refine r_iload_n hC dX9_owned_31 rfl (j := 1) rfl ?_
    refine r_iconst hC dX9_owned_32 (v := 1) (by decide) ?_
    refine r_iadd hC dX9_owned_33 ?_
    refine r_icmp_ne hC dX9_owned_34 (tgt := 58) (by decide) (fun c34 => ?_) (fun c34 => ?_)
    · refine r_iinc hC dX9_owned_58 (j := 4) rfl (v := nI (c + 1)) (nI_succ c).symm (by rw [hnl]; decide) (L' := [(4, .int (nI (c + 1))), (0, .ref m), (1, .int t), (2, .int 1), (3, .int (hSumIf (hOwnP f g t) f c))]) rfl ?_
      refine r_goto hC dX9_owned_61 (tgt := 5) (by decide) ?_
      refine r_locals [1, 2, 3, 4, 0] (L' := [(0, .ref m), (1, .int t), (2, .int 1), (3, .int (hSumIf (hOwnP f g t) f c)), (4, .int (nI (c + 1)))]) rfl ?_
      have h7 : ¬ g c = t := fun z => c34 (by rw [z])
      have h8 : hOwnP f g t c = false := by
        simp [hOwnP, h7]
      have e9 : hSumIf (hOwnP f g t) f (c + 1) = hSumIf (hOwnP f g t) f c := if_neg (by rw [h8]; decide)
      rw [e9] at kk
      exact kk
    · refine r_iload_n hC dX9_owned_37 rfl (j := 3) rfl ?_
      refine r_iload_n hC dX9_owned_38 rfl (j := 2) rfl ?_
      refine r_if_eq hC dX9_owned_39 (tgt := 55) (by decide) (fun h => absurd h (by decide)) (fun _ => ?_)
      refine r_aload_n hC dX9_owned_42 rfl (j := 0) rfl ?_
      refine r_get hC gX9_owned_43 hm (v := .ref (m + 1)) rfl ?_
      refine r_bipush hC dX9_owned_46 (v := 17) (by decide) ?_
      refine r_iload hC dX9_owned_48 (j := 4) rfl ?_
      refine r_iadd hC dX9_owned_50 ?_
      refine r_iald hC dX9_owned_51 (j := (17 + c)) hv (ix17 (c := c) (by omega)) ?_
      rw [enc_hi (c := c) (by omega)]
      refine r_goto hC dX9_owned_52 (tgt := 56) (by decide) ?_
      refine r_iadd hC dX9_owned_56 ?_
      refine r_istore_n hC dX9_owned_57 rfl (by rw [hnl]; decide) (L' := [(3, .int ((hSumIf (hOwnP f g t) f c) + (f c))), (0, .ref m), (1, .int t), (2, .int 1), (4, .int (nI c))]) rfl ?_
      refine r_iinc hC dX9_owned_58 (j := 4) rfl (v := nI (c + 1)) (nI_succ c).symm (by rw [hnl]; decide) (L' := [(4, .int (nI (c + 1))), (3, .int ((hSumIf (hOwnP f g t) f c) + (f c))), (0, .ref m), (1, .int t), (2, .int 1)]) rfl ?_
      refine r_goto hC dX9_owned_61 (tgt := 5) (by decide) ?_
      refine r_locals [2, 3, 4, 1, 0] (L' := [(0, .ref m), (1, .int t), (2, .int 1), (3, .int ((hSumIf (hOwnP f g t) f c) + (f c))), (4, .int (nI (c + 1)))]) rfl ?_
      have h7 : g c = t := add1_inj.mp c34
      have h8 : hOwnP f g t c = true := by
        simp [hOwnP, h7, bI_ne.mp c18]
      have e9 : hSumIf (hOwnP f g t) f (c + 1) = hSumIf (hOwnP f g t) f c + f c := if_pos h8
      rw [e9] at kk
      exact kk
set_option maxRecDepth 100000 in
theorem os_all {X : mC} {d : Nat} {t : Int32} {w : mW} {m : Nat} {th ch ea fa sv0 tn he en ln iw id0 : Int32} {f g : Nat → Int32} {sl op lo : Int32} {hd rs : Nat → Int32} {np : Nat} {tp av lg pl tk : Int32} (hC : Cx X RX9 cX9_owned (d + 1) 0 0) (hnl : mNL X = 5) (hm : w[m]? = some (mO 10 [.int th, .int ch, .int ea, .int fa, .int sv0, .ref (m + 1), .ref (m + 2), .ref (m + 3), .ref (m + 4), .ref (m + 5), .ref (m + 6), .ref (m + 7), .ref (m + 8), .ref (m + 9), .ref (m + 10), .int tn, .int he, .int en, .int ln, .int iw, .int id0])) (hv : w[m + 1]? = some (mI 0 67 (enc ((f, g, sl, op, lo), hd, rs, np, tp, av, lg, pl, tk)))) (h25 : f 25 = 0) (hpos : ∀ j, j < 25 → ¬ f j < 0) (kk : Wp X 0 0 w [(0, .ref m), (1, .int t), (2, .int 1), (3, .int (hSumIf (hOwnP f g t) f 25)), (4, .int (nI 25))] [] 5) : ∀ n c : Nat, c + n = 25 → Wp X 0 0 w [(0, .ref m), (1, .int t), (2, .int 1), (3, .int (hSumIf (hOwnP f g t) f c)), (4, .int (nI c))] [] 5 := by
  intro n
  induction n with
  | zero =>
    intro c h9
    obtain rfl : c = 25 := by omega
    exact kk
  | succ n ih =>
    intro c h9
    exact os_it hC hnl hm hv h25 hpos (by omega) (ih (c + 1) (by omega))
set_option maxRecDepth 100000 in
set_option maxHeartbeats 4000000 in
theorem sm_owned1 {d : Nat} {t : Int32} {w : mW} {m : Nat} {th ch ea fa sv0 tn he en ln iw id0 : Int32} {f g : Nat → Int32} {sl op lo : Int32} {hd rs : Nat → Int32} {np : Nat} {tp av lg pl tk : Int32} (hm : w[m]? = some (mO 10 [.int th, .int ch, .int ea, .int fa, .int sv0, .ref (m + 1), .ref (m + 2), .ref (m + 3), .ref (m + 4), .ref (m + 5), .ref (m + 6), .ref (m + 7), .ref (m + 8), .ref (m + 9), .ref (m + 10), .int tn, .int he, .int en, .int ln, .int iw, .int id0])) (hv : w[m + 1]? = some (mI 0 67 (enc ((f, g, sl, op, lo), hd, rs, np, tp, av, lg, pl, tk)))) (h25 : f 25 = 0) (hpos : ∀ j, j < 25 → ¬ f j < 0) : Sp (d + 1) yX9_owned cX9_owned 5 (some .int) [.ref m, .int t, .int 1] w 0 0 (fun v w' => v = some (.int (hSumIf (hOwnP f g t) f 25)) ∧ w' = w) noX := by
  refine Sp.of (by decide +kernel) (Nat.le_of_ble_eq_true rfl) (fun X hC hnl hE hR hN => ?_)
  have hC : Cx X RX9 cX9_owned (d + 1) 0 0 := hC
  show Wp X 0 0 w [(0, .ref m), (1, .int t), (2, .int 1)] [] 0
  refine r_iconst hC dX9_owned_0 (v := 0) (by decide) ?_
  refine r_istore_n hC dX9_owned_1 rfl (by rw [hnl]; decide) (L' := [(3, .int 0), (0, .ref m), (1, .int t), (2, .int 1)]) rfl ?_
  refine r_iconst hC dX9_owned_2 (v := 0) (by decide) ?_
  refine r_istore hC dX9_owned_3 (by rw [hnl]; decide) (L' := [(4, .int 0), (3, .int 0), (0, .ref m), (1, .int t), (2, .int 1)]) rfl ?_
  refine r_locals [2, 3, 4, 1, 0] (L' := [(0, .ref m), (1, .int t), (2, .int 1), (3, .int 0), (4, .int 0)]) rfl ?_
  refine os_all hC hnl hm hv h25 hpos ?_ 25 0 rfl
  refine r_iload hC dX9_owned_5 (j := 4) rfl ?_
  refine r_bipush hC dX9_owned_7 (v := 25) (by decide) ?_
  refine r_icmp_ge hC dX9_owned_9 (tgt := 64) (by decide) (fun _ => ?_) (fun h => absurd (lit_le rfl (Nat.le_refl 25) (by decide)) h)
  refine r_iload_n hC dX9_owned_64 rfl (j := 3) rfl ?_
  refine r_iret hC hE hR dX9_owned_65 (by omega) (by omega) (rfl) ?_
  exact ⟨rfl, rfl⟩
set_option maxRecDepth 100000 in
set_option maxHeartbeats 4000000 in
theorem sm_crowns {d : Nat} {q : Int32} {w : mW} {m : Nat} {th : Int32} {f g : Nat → Int32} {sl op lo : Int32} {hd rs : Nat → Int32} {np : Nat} {tp av lg pl tk : Int32} {l : List sv} {ea fa : Int32} {so : Option sv} {tx : Nat → Int32} {tn : Nat} {lf : Nat → Int32} {ln : Nat} (H : MdAt w m th ((f, g, sl, op, lo), hd, rs, np, tp, av, lg, pl, tk) l ea fa so tx tn lf ln) (hnp : np ≤ 4) (h25 : f 25 = 0) (hpos : ∀ j, j < 25 → ¬ f j < 0) : Sp (d + 2) yX9_crowns cX9_crowns 2 (some .int) [.ref m, .int q] w 0 0 (fun v w' => (isP q np = true ∧ v = some (.int (hCnt (hOwnP f g q) 25)) ∧ MdTo w w' m 0 ((f, g, sl, op, lo), hd, rs, np, tp, av, lg, pl, tk) l ea fa so tx tn lf ln) ∨ (isP q np = false ∧ v = some (.int 0) ∧ MdTo w w' m 1 ((f, g, sl, op, lo), hd, rs, np, tp, av, lg, pl, tk) l ea fa so tx tn lf ln)) noX := by
  refine Sp.of (by decide +kernel) (Nat.le_of_ble_eq_true rfl) (fun X hC hnl hE hR hN => ?_)
  have hC : Cx X RX9 cX9_crowns (d + 2) 0 0 := hC
  show Wp X 0 0 w [(0, .ref m), (1, .int q)] [] 0
  obtain ⟨he, en, iw, id0, bf, sf, kf, pf, lt, hm, hv, hbf, hsf, hkf, hpf, htx, hlf, hlt, hwd, hwa, hpo, hso⟩ := H
  have hF0 : Fr m w w := Fr.rfl
  refine r_aload_n hC dX9_crowns_0 rfl (j := 0) rfl ?_
  refine r_aload_n hC dX9_crowns_1 rfl (j := 0) rfl ?_
  refine r_iload_n hC dX9_crowns_2 rfl (j := 1) rfl ?_
  refine r_callV hC (vs := [.int q]) vX9_crowns_3 (sm_isPlayer (d := d) hm hv hnp) hm rfl rfl (by omega) (by omega) (by omega) (Nat.le_of_ble_eq_true rfl) (fun v_1 w_1 hP_1 hlen_1 => ?_) (fun _ _ h => h.elim)
  rw [hP_1.1, hP_1.2]
  show Wp X 0 0 w [(0, .ref m), (1, .int q)] [.int (bI (isP q np)), .ref m] 6
  refine r_if_eq hC dX9_crowns_6 (tgt := 13) (by decide) (fun c6 => ?_) (fun c6 => ?_)
  · refine r_iconst hC dX9_crowns_13 (v := 1) (by decide) ?_
    refine r_put' hC pX9_crowns_14 hm (Nat.le_of_ble_eq_true rfl) (fun _ => rfl) (fun _ => rfl) (fun w_2 ew_2 => ?_)
    replace ew_2 : w_2 = (w).set (m) (mO 10 [.int 1, .int (nI l.length), .int ea, .int fa, .int (bI so.isSome), .ref (m + 1), .ref (m + 2), .ref (m + 3), .ref (m + 4), .ref (m + 5), .ref (m + 6), .ref (m + 7), .ref (m + 8), .ref (m + 9), .ref (m + 10), .int (nI tn), .int he, .int en, .int (nI ln), .int iw, .int id0]) := ew_2
    have hf2_m : w_2[m]? = some (mO 10 [.int 1, .int (nI l.length), .int ea, .int fa, .int (bI so.isSome), .ref (m + 1), .ref (m + 2), .ref (m + 3), .ref (m + 4), .ref (m + 5), .ref (m + 6), .ref (m + 7), .ref (m + 8), .ref (m + 9), .ref (m + 10), .int (nI tn), .int he, .int en, .int (nI ln), .int iw, .int id0]) := by rw [ew_2]; exact List.getElem?_set_self (lt_of_get hm)
    have hf2__m___1_ : w_2[(m + 1)]? = some (mI 0 67 (enc ((f, g, sl, op, lo), hd, rs, np, tp, av, lg, pl, tk))) := by rw [ew_2, List.getElem?_set_ne (by omega)]; exact hv
    have hf2__m___2_ : w_2[(m + 2)]? = some (mI 0 67 bf) := by rw [ew_2, List.getElem?_set_ne (by omega)]; exact hbf
    have hf2__m___3_ : w_2[(m + 3)]? = some (mI 0 67 sf) := by rw [ew_2, List.getElem?_set_ne (by omega)]; exact hsf
    have hf2__m___4_ : w_2[(m + 4)]? = some (mI 0 67 kf) := by rw [ew_2, List.getElem?_set_ne (by omega)]; exact hkf
    have hf2__m___5_ : w_2[(m + 5)]? = some (mI 0 536 pf) := by rw [ew_2, List.getElem?_set_ne (by omega)]; exact hpf
    have hf2__m___6_ : w_2[(m + 6)]? = some (mI 0 60 tx) := by rw [ew_2, List.getElem?_set_ne (by omega)]; exact htx
    have hf2__m___7_ : w_2[(m + 7)]? = some (mI 0 40 lf) := by rw [ew_2, List.getElem?_set_ne (by omega)]; exact hlf
    have hf2__m___8_ : w_2[(m + 8)]? = some (mI 0 8 lt) := by rw [ew_2, List.getElem?_set_ne (by omega)]; exact hlt
    have hf2__m___9_ : w_2[(m + 9)]? = some (mI 0 41 wdF) := by rw [ew_2, List.getElem?_set_ne (by omega)]; exact hwd
    have hf2__m___10_ : w_2[(m + 10)]? = some (mI 0 9 waF) := by rw [ew_2, List.getElem?_set_ne (by omega)]; exact hwa
    have hF_2 : Fr m w w_2 := by rw [ew_2]; exact (Fr.set hF0 (by omega) (by omega))
    refine r_aload_n hC dX9_crowns_17 rfl (j := 0) rfl ?_
    refine r_get hC gX9_crowns_18 hf2_m (v := .int 1) rfl ?_
    refine r_if_ne hC dX9_crowns_21 (tgt := 33) (by decide) (fun _ => ?_) (fun h => absurd h (by decide))
    refine r_iconst hC dX9_crowns_33 (v := 0) (by decide) ?_
    refine r_iret hC hE hR dX9_crowns_34 (by omega) (by omega) (hF_2.1) ?_
    exact (Or.inr ⟨(bI_0.mp c6), rfl, ⟨⟨_, _, _, _, _, _, _, _, _, hf2_m, hf2__m___1_, hf2__m___2_, hf2__m___3_, hf2__m___4_, hf2__m___5_, hf2__m___6_, hf2__m___7_, hf2__m___8_, hf2__m___9_, hf2__m___10_, hpo, hso⟩, hF_2⟩⟩)
  · refine r_iconst hC dX9_crowns_9 (v := 0) (by decide) ?_
    refine r_goto hC dX9_crowns_10 (tgt := 14) (by decide) ?_
    refine r_put' hC pX9_crowns_14 hm (Nat.le_of_ble_eq_true rfl) (fun _ => rfl) (fun _ => rfl) (fun w_3 ew_3 => ?_)
    replace ew_3 : w_3 = (w).set (m) (mO 10 [.int 0, .int (nI l.length), .int ea, .int fa, .int (bI so.isSome), .ref (m + 1), .ref (m + 2), .ref (m + 3), .ref (m + 4), .ref (m + 5), .ref (m + 6), .ref (m + 7), .ref (m + 8), .ref (m + 9), .ref (m + 10), .int (nI tn), .int he, .int en, .int (nI ln), .int iw, .int id0]) := ew_3
    have hf3_m : w_3[m]? = some (mO 10 [.int 0, .int (nI l.length), .int ea, .int fa, .int (bI so.isSome), .ref (m + 1), .ref (m + 2), .ref (m + 3), .ref (m + 4), .ref (m + 5), .ref (m + 6), .ref (m + 7), .ref (m + 8), .ref (m + 9), .ref (m + 10), .int (nI tn), .int he, .int en, .int (nI ln), .int iw, .int id0]) := by rw [ew_3]; exact List.getElem?_set_self (lt_of_get hm)
    have hf3__m___1_ : w_3[(m + 1)]? = some (mI 0 67 (enc ((f, g, sl, op, lo), hd, rs, np, tp, av, lg, pl, tk))) := by rw [ew_3, List.getElem?_set_ne (by omega)]; exact hv
    have hf3__m___2_ : w_3[(m + 2)]? = some (mI 0 67 bf) := by rw [ew_3, List.getElem?_set_ne (by omega)]; exact hbf
    have hf3__m___3_ : w_3[(m + 3)]? = some (mI 0 67 sf) := by rw [ew_3, List.getElem?_set_ne (by omega)]; exact hsf
    have hf3__m___4_ : w_3[(m + 4)]? = some (mI 0 67 kf) := by rw [ew_3, List.getElem?_set_ne (by omega)]; exact hkf
    have hf3__m___5_ : w_3[(m + 5)]? = some (mI 0 536 pf) := by rw [ew_3, List.getElem?_set_ne (by omega)]; exact hpf
    have hf3__m___6_ : w_3[(m + 6)]? = some (mI 0 60 tx) := by rw [ew_3, List.getElem?_set_ne (by omega)]; exact htx
    have hf3__m___7_ : w_3[(m + 7)]? = some (mI 0 40 lf) := by rw [ew_3, List.getElem?_set_ne (by omega)]; exact hlf
    have hf3__m___8_ : w_3[(m + 8)]? = some (mI 0 8 lt) := by rw [ew_3, List.getElem?_set_ne (by omega)]; exact hlt
    have hf3__m___9_ : w_3[(m + 9)]? = some (mI 0 41 wdF) := by rw [ew_3, List.getElem?_set_ne (by omega)]; exact hwd
    have hf3__m___10_ : w_3[(m + 10)]? = some (mI 0 9 waF) := by rw [ew_3, List.getElem?_set_ne (by omega)]; exact hwa
    have hF_3 : Fr m w w_3 := by rw [ew_3]; exact (Fr.set hF0 (by omega) (by omega))
    refine r_aload_n hC dX9_crowns_17 rfl (j := 0) rfl ?_
    refine r_get hC gX9_crowns_18 hf3_m (v := .int 0) rfl ?_
    refine r_if_ne hC dX9_crowns_21 (tgt := 33) (by decide) (fun h => absurd (by decide) h) (fun _ => ?_)
    refine r_aload_n hC dX9_crowns_24 rfl (j := 0) rfl ?_
    refine r_iload_n hC dX9_crowns_25 rfl (j := 1) rfl ?_
    refine r_iconst hC dX9_crowns_26 (v := 0) (by decide) ?_
    refine r_callV hC (vs := [.int q, .int 0]) vX9_crowns_27 (sm_owned0 (d := d) (t := q) hf3_m hf3__m___1_ h25 hpos) hf3_m rfl rfl (by omega) (by omega) (by omega) (Nat.le_of_ble_eq_true rfl) (fun v_4 w_4 hP_4 hlen_4 => ?_) (fun _ _ h => h.elim)
    rw [hP_4.1, hP_4.2]
    show Wp X 0 0 w_3 [(0, .ref m), (1, .int q)] [.int (hCnt (hOwnP f g q) 25)] 30
    refine r_goto hC dX9_crowns_30 (tgt := 34) (by decide) ?_
    refine r_iret hC hE hR dX9_crowns_34 (by omega) (by omega) (hF_3.1) ?_
    exact (Or.inl ⟨(bI_ne.mp c6), rfl, ⟨⟨_, _, _, _, _, _, _, _, _, hf3_m, hf3__m___1_, hf3__m___2_, hf3__m___3_, hf3__m___4_, hf3__m___5_, hf3__m___6_, hf3__m___7_, hf3__m___8_, hf3__m___9_, hf3__m___10_, hpo, hso⟩, hF_3⟩⟩)
set_option maxRecDepth 100000 in
set_option maxHeartbeats 4000000 in
theorem sm_score {d : Nat} {q : Int32} {w : mW} {m : Nat} {th : Int32} {f g : Nat → Int32} {sl op lo : Int32} {hd rs : Nat → Int32} {np : Nat} {tp av lg pl tk : Int32} {l : List sv} {ea fa : Int32} {so : Option sv} {tx : Nat → Int32} {tn : Nat} {lf : Nat → Int32} {ln : Nat} (H : MdAt w m th ((f, g, sl, op, lo), hd, rs, np, tp, av, lg, pl, tk) l ea fa so tx tn lf ln) (hnp : np ≤ 4) (h25 : f 25 = 0) (hpos : ∀ j, j < 25 → ¬ f j < 0) : Sp (d + 2) yX9_score cX9_score 2 (some .int) [.ref m, .int q] w 0 0 (fun v w' => (isP q np = true ∧ v = some (.int (hSumIf (hOwnP f g q) f 25)) ∧ MdTo w w' m 0 ((f, g, sl, op, lo), hd, rs, np, tp, av, lg, pl, tk) l ea fa so tx tn lf ln) ∨ (isP q np = false ∧ v = some (.int 0) ∧ MdTo w w' m 1 ((f, g, sl, op, lo), hd, rs, np, tp, av, lg, pl, tk) l ea fa so tx tn lf ln)) noX := by
  refine Sp.of (by decide +kernel) (Nat.le_of_ble_eq_true rfl) (fun X hC hnl hE hR hN => ?_)
  have hC : Cx X RX9 cX9_score (d + 2) 0 0 := hC
  show Wp X 0 0 w [(0, .ref m), (1, .int q)] [] 0
  obtain ⟨he, en, iw, id0, bf, sf, kf, pf, lt, hm, hv, hbf, hsf, hkf, hpf, htx, hlf, hlt, hwd, hwa, hpo, hso⟩ := H
  have hF0 : Fr m w w := Fr.rfl
  refine r_aload_n hC dX9_score_0 rfl (j := 0) rfl ?_
  refine r_aload_n hC dX9_score_1 rfl (j := 0) rfl ?_
  refine r_iload_n hC dX9_score_2 rfl (j := 1) rfl ?_
  refine r_callV hC (vs := [.int q]) vX9_score_3 (sm_isPlayer (d := d) hm hv hnp) hm rfl rfl (by omega) (by omega) (by omega) (Nat.le_of_ble_eq_true rfl) (fun v_1 w_1 hP_1 hlen_1 => ?_) (fun _ _ h => h.elim)
  rw [hP_1.1, hP_1.2]
  show Wp X 0 0 w [(0, .ref m), (1, .int q)] [.int (bI (isP q np)), .ref m] 6
  refine r_if_eq hC dX9_score_6 (tgt := 13) (by decide) (fun c6 => ?_) (fun c6 => ?_)
  · refine r_iconst hC dX9_score_13 (v := 1) (by decide) ?_
    refine r_put' hC pX9_score_14 hm (Nat.le_of_ble_eq_true rfl) (fun _ => rfl) (fun _ => rfl) (fun w_2 ew_2 => ?_)
    replace ew_2 : w_2 = (w).set (m) (mO 10 [.int 1, .int (nI l.length), .int ea, .int fa, .int (bI so.isSome), .ref (m + 1), .ref (m + 2), .ref (m + 3), .ref (m + 4), .ref (m + 5), .ref (m + 6), .ref (m + 7), .ref (m + 8), .ref (m + 9), .ref (m + 10), .int (nI tn), .int he, .int en, .int (nI ln), .int iw, .int id0]) := ew_2
    have hf2_m : w_2[m]? = some (mO 10 [.int 1, .int (nI l.length), .int ea, .int fa, .int (bI so.isSome), .ref (m + 1), .ref (m + 2), .ref (m + 3), .ref (m + 4), .ref (m + 5), .ref (m + 6), .ref (m + 7), .ref (m + 8), .ref (m + 9), .ref (m + 10), .int (nI tn), .int he, .int en, .int (nI ln), .int iw, .int id0]) := by rw [ew_2]; exact List.getElem?_set_self (lt_of_get hm)
    have hf2__m___1_ : w_2[(m + 1)]? = some (mI 0 67 (enc ((f, g, sl, op, lo), hd, rs, np, tp, av, lg, pl, tk))) := by rw [ew_2, List.getElem?_set_ne (by omega)]; exact hv
    have hf2__m___2_ : w_2[(m + 2)]? = some (mI 0 67 bf) := by rw [ew_2, List.getElem?_set_ne (by omega)]; exact hbf
    have hf2__m___3_ : w_2[(m + 3)]? = some (mI 0 67 sf) := by rw [ew_2, List.getElem?_set_ne (by omega)]; exact hsf
    have hf2__m___4_ : w_2[(m + 4)]? = some (mI 0 67 kf) := by rw [ew_2, List.getElem?_set_ne (by omega)]; exact hkf
    have hf2__m___5_ : w_2[(m + 5)]? = some (mI 0 536 pf) := by rw [ew_2, List.getElem?_set_ne (by omega)]; exact hpf
    have hf2__m___6_ : w_2[(m + 6)]? = some (mI 0 60 tx) := by rw [ew_2, List.getElem?_set_ne (by omega)]; exact htx
    have hf2__m___7_ : w_2[(m + 7)]? = some (mI 0 40 lf) := by rw [ew_2, List.getElem?_set_ne (by omega)]; exact hlf
    have hf2__m___8_ : w_2[(m + 8)]? = some (mI 0 8 lt) := by rw [ew_2, List.getElem?_set_ne (by omega)]; exact hlt
    have hf2__m___9_ : w_2[(m + 9)]? = some (mI 0 41 wdF) := by rw [ew_2, List.getElem?_set_ne (by omega)]; exact hwd
    have hf2__m___10_ : w_2[(m + 10)]? = some (mI 0 9 waF) := by rw [ew_2, List.getElem?_set_ne (by omega)]; exact hwa
    have hF_2 : Fr m w w_2 := by rw [ew_2]; exact (Fr.set hF0 (by omega) (by omega))
    refine r_aload_n hC dX9_score_17 rfl (j := 0) rfl ?_
    refine r_get hC gX9_score_18 hf2_m (v := .int 1) rfl ?_
    refine r_if_ne hC dX9_score_21 (tgt := 33) (by decide) (fun _ => ?_) (fun h => absurd h (by decide))
    refine r_iconst hC dX9_score_33 (v := 0) (by decide) ?_
    refine r_iret hC hE hR dX9_score_34 (by omega) (by omega) (hF_2.1) ?_
    exact (Or.inr ⟨(bI_0.mp c6), rfl, ⟨⟨_, _, _, _, _, _, _, _, _, hf2_m, hf2__m___1_, hf2__m___2_, hf2__m___3_, hf2__m___4_, hf2__m___5_, hf2__m___6_, hf2__m___7_, hf2__m___8_, hf2__m___9_, hf2__m___10_, hpo, hso⟩, hF_2⟩⟩)
  · refine r_iconst hC dX9_score_9 (v := 0) (by decide) ?_
    refine r_goto hC dX9_score_10 (tgt := 14) (by decide) ?_
    refine r_put' hC pX9_score_14 hm (Nat.le_of_ble_eq_true rfl) (fun _ => rfl) (fun _ => rfl) (fun w_3 ew_3 => ?_)
    replace ew_3 : w_3 = (w).set (m) (mO 10 [.int 0, .int (nI l.length), .int ea, .int fa, .int (bI so.isSome), .ref (m + 1), .ref (m + 2), .ref (m + 3), .ref (m + 4), .ref (m + 5), .ref (m + 6), .ref (m + 7), .ref (m + 8), .ref (m + 9), .ref (m + 10), .int (nI tn), .int he, .int en, .int (nI ln), .int iw, .int id0]) := ew_3
    have hf3_m : w_3[m]? = some (mO 10 [.int 0, .int (nI l.length), .int ea, .int fa, .int (bI so.isSome), .ref (m + 1), .ref (m + 2), .ref (m + 3), .ref (m + 4), .ref (m + 5), .ref (m + 6), .ref (m + 7), .ref (m + 8), .ref (m + 9), .ref (m + 10), .int (nI tn), .int he, .int en, .int (nI ln), .int iw, .int id0]) := by rw [ew_3]; exact List.getElem?_set_self (lt_of_get hm)
    have hf3__m___1_ : w_3[(m + 1)]? = some (mI 0 67 (enc ((f, g, sl, op, lo), hd, rs, np, tp, av, lg, pl, tk))) := by rw [ew_3, List.getElem?_set_ne (by omega)]; exact hv
    have hf3__m___2_ : w_3[(m + 2)]? = some (mI 0 67 bf) := by rw [ew_3, List.getElem?_set_ne (by omega)]; exact hbf
    have hf3__m___3_ : w_3[(m + 3)]? = some (mI 0 67 sf) := by rw [ew_3, List.getElem?_set_ne (by omega)]; exact hsf
    have hf3__m___4_ : w_3[(m + 4)]? = some (mI 0 67 kf) := by rw [ew_3, List.getElem?_set_ne (by omega)]; exact hkf
    have hf3__m___5_ : w_3[(m + 5)]? = some (mI 0 536 pf) := by rw [ew_3, List.getElem?_set_ne (by omega)]; exact hpf
    have hf3__m___6_ : w_3[(m + 6)]? = some (mI 0 60 tx) := by rw [ew_3, List.getElem?_set_ne (by omega)]; exact htx
    have hf3__m___7_ : w_3[(m + 7)]? = some (mI 0 40 lf) := by rw [ew_3, List.getElem?_set_ne (by omega)]; exact hlf
    have hf3__m___8_ : w_3[(m + 8)]? = some (mI 0 8 lt) := by rw [ew_3, List.getElem?_set_ne (by omega)]; exact hlt
    have hf3__m___9_ : w_3[(m + 9)]? = some (mI 0 41 wdF) := by rw [ew_3, List.getElem?_set_ne (by omega)]; exact hwd
    have hf3__m___10_ : w_3[(m + 10)]? = some (mI 0 9 waF) := by rw [ew_3, List.getElem?_set_ne (by omega)]; exact hwa
    have hF_3 : Fr m w w_3 := by rw [ew_3]; exact (Fr.set hF0 (by omega) (by omega))
    refine r_aload_n hC dX9_score_17 rfl (j := 0) rfl ?_
    refine r_get hC gX9_score_18 hf3_m (v := .int 0) rfl ?_
    refine r_if_ne hC dX9_score_21 (tgt := 33) (by decide) (fun h => absurd (by decide) h) (fun _ => ?_)
    refine r_aload_n hC dX9_score_24 rfl (j := 0) rfl ?_
    refine r_iload_n hC dX9_score_25 rfl (j := 1) rfl ?_
    refine r_iconst hC dX9_score_26 (v := 1) (by decide) ?_
    refine r_callV hC (vs := [.int q, .int 1]) vX9_score_27 (sm_owned1 (d := d) (t := q) hf3_m hf3__m___1_ h25 hpos) hf3_m rfl rfl (by omega) (by omega) (by omega) (Nat.le_of_ble_eq_true rfl) (fun v_4 w_4 hP_4 hlen_4 => ?_) (fun _ _ h => h.elim)
    rw [hP_4.1, hP_4.2]
    show Wp X 0 0 w_3 [(0, .ref m), (1, .int q)] [.int (hSumIf (hOwnP f g q) f 25)] 30
    refine r_goto hC dX9_score_30 (tgt := 34) (by decide) ?_
    refine r_iret hC hE hR dX9_score_34 (by omega) (by omega) (hF_3.1) ?_
    exact (Or.inl ⟨(bI_ne.mp c6), rfl, ⟨⟨_, _, _, _, _, _, _, _, _, hf3_m, hf3__m___1_, hf3__m___2_, hf3__m___3_, hf3__m___4_, hf3__m___5_, hf3__m___6_, hf3__m___7_, hf3__m___8_, hf3__m___9_, hf3__m___10_, hpo, hso⟩, hF_3⟩⟩)
set_option maxRecDepth 100000 in
set_option maxHeartbeats 4000000 in
theorem sm_crownShare {d : Nat} {q : Int32} {w : mW} {m : Nat} {th : Int32} {f g : Nat → Int32} {sl op lo : Int32} {hd rs : Nat → Int32} {np : Nat} {tp av lg pl tk : Int32} {l : List sv} {ea fa : Int32} {so : Option sv} {tx : Nat → Int32} {tn : Nat} {lf : Nat → Int32} {ln : Nat} (H : MdAt w m th ((f, g, sl, op, lo), hd, rs, np, tp, av, lg, pl, tk) l ea fa so tx tn lf ln) (hnp : np ≤ 4) (h25 : f 25 = 0) (hpos : ∀ j, j < 25 → ¬ f j < 0) (hne : ¬ hCnt (hPeak f) 25 = 0 → vf_n32 (FP.fdiv (FP.i2f (hCnt (hOwnP f g q) 25)) (FP.i2f (hCnt (hPeak f) 25)))) : Sp (d + 2) yX9_crownShare cX9_crownShare 2 (some .float) [.ref m, .int q] w 0 0 (fun v w' => ((isP q np = true ∧ ¬ hCnt (hPeak f) 25 = 0) ∧ v = some (.float (FP.fdiv (FP.i2f (hCnt (hOwnP f g q) 25)) (FP.i2f (hCnt (hPeak f) 25)))) ∧ MdTo w w' m 0 ((f, g, sl, op, lo), hd, rs, np, tp, av, lg, pl, tk) l ea fa so tx tn lf ln) ∨ ((isP q np = true ∧ hCnt (hPeak f) 25 = 0) ∧ v = some (.float 0) ∧ MdTo w w' m 2 ((f, g, sl, op, lo), hd, rs, np, tp, av, lg, pl, tk) l ea fa so tx tn lf ln) ∨ (isP q np = false ∧ v = some (.float 0) ∧ MdTo w w' m 1 ((f, g, sl, op, lo), hd, rs, np, tp, av, lg, pl, tk) l ea fa so tx tn lf ln)) noX := by
  refine Sp.of (by decide +kernel) (Nat.le_of_ble_eq_true rfl) (fun X hC hnl hE hR hN => ?_)
  have hC : Cx X RX9 cX9_crownShare (d + 2) 0 0 := hC
  show Wp X 0 0 w [(0, .ref m), (1, .int q)] [] 0
  obtain ⟨he, en, iw, id0, bf, sf, kf, pf, lt, hm, hv, hbf, hsf, hkf, hpf, htx, hlf, hlt, hwd, hwa, hpo, hso⟩ := H
  have hF0 : Fr m w w := Fr.rfl
  refine r_aload_n hC dX9_crownShare_0 rfl (j := 0) rfl ?_
  refine r_aload_n hC dX9_crownShare_1 rfl (j := 0) rfl ?_
  refine r_iload_n hC dX9_crownShare_2 rfl (j := 1) rfl ?_
  refine r_callV hC (vs := [.int q]) vX9_crownShare_3 (sm_isPlayer (d := d) hm hv hnp) hm rfl rfl (by omega) (by omega) (by omega) (Nat.le_of_ble_eq_true rfl) (fun v_1 w_1 hP_1 hlen_1 => ?_) (fun _ _ h => h.elim)
  rw [hP_1.1, hP_1.2]
  show Wp X 0 0 w [(0, .ref m), (1, .int q)] [.int (bI (isP q np)), .ref m] 6
  refine r_if_ne hC dX9_crownShare_6 (tgt := 13) (by decide) (fun c6 => ?_) (fun c6 => ?_)
  · refine r_aload_n hC dX9_crownShare_13 rfl (j := 0) rfl ?_
    refine r_callV hC (vs := []) vX9_crownShare_14 (sm_peaks (d := d) hm hv h25 hpos) hm rfl rfl (by omega) (by omega) (by omega) (Nat.le_of_ble_eq_true rfl) (fun v_2 w_2 hP_2 hlen_2 => ?_) (fun _ _ h => h.elim)
    rw [hP_2.1, hP_2.2]
    show Wp X 0 0 w [(0, .ref m), (1, .int q)] [.int (hCnt (hPeak f) 25), .ref m] 17
    refine r_if_ne hC dX9_crownShare_17 (tgt := 24) (by decide) (fun c17 => ?_) (fun c17 => ?_)
    · refine r_iconst hC dX9_crownShare_24 (v := 0) (by decide) ?_
      refine r_put' hC pX9_crownShare_25 hm (Nat.le_of_ble_eq_true rfl) (fun _ => rfl) (fun _ => rfl) (fun w_3 ew_3 => ?_)
      replace ew_3 : w_3 = (w).set (m) (mO 10 [.int 0, .int (nI l.length), .int ea, .int fa, .int (bI so.isSome), .ref (m + 1), .ref (m + 2), .ref (m + 3), .ref (m + 4), .ref (m + 5), .ref (m + 6), .ref (m + 7), .ref (m + 8), .ref (m + 9), .ref (m + 10), .int (nI tn), .int he, .int en, .int (nI ln), .int iw, .int id0]) := ew_3
      have hf3_m : w_3[m]? = some (mO 10 [.int 0, .int (nI l.length), .int ea, .int fa, .int (bI so.isSome), .ref (m + 1), .ref (m + 2), .ref (m + 3), .ref (m + 4), .ref (m + 5), .ref (m + 6), .ref (m + 7), .ref (m + 8), .ref (m + 9), .ref (m + 10), .int (nI tn), .int he, .int en, .int (nI ln), .int iw, .int id0]) := by rw [ew_3]; exact List.getElem?_set_self (lt_of_get hm)
      have hf3__m___1_ : w_3[(m + 1)]? = some (mI 0 67 (enc ((f, g, sl, op, lo), hd, rs, np, tp, av, lg, pl, tk))) := by rw [ew_3, List.getElem?_set_ne (by omega)]; exact hv
      have hf3__m___2_ : w_3[(m + 2)]? = some (mI 0 67 bf) := by rw [ew_3, List.getElem?_set_ne (by omega)]; exact hbf
      have hf3__m___3_ : w_3[(m + 3)]? = some (mI 0 67 sf) := by rw [ew_3, List.getElem?_set_ne (by omega)]; exact hsf
      have hf3__m___4_ : w_3[(m + 4)]? = some (mI 0 67 kf) := by rw [ew_3, List.getElem?_set_ne (by omega)]; exact hkf
      have hf3__m___5_ : w_3[(m + 5)]? = some (mI 0 536 pf) := by rw [ew_3, List.getElem?_set_ne (by omega)]; exact hpf
      have hf3__m___6_ : w_3[(m + 6)]? = some (mI 0 60 tx) := by rw [ew_3, List.getElem?_set_ne (by omega)]; exact htx
      have hf3__m___7_ : w_3[(m + 7)]? = some (mI 0 40 lf) := by rw [ew_3, List.getElem?_set_ne (by omega)]; exact hlf
      have hf3__m___8_ : w_3[(m + 8)]? = some (mI 0 8 lt) := by rw [ew_3, List.getElem?_set_ne (by omega)]; exact hlt
      have hf3__m___9_ : w_3[(m + 9)]? = some (mI 0 41 wdF) := by rw [ew_3, List.getElem?_set_ne (by omega)]; exact hwd
      have hf3__m___10_ : w_3[(m + 10)]? = some (mI 0 9 waF) := by rw [ew_3, List.getElem?_set_ne (by omega)]; exact hwa
      have hF_3 : Fr m w w_3 := by rw [ew_3]; exact (Fr.set hF0 (by omega) (by omega))
      refine r_aload_n hC dX9_crownShare_28 rfl (j := 0) rfl ?_
      refine r_get hC gX9_crownShare_29 hf3_m (v := .int 0) rfl ?_
      refine r_if_ne hC dX9_crownShare_32 (tgt := 51) (by decide) (fun h => absurd (by decide) h) (fun _ => ?_)
      refine r_aload_n hC dX9_crownShare_35 rfl (j := 0) rfl ?_
      refine r_iload_n hC dX9_crownShare_36 rfl (j := 1) rfl ?_
      refine r_iconst hC dX9_crownShare_37 (v := 0) (by decide) ?_
      refine r_callV hC (vs := [.int q, .int 0]) vX9_crownShare_38 (sm_owned0 (d := d) (t := q) hf3_m hf3__m___1_ h25 hpos) hf3_m rfl rfl (by omega) (by omega) (by omega) (Nat.le_of_ble_eq_true rfl) (fun v_4 w_4 hP_4 hlen_4 => ?_) (fun _ _ h => h.elim)
      rw [hP_4.1, hP_4.2]
      show Wp X 0 0 w_3 [(0, .ref m), (1, .int q)] [.int (hCnt (hOwnP f g q) 25)] 41
      refine r_i2f hC dX9_crownShare_41 ?_
      refine r_aload_n hC dX9_crownShare_42 rfl (j := 0) rfl ?_
      refine r_callV hC (vs := []) vX9_crownShare_43 (sm_peaks (d := d) hf3_m hf3__m___1_ h25 hpos) hf3_m rfl rfl (by omega) (by omega) (by omega) (Nat.le_of_ble_eq_true rfl) (fun v_5 w_5 hP_5 hlen_5 => ?_) (fun _ _ h => h.elim)
      rw [hP_5.1, hP_5.2]
      show Wp X 0 0 w_3 [(0, .ref m), (1, .int q)] [.int (hCnt (hPeak f) 25), .float (FP.i2f (hCnt (hOwnP f g q) 25))] 46
      refine r_i2f hC dX9_crownShare_46 ?_
      refine r_fdiv hC dX9_crownShare_47 (hne c17) ?_
      refine r_goto hC dX9_crownShare_48 (tgt := 52) (by decide) ?_
      refine r_fret hC hE hR dX9_crownShare_52 (by omega) (by omega) (hF_3.1) ?_
      exact (Or.inl ⟨⟨bI_ne.mp c6, c17⟩, rfl, ⟨⟨_, _, _, _, _, _, _, _, _, hf3_m, hf3__m___1_, hf3__m___2_, hf3__m___3_, hf3__m___4_, hf3__m___5_, hf3__m___6_, hf3__m___7_, hf3__m___8_, hf3__m___9_, hf3__m___10_, hpo, hso⟩, hF_3⟩⟩)
    · refine r_iconst hC dX9_crownShare_20 (v := 2) (by decide) ?_
      refine r_goto hC dX9_crownShare_21 (tgt := 25) (by decide) ?_
      refine r_put' hC pX9_crownShare_25 hm (Nat.le_of_ble_eq_true rfl) (fun _ => rfl) (fun _ => rfl) (fun w_6 ew_6 => ?_)
      replace ew_6 : w_6 = (w).set (m) (mO 10 [.int 2, .int (nI l.length), .int ea, .int fa, .int (bI so.isSome), .ref (m + 1), .ref (m + 2), .ref (m + 3), .ref (m + 4), .ref (m + 5), .ref (m + 6), .ref (m + 7), .ref (m + 8), .ref (m + 9), .ref (m + 10), .int (nI tn), .int he, .int en, .int (nI ln), .int iw, .int id0]) := ew_6
      have hf6_m : w_6[m]? = some (mO 10 [.int 2, .int (nI l.length), .int ea, .int fa, .int (bI so.isSome), .ref (m + 1), .ref (m + 2), .ref (m + 3), .ref (m + 4), .ref (m + 5), .ref (m + 6), .ref (m + 7), .ref (m + 8), .ref (m + 9), .ref (m + 10), .int (nI tn), .int he, .int en, .int (nI ln), .int iw, .int id0]) := by rw [ew_6]; exact List.getElem?_set_self (lt_of_get hm)
      have hf6__m___1_ : w_6[(m + 1)]? = some (mI 0 67 (enc ((f, g, sl, op, lo), hd, rs, np, tp, av, lg, pl, tk))) := by rw [ew_6, List.getElem?_set_ne (by omega)]; exact hv
      have hf6__m___2_ : w_6[(m + 2)]? = some (mI 0 67 bf) := by rw [ew_6, List.getElem?_set_ne (by omega)]; exact hbf
      have hf6__m___3_ : w_6[(m + 3)]? = some (mI 0 67 sf) := by rw [ew_6, List.getElem?_set_ne (by omega)]; exact hsf
      have hf6__m___4_ : w_6[(m + 4)]? = some (mI 0 67 kf) := by rw [ew_6, List.getElem?_set_ne (by omega)]; exact hkf
      have hf6__m___5_ : w_6[(m + 5)]? = some (mI 0 536 pf) := by rw [ew_6, List.getElem?_set_ne (by omega)]; exact hpf
      have hf6__m___6_ : w_6[(m + 6)]? = some (mI 0 60 tx) := by rw [ew_6, List.getElem?_set_ne (by omega)]; exact htx
      have hf6__m___7_ : w_6[(m + 7)]? = some (mI 0 40 lf) := by rw [ew_6, List.getElem?_set_ne (by omega)]; exact hlf
      have hf6__m___8_ : w_6[(m + 8)]? = some (mI 0 8 lt) := by rw [ew_6, List.getElem?_set_ne (by omega)]; exact hlt
      have hf6__m___9_ : w_6[(m + 9)]? = some (mI 0 41 wdF) := by rw [ew_6, List.getElem?_set_ne (by omega)]; exact hwd
      have hf6__m___10_ : w_6[(m + 10)]? = some (mI 0 9 waF) := by rw [ew_6, List.getElem?_set_ne (by omega)]; exact hwa
      have hF_6 : Fr m w w_6 := by rw [ew_6]; exact (Fr.set hF0 (by omega) (by omega))
      refine r_aload_n hC dX9_crownShare_28 rfl (j := 0) rfl ?_
      refine r_get hC gX9_crownShare_29 hf6_m (v := .int 2) rfl ?_
      refine r_if_ne hC dX9_crownShare_32 (tgt := 51) (by decide) (fun _ => ?_) (fun h => absurd h (by decide))
      refine r_fconst0 hC dX9_crownShare_51 ?_
      refine r_fret hC hE hR dX9_crownShare_52 (by omega) (by omega) (hF_6.1) ?_
      exact (Or.inr (Or.inl ⟨⟨bI_ne.mp c6, c17⟩, rfl, ⟨⟨_, _, _, _, _, _, _, _, _, hf6_m, hf6__m___1_, hf6__m___2_, hf6__m___3_, hf6__m___4_, hf6__m___5_, hf6__m___6_, hf6__m___7_, hf6__m___8_, hf6__m___9_, hf6__m___10_, hpo, hso⟩, hF_6⟩⟩))
  · refine r_iconst hC dX9_crownShare_9 (v := 1) (by decide) ?_
    refine r_goto hC dX9_crownShare_10 (tgt := 25) (by decide) ?_
    refine r_put' hC pX9_crownShare_25 hm (Nat.le_of_ble_eq_true rfl) (fun _ => rfl) (fun _ => rfl) (fun w_7 ew_7 => ?_)
    replace ew_7 : w_7 = (w).set (m) (mO 10 [.int 1, .int (nI l.length), .int ea, .int fa, .int (bI so.isSome), .ref (m + 1), .ref (m + 2), .ref (m + 3), .ref (m + 4), .ref (m + 5), .ref (m + 6), .ref (m + 7), .ref (m + 8), .ref (m + 9), .ref (m + 10), .int (nI tn), .int he, .int en, .int (nI ln), .int iw, .int id0]) := ew_7
    have hf7_m : w_7[m]? = some (mO 10 [.int 1, .int (nI l.length), .int ea, .int fa, .int (bI so.isSome), .ref (m + 1), .ref (m + 2), .ref (m + 3), .ref (m + 4), .ref (m + 5), .ref (m + 6), .ref (m + 7), .ref (m + 8), .ref (m + 9), .ref (m + 10), .int (nI tn), .int he, .int en, .int (nI ln), .int iw, .int id0]) := by rw [ew_7]; exact List.getElem?_set_self (lt_of_get hm)
    have hf7__m___1_ : w_7[(m + 1)]? = some (mI 0 67 (enc ((f, g, sl, op, lo), hd, rs, np, tp, av, lg, pl, tk))) := by rw [ew_7, List.getElem?_set_ne (by omega)]; exact hv
    have hf7__m___2_ : w_7[(m + 2)]? = some (mI 0 67 bf) := by rw [ew_7, List.getElem?_set_ne (by omega)]; exact hbf
    have hf7__m___3_ : w_7[(m + 3)]? = some (mI 0 67 sf) := by rw [ew_7, List.getElem?_set_ne (by omega)]; exact hsf
    have hf7__m___4_ : w_7[(m + 4)]? = some (mI 0 67 kf) := by rw [ew_7, List.getElem?_set_ne (by omega)]; exact hkf
    have hf7__m___5_ : w_7[(m + 5)]? = some (mI 0 536 pf) := by rw [ew_7, List.getElem?_set_ne (by omega)]; exact hpf
    have hf7__m___6_ : w_7[(m + 6)]? = some (mI 0 60 tx) := by rw [ew_7, List.getElem?_set_ne (by omega)]; exact htx
    have hf7__m___7_ : w_7[(m + 7)]? = some (mI 0 40 lf) := by rw [ew_7, List.getElem?_set_ne (by omega)]; exact hlf
    have hf7__m___8_ : w_7[(m + 8)]? = some (mI 0 8 lt) := by rw [ew_7, List.getElem?_set_ne (by omega)]; exact hlt
    have hf7__m___9_ : w_7[(m + 9)]? = some (mI 0 41 wdF) := by rw [ew_7, List.getElem?_set_ne (by omega)]; exact hwd
    have hf7__m___10_ : w_7[(m + 10)]? = some (mI 0 9 waF) := by rw [ew_7, List.getElem?_set_ne (by omega)]; exact hwa
    have hF_7 : Fr m w w_7 := by rw [ew_7]; exact (Fr.set hF0 (by omega) (by omega))
    refine r_aload_n hC dX9_crownShare_28 rfl (j := 0) rfl ?_
    refine r_get hC gX9_crownShare_29 hf7_m (v := .int 1) rfl ?_
    refine r_if_ne hC dX9_crownShare_32 (tgt := 51) (by decide) (fun _ => ?_) (fun h => absurd h (by decide))
    refine r_fconst0 hC dX9_crownShare_51 ?_
    refine r_fret hC hE hR dX9_crownShare_52 (by omega) (by omega) (hF_7.1) ?_
    exact (Or.inr (Or.inr ⟨(bI_0.mp c6), rfl, ⟨⟨_, _, _, _, _, _, _, _, _, hf7_m, hf7__m___1_, hf7__m___2_, hf7__m___3_, hf7__m___4_, hf7__m___5_, hf7__m___6_, hf7__m___7_, hf7__m___8_, hf7__m___9_, hf7__m___10_, hpo, hso⟩, hF_7⟩⟩))
set_option maxRecDepth 100000 in
set_option maxHeartbeats 4000000 in
theorem pin_it {X : mC} {d : Nat} {c : Nat} {k : Nat} {r : Int32} {w : mW} {m : Nat} {th ch ea fa sv0 tn he en ln iw id0 : Int32} {f g : Nat → Int32} {sl op lo : Int32} {hd rs : Nat → Int32} {np : Nat} {tp av lg pl tk : Int32} (hC : Cx X RX9 cX9_peakAt (d + 1) 0 0) (hnl : mNL X = 5) (hm : w[m]? = some (mO 10 [.int th, .int ch, .int ea, .int fa, .int sv0, .ref (m + 1), .ref (m + 2), .ref (m + 3), .ref (m + 4), .ref (m + 5), .ref (m + 6), .ref (m + 7), .ref (m + 8), .ref (m + 9), .ref (m + 10), .int tn, .int he, .int en, .int ln, .int iw, .int id0])) (hv : w[m + 1]? = some (mI 0 67 (enc ((f, g, sl, op, lo), hd, rs, np, tp, av, lg, pl, tk)))) (h25 : f 25 = 0) (hpos : ∀ j, j < 25 → ¬ f j < 0) (hk : k < 25) (hc : c < 25) (kk : Wp X 0 0 w [(0, .ref m), (1, .int r), (2, .int (nI k)), (3, .int (hCnt (hAheadP f k) (c + 1))), (4, .int (nI (c + 1)))] [] 29) : Wp X 0 0 w [(0, .ref m), (1, .int r), (2, .int (nI k)), (3, .int (hCnt (hAheadP f k) c)), (4, .int (nI c))] [] 29 := by
  refine r_iload hC dX9_peakAt_29 (j := 4) rfl ?_
  refine r_bipush hC dX9_peakAt_31 (v := 25) (by decide) ?_
  refine r_icmp_ge hC dX9_peakAt_33 (tgt := 109) (by decide) (fun h => absurd h (lit_ge rfl hc (by decide))) (fun _ => ?_)
  refine r_iload_n hC dX9_peakAt_36 rfl (j := 3) rfl ?_
  refine r_aload_n hC dX9_peakAt_37 rfl (j := 0) rfl ?_
  refine r_iload hC dX9_peakAt_38 (j := 4) rfl ?_
  refine r_callV hC (vs := [.int (nI c)]) vX9_peakAt_40 (sm_isTop (d := d) hm hv h25 hpos hc) hm rfl rfl (by omega) (by omega) (by omega) (Nat.le_of_ble_eq_true rfl) (fun v_1 w_1 hP_1 hlen_1 => ?_) (fun _ _ h => h.elim)
  rw [hP_1.1, hP_1.2]
  show Wp X 0 0 w [(0, .ref m), (1, .int r), (2, .int (nI k)), (3, .int (hCnt (hAheadP f k) c)), (4, .int (nI c))] [.int (bI (hPeak f c)), .int (hCnt (hAheadP f k) c)] 43
  refine r_if_eq hC dX9_peakAt_43 (tgt := 100) (by decide) (fun c43 => ?_) (fun c43 => ?_)
  · refine r_iconst hC dX9_peakAt_100 (v := 0) (by decide) ?_
    refine r_iadd hC dX9_peakAt_101 ?_
    refine r_istore_n hC dX9_peakAt_102 rfl (by rw [hnl]; decide) (L' := [(3, .int ((hCnt (hAheadP f k) c) + 0)), (0, .ref m), (1, .int r), (2, .int (nI k)), (4, .int (nI c))]) rfl ?_
    refine r_iinc hC dX9_peakAt_103 (j := 4) rfl (v := nI (c + 1)) (nI_succ c).symm (by rw [hnl]; decide) (L' := [(4, .int (nI (c + 1))), (3, .int ((hCnt (hAheadP f k) c) + 0)), (0, .ref m), (1, .int r), (2, .int (nI k))]) rfl ?_
    refine r_goto hC dX9_peakAt_106 (tgt := 29) (by decide) ?_
    refine r_locals [2, 3, 4, 1, 0] (L' := [(0, .ref m), (1, .int r), (2, .int (nI k)), (3, .int ((hCnt (hAheadP f k) c) + 0)), (4, .int (nI (c + 1)))]) rfl ?_
    have h8 : hAheadP f k c = false := by
      simp [hAheadP, bI_0.mp c43]
    have e9 : hCnt (hAheadP f k) (c + 1) = hCnt (hAheadP f k) c + 0 := (if_neg (by rw [h8]; decide)).trans (Int32.add_zero _).symm
    rw [e9] at kk
    exact kk
  · refine r_aload_n hC dX9_peakAt_46 rfl (j := 0) rfl ?_
    refine r_get hC gX9_peakAt_47 hm (v := .ref (m + 1)) rfl ?_
    refine r_bipush hC dX9_peakAt_50 (v := 17) (by decide) ?_
    refine r_iload hC dX9_peakAt_52 (j := 4) rfl ?_
    refine r_iadd hC dX9_peakAt_54 ?_
    refine r_iald hC dX9_peakAt_55 (j := (17 + c)) hv (ix17 (c := c) (by omega)) ?_
    rw [enc_hi (c := c) (by omega)]
    refine r_aload_n hC dX9_peakAt_56 rfl (j := 0) rfl ?_
    refine r_get hC gX9_peakAt_57 hm (v := .ref (m + 1)) rfl ?_
    refine r_bipush hC dX9_peakAt_60 (v := 17) (by decide) ?_
    refine r_iload_n hC dX9_peakAt_62 rfl (j := 2) rfl ?_
    refine r_iadd hC dX9_peakAt_63 ?_
    refine r_iald hC dX9_peakAt_64 (j := (17 + k)) hv (ix17 (c := k) (by omega)) ?_
    rw [enc_hi (c := k) (by omega)]
    refine r_icmp_gt hC dX9_peakAt_65 (tgt := 96) (by decide) (fun c65 => ?_) (fun c65 => ?_)
    · refine r_iconst hC dX9_peakAt_96 (v := 1) (by decide) ?_
      refine r_goto hC dX9_peakAt_97 (tgt := 101) (by decide) ?_
      refine r_iadd hC dX9_peakAt_101 ?_
      refine r_istore_n hC dX9_peakAt_102 rfl (by rw [hnl]; decide) (L' := [(3, .int ((hCnt (hAheadP f k) c) + 1)), (0, .ref m), (1, .int r), (2, .int (nI k)), (4, .int (nI c))]) rfl ?_
      refine r_iinc hC dX9_peakAt_103 (j := 4) rfl (v := nI (c + 1)) (nI_succ c).symm (by rw [hnl]; decide) (L' := [(4, .int (nI (c + 1))), (3, .int ((hCnt (hAheadP f k) c) + 1)), (0, .ref m), (1, .int r), (2, .int (nI k))]) rfl ?_
      refine r_goto hC dX9_peakAt_106 (tgt := 29) (by decide) ?_
      refine r_locals [2, 3, 4, 1, 0] (L' := [(0, .ref m), (1, .int r), (2, .int (nI k)), (3, .int ((hCnt (hAheadP f k) c) + 1)), (4, .int (nI (c + 1)))]) rfl ?_
      have h7 : hPeak f c = true := bI_ne.mp c43
      have h8 : hAheadP f k c = true := by
        simp [hAheadP, h7, c65]
      have e9 : hCnt (hAheadP f k) (c + 1) = hCnt (hAheadP f k) c + 1 := if_pos h8
      rw [e9] at kk
      exact kk
    · refine r_aload_n hC dX9_peakAt_68 rfl (j := 0) rfl ?_
      refine r_get hC gX9_peakAt_69 hm (v := .ref (m + 1)) rfl ?_
      refine r_bipush hC dX9_peakAt_72 (v := 17) (by decide) ?_
      refine r_iload hC dX9_peakAt_74 (j := 4) rfl ?_
      refine r_iadd hC dX9_peakAt_76 ?_
      refine r_iald hC dX9_peakAt_77 (j := (17 + c)) hv (ix17 (c := c) (by omega)) ?_
      rw [enc_hi (c := c) (by omega)]
      refine r_aload_n hC dX9_peakAt_78 rfl (j := 0) rfl ?_
      refine r_get hC gX9_peakAt_79 hm (v := .ref (m + 1)) rfl ?_
      refine r_bipush hC dX9_peakAt_82 (v := 17) (by decide) ?_
      refine r_iload_n hC dX9_peakAt_84 rfl (j := 2) rfl ?_
      refine r_iadd hC dX9_peakAt_85 ?_
      refine r_iald hC dX9_peakAt_86 (j := (17 + k)) hv (ix17 (c := k) (by omega)) ?_
      rw [enc_hi (c := k) (by omega)]
      refine r_icmp_ne hC dX9_peakAt_87 (tgt := 100) (by decide) (fun c87 => ?_) (fun c87 => ?_)
      · refine r_iconst hC dX9_peakAt_100 (v := 0) (by decide) ?_
        refine r_iadd hC dX9_peakAt_101 ?_
        refine r_istore_n hC dX9_peakAt_102 rfl (by rw [hnl]; decide) (L' := [(3, .int ((hCnt (hAheadP f k) c) + 0)), (0, .ref m), (1, .int r), (2, .int (nI k)), (4, .int (nI c))]) rfl ?_
        refine r_iinc hC dX9_peakAt_103 (j := 4) rfl (v := nI (c + 1)) (nI_succ c).symm (by rw [hnl]; decide) (L' := [(4, .int (nI (c + 1))), (3, .int ((hCnt (hAheadP f k) c) + 0)), (0, .ref m), (1, .int r), (2, .int (nI k))]) rfl ?_
        refine r_goto hC dX9_peakAt_106 (tgt := 29) (by decide) ?_
        refine r_locals [2, 3, 4, 1, 0] (L' := [(0, .ref m), (1, .int r), (2, .int (nI k)), (3, .int ((hCnt (hAheadP f k) c) + 0)), (4, .int (nI (c + 1)))]) rfl ?_
        have h7 : hPeak f c = true := bI_ne.mp c43
        have h8 : hAheadP f k c = false := by
          simp [hAheadP, c65, c87]
        have e9 : hCnt (hAheadP f k) (c + 1) = hCnt (hAheadP f k) c + 0 := (if_neg (by rw [h8]; decide)).trans (Int32.add_zero _).symm
        rw [e9] at kk
        exact kk
      · refine r_iload hC dX9_peakAt_90 (j := 4) rfl ?_
        refine r_iload_n hC dX9_peakAt_92 rfl (j := 2) rfl ?_
        refine r_icmp_ge hC dX9_peakAt_93 (tgt := 100) (by decide) (fun c93 => ?_) (fun c93 => ?_)
        · refine r_iconst hC dX9_peakAt_100 (v := 0) (by decide) ?_
          refine r_iadd hC dX9_peakAt_101 ?_
          refine r_istore_n hC dX9_peakAt_102 rfl (by rw [hnl]; decide) (L' := [(3, .int ((hCnt (hAheadP f k) c) + 0)), (0, .ref m), (1, .int r), (2, .int (nI k)), (4, .int (nI c))]) rfl ?_
          refine r_iinc hC dX9_peakAt_103 (j := 4) rfl (v := nI (c + 1)) (nI_succ c).symm (by rw [hnl]; decide) (L' := [(4, .int (nI (c + 1))), (3, .int ((hCnt (hAheadP f k) c) + 0)), (0, .ref m), (1, .int r), (2, .int (nI k))]) rfl ?_
          refine r_goto hC dX9_peakAt_106 (tgt := 29) (by decide) ?_
          refine r_locals [2, 3, 4, 1, 0] (L' := [(0, .ref m), (1, .int r), (2, .int (nI k)), (3, .int ((hCnt (hAheadP f k) c) + 0)), (4, .int (nI (c + 1)))]) rfl ?_
          have h7 : hPeak f c = true := bI_ne.mp c43
          have h6 : ¬ c < k := fun z => absurd c93 (nI_ge z (by omega))
          have h8 : hAheadP f k c = false := by
            simp [hAheadP, c65, h6]
          have e9 : hCnt (hAheadP f k) (c + 1) = hCnt (hAheadP f k) c + 0 := (if_neg (by rw [h8]; decide)).trans (Int32.add_zero _).symm
          rw [e9] at kk
          exact kk
        · refine r_iconst hC dX9_peakAt_96 (v := 1) (by decide) ?_
          refine r_goto hC dX9_peakAt_97 (tgt := 101) (by decide) ?_
          refine r_iadd hC dX9_peakAt_101 ?_
          refine r_istore_n hC dX9_peakAt_102 rfl (by rw [hnl]; decide) (L' := [(3, .int ((hCnt (hAheadP f k) c) + 1)), (0, .ref m), (1, .int r), (2, .int (nI k)), (4, .int (nI c))]) rfl ?_
          refine r_iinc hC dX9_peakAt_103 (j := 4) rfl (v := nI (c + 1)) (nI_succ c).symm (by rw [hnl]; decide) (L' := [(4, .int (nI (c + 1))), (3, .int ((hCnt (hAheadP f k) c) + 1)), (0, .ref m), (1, .int r), (2, .int (nI k))]) rfl ?_
          refine r_goto hC dX9_peakAt_106 (tgt := 29) (by decide) ?_
          refine r_locals [2, 3, 4, 1, 0] (L' := [(0, .ref m), (1, .int r), (2, .int (nI k)), (3, .int ((hCnt (hAheadP f k) c) + 1)), (4, .int (nI (c + 1)))]) rfl ?_
          have h7 : hPeak f c = true := bI_ne.mp c43
          have h6 : c < k := Nat.lt_of_not_le (fun z => c93 (nI_le z (by omega)))
          have h8 : hAheadP f k c = true := by
            simp [hAheadP, h7, c87, h6]
          have e9 : hCnt (hAheadP f k) (c + 1) = hCnt (hAheadP f k) c + 1 := if_pos h8
          rw [e9] at kk
          exact kk
set_option maxRecDepth 100000 in
theorem pin_all {X : mC} {d : Nat} {k : Nat} {r : Int32} {w : mW} {m : Nat} {th ch ea fa sv0 tn he en ln iw id0 : Int32} {f g : Nat → Int32} {sl op lo : Int32} {hd rs : Nat → Int32} {np : Nat} {tp av lg pl tk : Int32} (hC : Cx X RX9 cX9_peakAt (d + 1) 0 0) (hnl : mNL X = 5) (hm : w[m]? = some (mO 10 [.int th, .int ch, .int ea, .int fa, .int sv0, .ref (m + 1), .ref (m + 2), .ref (m + 3), .ref (m + 4), .ref (m + 5), .ref (m + 6), .ref (m + 7), .ref (m + 8), .ref (m + 9), .ref (m + 10), .int tn, .int he, .int en, .int ln, .int iw, .int id0])) (hv : w[m + 1]? = some (mI 0 67 (enc ((f, g, sl, op, lo), hd, rs, np, tp, av, lg, pl, tk)))) (h25 : f 25 = 0) (hpos : ∀ j, j < 25 → ¬ f j < 0) (hk : k < 25) (kk : Wp X 0 0 w [(0, .ref m), (1, .int r), (2, .int (nI k)), (3, .int (hCnt (hAheadP f k) 25)), (4, .int (nI 25))] [] 29) : ∀ n c : Nat, c + n = 25 → Wp X 0 0 w [(0, .ref m), (1, .int r), (2, .int (nI k)), (3, .int (hCnt (hAheadP f k) c)), (4, .int (nI c))] [] 29 := by
  intro n
  induction n with
  | zero =>
    intro c h9
    obtain rfl : c = 25 := by omega
    exact kk
  | succ n ih =>
    intro c h9
    exact pin_it hC hnl hm hv h25 hpos hk (by omega) (ih (c + 1) (by omega))
def hRankP (f : Nat → Int32) (r : Int32) (c : Nat) : Bool := hPeak f c && decide (hCnt (hAheadP f c) 25 = r)
set_option maxRecDepth 100000 in
set_option maxHeartbeats 4000000 in
theorem pa_it {X : mC} {d : Nat} {c n0 : Nat} {r : Int32} {P : Option Value → mW → Prop} {w : mW} {m : Nat} {th ch ea fa sv0 tn he en ln iw id0 : Int32} {f g : Nat → Int32} {sl op lo : Int32} {hd rs : Nat → Int32} {np : Nat} {tp av lg pl tk : Int32} (hC : Cx X RX9 cX9_peakAt (d + 1) 0 0) (hnl : mNL X = 5) (hm : w[m]? = some (mO 10 [.int th, .int ch, .int ea, .int fa, .int sv0, .ref (m + 1), .ref (m + 2), .ref (m + 3), .ref (m + 4), .ref (m + 5), .ref (m + 6), .ref (m + 7), .ref (m + 8), .ref (m + 9), .ref (m + 10), .int tn, .int he, .int en, .int ln, .int iw, .int id0])) (hv : w[m + 1]? = some (mI 0 67 (enc ((f, g, sl, op, lo), hd, rs, np, tp, av, lg, pl, tk)))) (h25 : f 25 = 0) (hpos : ∀ j, j < 25 → ¬ f j < 0) (hc : c < 25) (hE : mEnd X n0 0 0 P noX) (hR : mRet X (some .int)) (hlen : w.length = n0) (k1 : hRankP f r c = true → P (some (.int (nI c))) w) (k2 : hRankP f r c = false → Wp X 0 0 w [(0, .ref m), (1, .int r), (2, .int (nI (c + 1)))] [] 7) : Wp X 0 0 w [(0, .ref m), (1, .int r), (2, .int (nI c))] [] 7 := by
  refine r_iload_n hC dX9_peakAt_7 rfl (j := 2) rfl ?_
  refine r_bipush hC dX9_peakAt_8 (v := 25) (by decide) ?_
  refine r_icmp_ge hC dX9_peakAt_10 (tgt := 122) (by decide) (fun h => absurd h (lit_ge rfl hc (by decide))) (fun _ => ?_)
  refine r_aload_n hC dX9_peakAt_13 rfl (j := 0) rfl ?_
  refine r_iload_n hC dX9_peakAt_14 rfl (j := 2) rfl ?_
  refine r_callV hC (vs := [.int (nI c)]) vX9_peakAt_15 (sm_isTop (d := d) hm hv h25 hpos hc) hm rfl rfl (by omega) (by omega) (by omega) (Nat.le_of_ble_eq_true rfl) (fun v_1 w_1 hP_1 hlen_1 => ?_) (fun _ _ h => h.elim)
  rw [hP_1.1, hP_1.2]
  show Wp X 0 0 w [(0, .ref m), (1, .int r), (2, .int (nI c))] [.int (bI (hPeak f c))] 18
  refine r_if_ne hC dX9_peakAt_18 (tgt := 24) (by decide) (fun c18y => ?_) (fun c18y => ?_)
  · have c18 : ¬ bI (hPeak f c) = 0 := c18y
    refine r_iconst hC dX9_peakAt_24 (v := 0) (by decide) ?_
    refine r_istore_n hC dX9_peakAt_25 rfl (by rw [hnl]; decide) (L' := [(3, .int 0), (0, .ref m), (1, .int r), (2, .int (nI c))]) rfl ?_
    refine r_iconst hC dX9_peakAt_26 (v := 0) (by decide) ?_
    refine r_istore hC dX9_peakAt_27 (by rw [hnl]; decide) (L' := [(4, .int 0), (3, .int 0), (0, .ref m), (1, .int r), (2, .int (nI c))]) rfl ?_
    refine r_locals [2, 3, 4, 1, 0] (L' := [(0, .ref m), (1, .int r), (2, .int (nI c)), (3, .int 0), (4, .int 0)]) rfl ?_
    refine pin_all hC hnl hm hv h25 hpos hc ?_ 25 0 rfl
    refine r_iload hC dX9_peakAt_29 (j := 4) rfl ?_
    refine r_bipush hC dX9_peakAt_31 (v := 25) (by decide) ?_
    refine r_icmp_ge hC dX9_peakAt_33 (tgt := 109) (by decide) (fun _ => ?_) (fun h => absurd (lit_le rfl (Nat.le_refl 25) (by decide)) h)
    refine r_iload_n hC dX9_peakAt_109 rfl (j := 3) rfl ?_
    refine r_iload_n hC dX9_peakAt_110 rfl (j := 1) rfl ?_
    refine r_icmp_ne hC dX9_peakAt_111 (tgt := 116) (by decide) (fun c111 => ?_) (fun c111 => ?_)
    · refine r_iinc hC dX9_peakAt_116 (j := 2) rfl (v := nI (c + 1)) (nI_succ c).symm (by rw [hnl]; decide) (L' := [(2, .int (nI (c + 1))), (0, .ref m), (1, .int r), (3, .int (hCnt (hAheadP f c) 25)), (4, .int (nI 25))]) rfl ?_
      refine r_goto hC dX9_peakAt_119 (tgt := 7) (by decide) ?_
      refine r_locals [1, 2, 0] (L' := [(0, .ref m), (1, .int r), (2, .int (nI (c + 1)))]) rfl ?_
      refine k2 ?_
      simp [hRankP, c111]
    · refine r_iload_n hC dX9_peakAt_114 rfl (j := 2) rfl ?_
      refine r_iret hC hE hR dX9_peakAt_115 (by omega) (by omega) (hlen) ?_
      refine k1 ?_
      have q1 : hPeak f c = true := bI_ne.mp c18
      simp [hRankP, q1, c111]
  · have c18 : hPeak f c = false := bI_0.mp c18y
    refine r_goto hC dX9_peakAt_21 (tgt := 116) (by decide) ?_
    refine r_iinc hC dX9_peakAt_116 (j := 2) rfl (v := nI (c + 1)) (nI_succ c).symm (by rw [hnl]; decide) (L' := [(2, .int (nI (c + 1))), (0, .ref m), (1, .int r)]) rfl ?_
    refine r_goto hC dX9_peakAt_119 (tgt := 7) (by decide) ?_
    refine r_locals [1, 2, 0] (L' := [(0, .ref m), (1, .int r), (2, .int (nI (c + 1)))]) rfl ?_
    refine k2 ?_
    simp [hRankP, c18]
set_option maxRecDepth 100000 in
theorem pa_all {X : mC} {d n0 : Nat} {r : Int32} {P : Option Value → mW → Prop} {w : mW} {m : Nat} {th ch ea fa sv0 tn he en ln iw id0 : Int32} {f g : Nat → Int32} {sl op lo : Int32} {hd rs : Nat → Int32} {np : Nat} {tp av lg pl tk : Int32} (hC : Cx X RX9 cX9_peakAt (d + 1) 0 0) (hnl : mNL X = 5) (hm : w[m]? = some (mO 10 [.int th, .int ch, .int ea, .int fa, .int sv0, .ref (m + 1), .ref (m + 2), .ref (m + 3), .ref (m + 4), .ref (m + 5), .ref (m + 6), .ref (m + 7), .ref (m + 8), .ref (m + 9), .ref (m + 10), .int tn, .int he, .int en, .int ln, .int iw, .int id0])) (hv : w[m + 1]? = some (mI 0 67 (enc ((f, g, sl, op, lo), hd, rs, np, tp, av, lg, pl, tk)))) (h25 : f 25 = 0) (hpos : ∀ j, j < 25 → ¬ f j < 0) (hE : mEnd X n0 0 0 P noX) (hR : mRet X (some .int)) (hlen : w.length = n0) (k1 : ∀ k, k < 25 → hRankP f r k = true → (∀ j, j < k → hRankP f r j = false) → P (some (.int (nI k))) w) (k2 : (∀ j, j < 25 → hRankP f r j = false) → Wp X 0 0 w [(0, .ref m), (1, .int r), (2, .int (nI 25))] [] 7) : ∀ n c : Nat, c + n = 25 → (∀ j, j < c → hRankP f r j = false) → Wp X 0 0 w [(0, .ref m), (1, .int r), (2, .int (nI c))] [] 7 := by
  intro n
  induction n with
  | zero =>
    intro c h9 hj
    obtain rfl : c = 25 := by omega
    exact k2 hj
  | succ n ih =>
    intro c h9 hj
    refine pa_it hC hnl hm hv h25 hpos (by omega) hE hR hlen (fun z => k1 c (by omega) z hj) (fun z => ih (c + 1) (by omega) (fun j q => ?_))
    rcases Nat.lt_or_ge j c with q1 | q1
    · exact hj j q1
    · obtain rfl : j = c := by omega
      exact z
set_option maxRecDepth 100000 in
set_option maxHeartbeats 4000000 in
theorem sm_peakAt {d : Nat} {r : Int32} {w : mW} {m : Nat} {th : Int32} {f g : Nat → Int32} {sl op lo : Int32} {hd rs : Nat → Int32} {np : Nat} {tp av lg pl tk : Int32} {l : List sv} {ea fa : Int32} {so : Option sv} {tx : Nat → Int32} {tn : Nat} {lf : Nat → Int32} {ln : Nat} (H : MdAt w m th ((f, g, sl, op, lo), hd, rs, np, tp, av, lg, pl, tk) l ea fa so tx tn lf ln) (h25 : f 25 = 0) (hpos : ∀ j, j < 25 → ¬ f j < 0) : Sp (d + 1) yX9_peakAt cX9_peakAt 5 (some .int) [.ref m, .int r] w 0 0 (fun v w' => (∃ k, k < 25 ∧ hRankP f r k = true ∧ (∀ j, j < k → hRankP f r j = false) ∧ v = some (.int (nI k)) ∧ MdTo w w' m 0 ((f, g, sl, op, lo), hd, rs, np, tp, av, lg, pl, tk) l ea fa so tx tn lf ln) ∨ ((∀ j, j < 25 → hRankP f r j = false) ∧ v = some (.int 0) ∧ MdTo w w' m 1 ((f, g, sl, op, lo), hd, rs, np, tp, av, lg, pl, tk) l ea fa so tx tn lf ln)) noX := by
  refine Sp.of (by decide +kernel) (Nat.le_of_ble_eq_true rfl) (fun X hC hnl hE hR hN => ?_)
  have hC : Cx X RX9 cX9_peakAt (d + 1) 0 0 := hC
  show Wp X 0 0 w [(0, .ref m), (1, .int r)] [] 0
  obtain ⟨he, en, iw, id0, bf, sf, kf, pf, lt, hm, hv, hbf, hsf, hkf, hpf, htx, hlf, hlt, hwd, hwa, hpo, hso⟩ := H
  have hF0 : Fr m w w := Fr.rfl
  refine r_aload_n hC dX9_peakAt_0 rfl (j := 0) rfl ?_
  refine r_iconst hC dX9_peakAt_1 (v := 0) (by decide) ?_
  refine r_put' hC pX9_peakAt_2 hm (Nat.le_of_ble_eq_true rfl) (fun _ => rfl) (fun _ => rfl) (fun w_1 ew_1 => ?_)
  replace ew_1 : w_1 = (w).set (m) (mO 10 [.int 0, .int (nI l.length), .int ea, .int fa, .int (bI so.isSome), .ref (m + 1), .ref (m + 2), .ref (m + 3), .ref (m + 4), .ref (m + 5), .ref (m + 6), .ref (m + 7), .ref (m + 8), .ref (m + 9), .ref (m + 10), .int (nI tn), .int he, .int en, .int (nI ln), .int iw, .int id0]) := ew_1
  have hf1_m : w_1[m]? = some (mO 10 [.int 0, .int (nI l.length), .int ea, .int fa, .int (bI so.isSome), .ref (m + 1), .ref (m + 2), .ref (m + 3), .ref (m + 4), .ref (m + 5), .ref (m + 6), .ref (m + 7), .ref (m + 8), .ref (m + 9), .ref (m + 10), .int (nI tn), .int he, .int en, .int (nI ln), .int iw, .int id0]) := by rw [ew_1]; exact List.getElem?_set_self (lt_of_get hm)
  have hf1__m___1_ : w_1[(m + 1)]? = some (mI 0 67 (enc ((f, g, sl, op, lo), hd, rs, np, tp, av, lg, pl, tk))) := by rw [ew_1, List.getElem?_set_ne (by omega)]; exact hv
  have hf1__m___2_ : w_1[(m + 2)]? = some (mI 0 67 bf) := by rw [ew_1, List.getElem?_set_ne (by omega)]; exact hbf
  have hf1__m___3_ : w_1[(m + 3)]? = some (mI 0 67 sf) := by rw [ew_1, List.getElem?_set_ne (by omega)]; exact hsf
  have hf1__m___4_ : w_1[(m + 4)]? = some (mI 0 67 kf) := by rw [ew_1, List.getElem?_set_ne (by omega)]; exact hkf
  have hf1__m___5_ : w_1[(m + 5)]? = some (mI 0 536 pf) := by rw [ew_1, List.getElem?_set_ne (by omega)]; exact hpf
  have hf1__m___6_ : w_1[(m + 6)]? = some (mI 0 60 tx) := by rw [ew_1, List.getElem?_set_ne (by omega)]; exact htx
  have hf1__m___7_ : w_1[(m + 7)]? = some (mI 0 40 lf) := by rw [ew_1, List.getElem?_set_ne (by omega)]; exact hlf
  have hf1__m___8_ : w_1[(m + 8)]? = some (mI 0 8 lt) := by rw [ew_1, List.getElem?_set_ne (by omega)]; exact hlt
  have hf1__m___9_ : w_1[(m + 9)]? = some (mI 0 41 wdF) := by rw [ew_1, List.getElem?_set_ne (by omega)]; exact hwd
  have hf1__m___10_ : w_1[(m + 10)]? = some (mI 0 9 waF) := by rw [ew_1, List.getElem?_set_ne (by omega)]; exact hwa
  have hF_1 : Fr m w w_1 := by rw [ew_1]; exact (Fr.set hF0 (by omega) (by omega))
  refine r_iconst hC dX9_peakAt_5 (v := 0) (by decide) ?_
  refine r_istore_n hC dX9_peakAt_6 rfl (by rw [hnl]; decide) (L' := [(2, .int 0), (0, .ref m), (1, .int r)]) rfl ?_
  refine r_locals [1, 2, 0] (L' := [(0, .ref m), (1, .int r), (2, .int 0)]) rfl ?_
  refine pa_all (r := r) hC hnl hf1_m hf1__m___1_ h25 hpos hE hR hF_1.1 (fun k z1 z2 z3 => Or.inl ⟨k, z1, z2, z3, rfl, ⟨⟨_, _, _, _, _, _, _, _, _, hf1_m, hf1__m___1_, hf1__m___2_, hf1__m___3_, hf1__m___4_, hf1__m___5_, hf1__m___6_, hf1__m___7_, hf1__m___8_, hf1__m___9_, hf1__m___10_, hpo, hso⟩, hF_1⟩⟩) (fun hno => ?_) 25 0 rfl (fun j hj => absurd hj (Nat.not_lt_zero j))
  refine r_iload_n hC dX9_peakAt_7 rfl (j := 2) rfl ?_
  refine r_bipush hC dX9_peakAt_8 (v := 25) (by decide) ?_
  refine r_icmp_ge hC dX9_peakAt_10 (tgt := 122) (by decide) (fun _ => ?_) (fun h => absurd (lit_le rfl (Nat.le_refl 25) (by decide)) h)
  refine r_aload_n hC dX9_peakAt_122 rfl (j := 0) rfl ?_
  refine r_iconst hC dX9_peakAt_123 (v := 1) (by decide) ?_
  refine r_callV hC (vs := [.int 1]) vX9_peakAt_124 (sm_fail (d := d) (x := 1) hf1_m) hf1_m rfl rfl (by omega) (by omega) (by omega) (Nat.le_of_ble_eq_true rfl) (fun v_21 w_21 hP_21 hlen_21 => ?_) (fun _ _ h => h.elim)
  obtain ⟨hv_21, ew_21⟩ := hP_21
  rw [hv_21]
  have hf21_m : w_21[m]? = some (mO 10 [.int 1, .int (nI l.length), .int ea, .int fa, .int (bI so.isSome), .ref (m + 1), .ref (m + 2), .ref (m + 3), .ref (m + 4), .ref (m + 5), .ref (m + 6), .ref (m + 7), .ref (m + 8), .ref (m + 9), .ref (m + 10), .int (nI tn), .int he, .int en, .int (nI ln), .int iw, .int id0]) := by rw [ew_21]; exact List.getElem?_set_self (lt_of_get hf1_m)
  have hf21__m___1_ : w_21[(m + 1)]? = some (mI 0 67 (enc ((f, g, sl, op, lo), hd, rs, np, tp, av, lg, pl, tk))) := by rw [ew_21, List.getElem?_set_ne (by omega)]; exact hf1__m___1_
  have hf21__m___2_ : w_21[(m + 2)]? = some (mI 0 67 bf) := by rw [ew_21, List.getElem?_set_ne (by omega)]; exact hf1__m___2_
  have hf21__m___3_ : w_21[(m + 3)]? = some (mI 0 67 sf) := by rw [ew_21, List.getElem?_set_ne (by omega)]; exact hf1__m___3_
  have hf21__m___4_ : w_21[(m + 4)]? = some (mI 0 67 kf) := by rw [ew_21, List.getElem?_set_ne (by omega)]; exact hf1__m___4_
  have hf21__m___5_ : w_21[(m + 5)]? = some (mI 0 536 pf) := by rw [ew_21, List.getElem?_set_ne (by omega)]; exact hf1__m___5_
  have hf21__m___6_ : w_21[(m + 6)]? = some (mI 0 60 tx) := by rw [ew_21, List.getElem?_set_ne (by omega)]; exact hf1__m___6_
  have hf21__m___7_ : w_21[(m + 7)]? = some (mI 0 40 lf) := by rw [ew_21, List.getElem?_set_ne (by omega)]; exact hf1__m___7_
  have hf21__m___8_ : w_21[(m + 8)]? = some (mI 0 8 lt) := by rw [ew_21, List.getElem?_set_ne (by omega)]; exact hf1__m___8_
  have hf21__m___9_ : w_21[(m + 9)]? = some (mI 0 41 wdF) := by rw [ew_21, List.getElem?_set_ne (by omega)]; exact hf1__m___9_
  have hf21__m___10_ : w_21[(m + 10)]? = some (mI 0 9 waF) := by rw [ew_21, List.getElem?_set_ne (by omega)]; exact hf1__m___10_
  have hF_21 : Fr m w w_21 := by rw [ew_21]; exact (Fr.set hF_1 (by omega) (by omega))
  show Wp X 0 0 w_21 [(0, .ref m), (1, .int r), (2, .int (nI 25))] [.int 0] 127
  refine r_iret hC hE hR dX9_peakAt_127 (by omega) (by omega) (hF_21.1) ?_
  exact Or.inr ⟨hno, rfl, ⟨⟨_, _, _, _, _, _, _, _, _, hf21_m, hf21__m___1_, hf21__m___2_, hf21__m___3_, hf21__m___4_, hf21__m___5_, hf21__m___6_, hf21__m___7_, hf21__m___8_, hf21__m___9_, hf21__m___10_, hpo, hso⟩, hF_21⟩⟩
set_option maxRecDepth 100000 in
set_option maxHeartbeats 4000000 in
theorem prn_it {X : mC} {d : Nat} {c : Nat} {k : Nat} {r : Int32} {w : mW} {m : Nat} {th ch ea fa sv0 tn he en ln iw id0 : Int32} {f g : Nat → Int32} {sl op lo : Int32} {hd rs : Nat → Int32} {np : Nat} {tp av lg pl tk : Int32} (hC : Cx X RX9 cX9_playerAtRank (d + 2) 0 0) (hnl : mNL X = 6) (hm : w[m]? = some (mO 10 [.int th, .int ch, .int ea, .int fa, .int sv0, .ref (m + 1), .ref (m + 2), .ref (m + 3), .ref (m + 4), .ref (m + 5), .ref (m + 6), .ref (m + 7), .ref (m + 8), .ref (m + 9), .ref (m + 10), .int tn, .int he, .int en, .int ln, .int iw, .int id0])) (hv : w[m + 1]? = some (mI 0 67 (enc ((f, g, sl, op, lo), hd, rs, np, tp, av, lg, pl, tk)))) (h25 : f 25 = 0) (hpos : ∀ j, j < 25 → ¬ f j < 0) (hnp : np ≤ 4) (hk : k < np) (hc : c < np) (kk : Wp X 0 0 w [(0, .ref m), (1, .int r), (2, .int (nI k)), (3, .int (hCnt (fun j => sAheadB f g hd j k) (c + 1))), (4, .int (nI (c + 1)))] [] 22) : Wp X 0 0 w [(0, .ref m), (1, .int r), (2, .int (nI k)), (3, .int (hCnt (fun j => sAheadB f g hd j k) c)), (4, .int (nI c))] [] 22 := by
  refine r_iload hC dX9_playerAtRank_22 (j := 4) rfl ?_
  refine r_aload_n hC dX9_playerAtRank_24 rfl (j := 0) rfl ?_
  refine r_get hC gX9_playerAtRank_25 hm (v := .ref (m + 1)) rfl ?_
  refine r_iconst hC dX9_playerAtRank_28 (v := 0) (by decide) ?_
  refine r_iald hC dX9_playerAtRank_29 (j := 0) hv ⟨by decide, by decide, by decide⟩ ?_
  rw [show enc ((f, g, sl, op, lo), hd, rs, np, tp, av, lg, pl, tk) 0 = nI np from rfl]
  refine r_icmp_ge hC dX9_playerAtRank_30 (tgt := 111) (by decide) (fun h => absurd h (nI_ge hc (by omega))) (fun _ => ?_)
  refine r_aload_n hC dX9_playerAtRank_33 rfl (j := 0) rfl ?_
  refine r_iload hC dX9_playerAtRank_34 (j := 4) rfl ?_
  refine r_iconst hC dX9_playerAtRank_36 (v := 1) (by decide) ?_
  refine r_callV hC (vs := [.int (nI c), .int 1]) vX9_playerAtRank_37 (sm_owned1 (d := d) (t := nI c) hm hv h25 hpos) hm rfl rfl (by omega) (by omega) (by omega) (Nat.le_of_ble_eq_true rfl) (fun v_1 w_1 hP_1 hlen_1 => ?_) (fun _ _ h => h.elim)
  rw [hP_1.1, hP_1.2]
  show Wp X 0 0 w [(0, .ref m), (1, .int r), (2, .int (nI k)), (3, .int (hCnt (fun j => sAheadB f g hd j k) c)), (4, .int (nI c))] [.int (hSumIf (hOwnP f g (nI c)) f 25)] 40
  refine r_aload_n hC dX9_playerAtRank_40 rfl (j := 0) rfl ?_
  refine r_iload_n hC dX9_playerAtRank_41 rfl (j := 2) rfl ?_
  refine r_iconst hC dX9_playerAtRank_42 (v := 1) (by decide) ?_
  refine r_callV hC (vs := [.int (nI k), .int 1]) vX9_playerAtRank_43 (sm_owned1 (d := d) (t := nI k) hm hv h25 hpos) hm rfl rfl (by omega) (by omega) (by omega) (Nat.le_of_ble_eq_true rfl) (fun v_2 w_2 hP_2 hlen_2 => ?_) (fun _ _ h => h.elim)
  rw [hP_2.1, hP_2.2]
  show Wp X 0 0 w [(0, .ref m), (1, .int r), (2, .int (nI k)), (3, .int (hCnt (fun j => sAheadB f g hd j k) c)), (4, .int (nI c))] [.int (hSumIf (hOwnP f g (nI k)) f 25), .int (hSumIf (hOwnP f g (nI c)) f 25)] 46
  refine r_isub hC dX9_playerAtRank_46 ?_
  refine r_istore hC dX9_playerAtRank_47 (by rw [hnl]; decide) (L' := [(5, .int ((hSumIf (hOwnP f g (nI c)) f 25) - (hSumIf (hOwnP f g (nI k)) f 25))), (0, .ref m), (1, .int r), (2, .int (nI k)), (3, .int (hCnt (fun j => sAheadB f g hd j k) c)), (4, .int (nI c))]) rfl ?_
  refine r_iload hC dX9_playerAtRank_49 (j := 0) rfl ?_
  refine r_if_eq hC dX9_playerAtRank_51 (tgt := 59) (by decide) (fun c51 => ?_) (fun c51 => ?_)
  · refine r_aload_n hC dX9_playerAtRank_59 rfl (j := 1) rfl ?_
    refine r_get hC gX9_playerAtRank_60 hm (v := .ref (m + 1)) rfl ?_
    refine r_bipush hC dX9_playerAtRank_63 (v := 9) (by decide) ?_
    refine r_iload hC dX9_playerAtRank_65 (j := 5) rfl ?_
    refine r_iadd hC dX9_playerAtRank_67 ?_
    refine r_iald hC dX9_playerAtRank_68 (j := (9 + c)) hv (ix9 (c := c) (by omega)) ?_
    rw [enc_hand (c := c) (by omega)]
    refine r_aload_n hC dX9_playerAtRank_69 rfl (j := 1) rfl ?_
    refine r_get hC gX9_playerAtRank_70 hm (v := .ref (m + 1)) rfl ?_
    refine r_bipush hC dX9_playerAtRank_73 (v := 9) (by decide) ?_
    refine r_iload_n hC dX9_playerAtRank_75 rfl (j := 3) rfl ?_
    refine r_iadd hC dX9_playerAtRank_76 ?_
    refine r_iald hC dX9_playerAtRank_77 (j := (9 + k)) hv (ix9 (c := k) (by omega)) ?_
    rw [enc_hand (c := k) (by omega)]
    refine r_isub hC dX9_playerAtRank_78 ?_
    refine r_istore hC dX9_playerAtRank_79 (by rw [hnl]; decide) (L' := [(5, .int ((hd c) - (hd k))), (0, .ref m), (1, .int r), (2, .int (nI k)), (3, .int (hCnt (fun j => sAheadB f g hd j k) c)), (4, .int (nI c))]) rfl ?_
    refine r_iload_n hC dX9_playerAtRank_81 rfl (j := 4) rfl ?_
    refine r_iload hC dX9_playerAtRank_82 (j := 0) rfl ?_
    refine r_if_gt hC dX9_playerAtRank_84 (tgt := 98) (by decide) (fun c84 => ?_) (fun c84 => ?_)
    · refine r_iconst hC dX9_playerAtRank_98 (v := 1) (by decide) ?_
      refine r_goto hC dX9_playerAtRank_99 (tgt := 103) (by decide) ?_
      refine r_iadd hC dX9_playerAtRank_103 ?_
      refine r_istore_n hC dX9_playerAtRank_104 rfl (by rw [hnl]; decide) (L' := [(3, .int ((hCnt (fun j => sAheadB f g hd j k) c) + 1)), (5, .int ((hd c) - (hd k))), (0, .ref m), (1, .int r), (2, .int (nI k)), (4, .int (nI c))]) rfl ?_
      refine r_iinc hC dX9_playerAtRank_105 (j := 5) rfl (v := nI (c + 1)) (nI_succ c).symm (by rw [hnl]; decide) (L' := [(4, .int (nI (c + 1))), (3, .int ((hCnt (fun j => sAheadB f g hd j k) c) + 1)), (5, .int ((hd c) - (hd k))), (0, .ref m), (1, .int r), (2, .int (nI k))]) rfl ?_
      refine r_goto hC dX9_playerAtRank_108 (tgt := 22) (by decide) ?_
      refine r_locals [3, 4, 5, 1, 0] (L' := [(0, .ref m), (1, .int r), (2, .int (nI k)), (3, .int ((hCnt (fun j => sAheadB f g hd j k) c) + 1)), (4, .int (nI (c + 1)))]) rfl ?_
      have y1 : sScore f g c - sScore f g k = hSumIf (hOwnP f g (nI c)) f 25 - hSumIf (hOwnP f g (nI k)) f 25 := rfl
      have y2 : sDiff f g hd c k = hd c - hd k := if_pos c51
      have y3 : ¬ sDiff f g hd c k ≤ 0 := by rw [y2]; exact Int32.not_le.mpr c84
      have h8 : sAheadB f g hd c k = true := by
        simp [sAheadB, y3]
      have e9 : hCnt (fun j => sAheadB f g hd j k) (c + 1) = hCnt (fun j => sAheadB f g hd j k) c + 1 := if_pos h8
      rw [e9] at kk
      exact kk
    · refine r_iload hC dX9_playerAtRank_87 (j := 0) rfl ?_
      refine r_if_ne hC dX9_playerAtRank_89 (tgt := 102) (by decide) (fun c89 => ?_) (fun c89 => ?_)
      · refine r_iconst hC dX9_playerAtRank_102 (v := 0) (by decide) ?_
        refine r_iadd hC dX9_playerAtRank_103 ?_
        refine r_istore_n hC dX9_playerAtRank_104 rfl (by rw [hnl]; decide) (L' := [(3, .int ((hCnt (fun j => sAheadB f g hd j k) c) + 0)), (5, .int ((hd c) - (hd k))), (0, .ref m), (1, .int r), (2, .int (nI k)), (4, .int (nI c))]) rfl ?_
        refine r_iinc hC dX9_playerAtRank_105 (j := 5) rfl (v := nI (c + 1)) (nI_succ c).symm (by rw [hnl]; decide) (L' := [(4, .int (nI (c + 1))), (3, .int ((hCnt (fun j => sAheadB f g hd j k) c) + 0)), (5, .int ((hd c) - (hd k))), (0, .ref m), (1, .int r), (2, .int (nI k))]) rfl ?_
        refine r_goto hC dX9_playerAtRank_108 (tgt := 22) (by decide) ?_
        refine r_locals [3, 4, 5, 1, 0] (L' := [(0, .ref m), (1, .int r), (2, .int (nI k)), (3, .int ((hCnt (fun j => sAheadB f g hd j k) c) + 0)), (4, .int (nI (c + 1)))]) rfl ?_
        have y1 : sScore f g c - sScore f g k = hSumIf (hOwnP f g (nI c)) f 25 - hSumIf (hOwnP f g (nI k)) f 25 := rfl
        have y2 : sDiff f g hd c k = hd c - hd k := if_pos c51
        have y3 : sDiff f g hd c k ≤ 0 := by rw [y2]; exact Int32.not_lt.mp c84
        have y4 : ¬ sDiff f g hd c k = 0 := by rw [y2]; exact c89
        have h8 : sAheadB f g hd c k = false := by
          simp [sAheadB, y3, y4]
        have e9 : hCnt (fun j => sAheadB f g hd j k) (c + 1) = hCnt (fun j => sAheadB f g hd j k) c + 0 := (if_neg (by show ¬ sAheadB f g hd c k = true; rw [h8]; decide)).trans (Int32.add_zero _).symm
        rw [e9] at kk
        exact kk
      · refine r_iload hC dX9_playerAtRank_92 (j := 5) rfl ?_
        refine r_iload_n hC dX9_playerAtRank_94 rfl (j := 3) rfl ?_
        refine r_icmp_ge hC dX9_playerAtRank_95 (tgt := 102) (by decide) (fun c95 => ?_) (fun c95 => ?_)
        · refine r_iconst hC dX9_playerAtRank_102 (v := 0) (by decide) ?_
          refine r_iadd hC dX9_playerAtRank_103 ?_
          refine r_istore_n hC dX9_playerAtRank_104 rfl (by rw [hnl]; decide) (L' := [(3, .int ((hCnt (fun j => sAheadB f g hd j k) c) + 0)), (5, .int ((hd c) - (hd k))), (0, .ref m), (1, .int r), (2, .int (nI k)), (4, .int (nI c))]) rfl ?_
          refine r_iinc hC dX9_playerAtRank_105 (j := 5) rfl (v := nI (c + 1)) (nI_succ c).symm (by rw [hnl]; decide) (L' := [(4, .int (nI (c + 1))), (3, .int ((hCnt (fun j => sAheadB f g hd j k) c) + 0)), (5, .int ((hd c) - (hd k))), (0, .ref m), (1, .int r), (2, .int (nI k))]) rfl ?_
          refine r_goto hC dX9_playerAtRank_108 (tgt := 22) (by decide) ?_
          refine r_locals [3, 4, 5, 1, 0] (L' := [(0, .ref m), (1, .int r), (2, .int (nI k)), (3, .int ((hCnt (fun j => sAheadB f g hd j k) c) + 0)), (4, .int (nI (c + 1)))]) rfl ?_
          have y1 : sScore f g c - sScore f g k = hSumIf (hOwnP f g (nI c)) f 25 - hSumIf (hOwnP f g (nI k)) f 25 := rfl
          have y2 : sDiff f g hd c k = hd c - hd k := if_pos c51
          have y3 : sDiff f g hd c k ≤ 0 := by rw [y2]; exact Int32.not_lt.mp c84
          have y4 : sDiff f g hd c k = 0 := by rw [y2]; exact c89
          have h6 : ¬ c < k := fun z => absurd c95 (nI_ge z (by omega))
          have h8 : sAheadB f g hd c k = false := by
            simp [sAheadB, y4, h6]
          have e9 : hCnt (fun j => sAheadB f g hd j k) (c + 1) = hCnt (fun j => sAheadB f g hd j k) c + 0 := (if_neg (by show ¬ sAheadB f g hd c k = true; rw [h8]; decide)).trans (Int32.add_zero _).symm
          rw [e9] at kk
          exact kk
        · refine r_iconst hC dX9_playerAtRank_98 (v := 1) (by decide) ?_
          refine r_goto hC dX9_playerAtRank_99 (tgt := 103) (by decide) ?_
          refine r_iadd hC dX9_playerAtRank_103 ?_
          refine r_istore_n hC dX9_playerAtRank_104 rfl (by rw [hnl]; decide) (L' := [(3, .int ((hCnt (fun j => sAheadB f g hd j k) c) + 1)), (5, .int ((hd c) - (hd k))), (0, .ref m), (1, .int r), (2, .int (nI k)), (4, .int (nI c))]) rfl ?_
          refine r_iinc hC dX9_playerAtRank_105 (j := 5) rfl (v := nI (c + 1)) (nI_succ c).symm (by rw [hnl]; decide) (L' := [(4, .int (nI (c + 1))), (3, .int ((hCnt (fun j => sAheadB f g hd j k) c) + 1)), (5, .int ((hd c) - (hd k))), (0, .ref m), (1, .int r), (2, .int (nI k))]) rfl ?_
          refine r_goto hC dX9_playerAtRank_108 (tgt := 22) (by decide) ?_
          refine r_locals [3, 4, 5, 1, 0] (L' := [(0, .ref m), (1, .int r), (2, .int (nI k)), (3, .int ((hCnt (fun j => sAheadB f g hd j k) c) + 1)), (4, .int (nI (c + 1)))]) rfl ?_
          have y1 : sScore f g c - sScore f g k = hSumIf (hOwnP f g (nI c)) f 25 - hSumIf (hOwnP f g (nI k)) f 25 := rfl
          have y2 : sDiff f g hd c k = hd c - hd k := if_pos c51
          have y3 : sDiff f g hd c k ≤ 0 := by rw [y2]; exact Int32.not_lt.mp c84
          have y4 : sDiff f g hd c k = 0 := by rw [y2]; exact c89
          have h6 : c < k := Nat.lt_of_not_le (fun z => c95 (nI_le z (by omega)))
          have h8 : sAheadB f g hd c k = true := by
            simp [sAheadB, y4, h6]
          have e9 : hCnt (fun j => sAheadB f g hd j k) (c + 1) = hCnt (fun j => sAheadB f g hd j k) c + 1 := if_pos h8
          rw [e9] at kk
          exact kk
  · refine r_iload hC dX9_playerAtRank_54 (j := 0) rfl ?_
    refine r_goto hC dX9_playerAtRank_56 (tgt := 79) (by decide) ?_
    refine r_istore hC dX9_playerAtRank_79 (by rw [hnl]; decide) (L' := [(5, .int ((hSumIf (hOwnP f g (nI c)) f 25) - (hSumIf (hOwnP f g (nI k)) f 25))), (0, .ref m), (1, .int r), (2, .int (nI k)), (3, .int (hCnt (fun j => sAheadB f g hd j k) c)), (4, .int (nI c))]) rfl ?_
    refine r_iload_n hC dX9_playerAtRank_81 rfl (j := 4) rfl ?_
    refine r_iload hC dX9_playerAtRank_82 (j := 0) rfl ?_
    refine r_if_gt hC dX9_playerAtRank_84 (tgt := 98) (by decide) (fun c84 => ?_) (fun c84 => ?_)
    · refine r_iconst hC dX9_playerAtRank_98 (v := 1) (by decide) ?_
      refine r_goto hC dX9_playerAtRank_99 (tgt := 103) (by decide) ?_
      refine r_iadd hC dX9_playerAtRank_103 ?_
      refine r_istore_n hC dX9_playerAtRank_104 rfl (by rw [hnl]; decide) (L' := [(3, .int ((hCnt (fun j => sAheadB f g hd j k) c) + 1)), (5, .int ((hSumIf (hOwnP f g (nI c)) f 25) - (hSumIf (hOwnP f g (nI k)) f 25))), (0, .ref m), (1, .int r), (2, .int (nI k)), (4, .int (nI c))]) rfl ?_
      refine r_iinc hC dX9_playerAtRank_105 (j := 5) rfl (v := nI (c + 1)) (nI_succ c).symm (by rw [hnl]; decide) (L' := [(4, .int (nI (c + 1))), (3, .int ((hCnt (fun j => sAheadB f g hd j k) c) + 1)), (5, .int ((hSumIf (hOwnP f g (nI c)) f 25) - (hSumIf (hOwnP f g (nI k)) f 25))), (0, .ref m), (1, .int r), (2, .int (nI k))]) rfl ?_
      refine r_goto hC dX9_playerAtRank_108 (tgt := 22) (by decide) ?_
      refine r_locals [3, 4, 5, 1, 0] (L' := [(0, .ref m), (1, .int r), (2, .int (nI k)), (3, .int ((hCnt (fun j => sAheadB f g hd j k) c) + 1)), (4, .int (nI (c + 1)))]) rfl ?_
      have y1 : sScore f g c - sScore f g k = hSumIf (hOwnP f g (nI c)) f 25 - hSumIf (hOwnP f g (nI k)) f 25 := rfl
      have y2 : sDiff f g hd c k = sScore f g c - sScore f g k := if_neg c51
      have y3 : ¬ sDiff f g hd c k ≤ 0 := by rw [y2]; exact Int32.not_le.mpr c84
      have h8 : sAheadB f g hd c k = true := by
        simp [sAheadB, y3]
      have e9 : hCnt (fun j => sAheadB f g hd j k) (c + 1) = hCnt (fun j => sAheadB f g hd j k) c + 1 := if_pos h8
      rw [e9] at kk
      exact kk
    · refine r_iload hC dX9_playerAtRank_87 (j := 0) rfl ?_
      refine r_if_ne hC dX9_playerAtRank_89 (tgt := 102) (by decide) (fun c89 => ?_) (fun c89 => ?_)
      · refine r_iconst hC dX9_playerAtRank_102 (v := 0) (by decide) ?_
        refine r_iadd hC dX9_playerAtRank_103 ?_
        refine r_istore_n hC dX9_playerAtRank_104 rfl (by rw [hnl]; decide) (L' := [(3, .int ((hCnt (fun j => sAheadB f g hd j k) c) + 0)), (5, .int ((hSumIf (hOwnP f g (nI c)) f 25) - (hSumIf (hOwnP f g (nI k)) f 25))), (0, .ref m), (1, .int r), (2, .int (nI k)), (4, .int (nI c))]) rfl ?_
        refine r_iinc hC dX9_playerAtRank_105 (j := 5) rfl (v := nI (c + 1)) (nI_succ c).symm (by rw [hnl]; decide) (L' := [(4, .int (nI (c + 1))), (3, .int ((hCnt (fun j => sAheadB f g hd j k) c) + 0)), (5, .int ((hSumIf (hOwnP f g (nI c)) f 25) - (hSumIf (hOwnP f g (nI k)) f 25))), (0, .ref m), (1, .int r), (2, .int (nI k))]) rfl ?_
        refine r_goto hC dX9_playerAtRank_108 (tgt := 22) (by decide) ?_
        refine r_locals [3, 4, 5, 1, 0] (L' := [(0, .ref m), (1, .int r), (2, .int (nI k)), (3, .int ((hCnt (fun j => sAheadB f g hd j k) c) + 0)), (4, .int (nI (c + 1)))]) rfl ?_
        have y1 : sScore f g c - sScore f g k = hSumIf (hOwnP f g (nI c)) f 25 - hSumIf (hOwnP f g (nI k)) f 25 := rfl
        have y2 : sDiff f g hd c k = sScore f g c - sScore f g k := if_neg c51
        have y3 : sDiff f g hd c k ≤ 0 := by rw [y2]; exact Int32.not_lt.mp c84
        have y4 : ¬ sDiff f g hd c k = 0 := by rw [y2]; exact c89
        have h8 : sAheadB f g hd c k = false := by
          simp [sAheadB, y3, y4]
        have e9 : hCnt (fun j => sAheadB f g hd j k) (c + 1) = hCnt (fun j => sAheadB f g hd j k) c + 0 := (if_neg (by show ¬ sAheadB f g hd c k = true; rw [h8]; decide)).trans (Int32.add_zero _).symm
        rw [e9] at kk
        exact kk
      · refine r_iload hC dX9_playerAtRank_92 (j := 5) rfl ?_
        refine r_iload_n hC dX9_playerAtRank_94 rfl (j := 3) rfl ?_
        refine r_icmp_ge hC dX9_playerAtRank_95 (tgt := 102) (by decide) (fun c95 => ?_) (fun c95 => ?_)
        · refine r_iconst hC dX9_playerAtRank_102 (v := 0) (by decide) ?_
          refine r_iadd hC dX9_playerAtRank_103 ?_
          refine r_istore_n hC dX9_playerAtRank_104 rfl (by rw [hnl]; decide) (L' := [(3, .int ((hCnt (fun j => sAheadB f g hd j k) c) + 0)), (5, .int ((hSumIf (hOwnP f g (nI c)) f 25) - (hSumIf (hOwnP f g (nI k)) f 25))), (0, .ref m), (1, .int r), (2, .int (nI k)), (4, .int (nI c))]) rfl ?_
          refine r_iinc hC dX9_playerAtRank_105 (j := 5) rfl (v := nI (c + 1)) (nI_succ c).symm (by rw [hnl]; decide) (L' := [(4, .int (nI (c + 1))), (3, .int ((hCnt (fun j => sAheadB f g hd j k) c) + 0)), (5, .int ((hSumIf (hOwnP f g (nI c)) f 25) - (hSumIf (hOwnP f g (nI k)) f 25))), (0, .ref m), (1, .int r), (2, .int (nI k))]) rfl ?_
          refine r_goto hC dX9_playerAtRank_108 (tgt := 22) (by decide) ?_
          refine r_locals [3, 4, 5, 1, 0] (L' := [(0, .ref m), (1, .int r), (2, .int (nI k)), (3, .int ((hCnt (fun j => sAheadB f g hd j k) c) + 0)), (4, .int (nI (c + 1)))]) rfl ?_
          have y1 : sScore f g c - sScore f g k = hSumIf (hOwnP f g (nI c)) f 25 - hSumIf (hOwnP f g (nI k)) f 25 := rfl
          have y2 : sDiff f g hd c k = sScore f g c - sScore f g k := if_neg c51
          have y3 : sDiff f g hd c k ≤ 0 := by rw [y2]; exact Int32.not_lt.mp c84
          have y4 : sDiff f g hd c k = 0 := by rw [y2]; exact c89
          have h6 : ¬ c < k := fun z => absurd c95 (nI_ge z (by omega))
          have h8 : sAheadB f g hd c k = false := by
            simp [sAheadB, y4, h6]
          have e9 : hCnt (fun j => sAheadB f g hd j k) (c + 1) = hCnt (fun j => sAheadB f g hd j k) c + 0 := (if_neg (by show ¬ sAheadB f g hd c k = true; rw [h8]; decide)).trans (Int32.add_zero _).symm
          rw [e9] at kk
          exact kk
        · refine r_iconst hC dX9_playerAtRank_98 (v := 1) (by decide) ?_
          refine r_goto hC dX9_playerAtRank_99 (tgt := 103) (by decide) ?_
          refine r_iadd hC dX9_playerAtRank_103 ?_
          refine r_istore_n hC dX9_playerAtRank_104 rfl (by rw [hnl]; decide) (L' := [(3, .int ((hCnt (fun j => sAheadB f g hd j k) c) + 1)), (5, .int ((hSumIf (hOwnP f g (nI c)) f 25) - (hSumIf (hOwnP f g (nI k)) f 25))), (0, .ref m), (1, .int r), (2, .int (nI k)), (4, .int (nI c))]) rfl ?_
          refine r_iinc hC dX9_playerAtRank_105 (j := 5) rfl (v := nI (c + 1)) (nI_succ c).symm (by rw [hnl]; decide) (L' := [(4, .int (nI (c + 1))), (3, .int ((hCnt (fun j => sAheadB f g hd j k) c) + 1)), (5, .int ((hSumIf (hOwnP f g (nI c)) f 25) - (hSumIf (hOwnP f g (nI k)) f 25))), (0, .ref m), (1, .int r), (2, .int (nI k))]) rfl ?_
          refine r_goto hC dX9_playerAtRank_108 (tgt := 22) (by decide) ?_
          refine r_locals [3, 4, 5, 1, 0] (L' := [(0, .ref m), (1, .int r), (2, .int (nI k)), (3, .int ((hCnt (fun j => sAheadB f g hd j k) c) + 1)), (4, .int (nI (c + 1)))]) rfl ?_
          have y1 : sScore f g c - sScore f g k = hSumIf (hOwnP f g (nI c)) f 25 - hSumIf (hOwnP f g (nI k)) f 25 := rfl
          have y2 : sDiff f g hd c k = sScore f g c - sScore f g k := if_neg c51
          have y3 : sDiff f g hd c k ≤ 0 := by rw [y2]; exact Int32.not_lt.mp c84
          have y4 : sDiff f g hd c k = 0 := by rw [y2]; exact c89
          have h6 : c < k := Nat.lt_of_not_le (fun z => c95 (nI_le z (by omega)))
          have h8 : sAheadB f g hd c k = true := by
            simp [sAheadB, y4, h6]
          have e9 : hCnt (fun j => sAheadB f g hd j k) (c + 1) = hCnt (fun j => sAheadB f g hd j k) c + 1 := if_pos h8
          rw [e9] at kk
          exact kk
set_option maxRecDepth 100000 in
theorem prn_all {X : mC} {d : Nat} {k : Nat} {r : Int32} {w : mW} {m : Nat} {th ch ea fa sv0 tn he en ln iw id0 : Int32} {f g : Nat → Int32} {sl op lo : Int32} {hd rs : Nat → Int32} {np : Nat} {tp av lg pl tk : Int32} (hC : Cx X RX9 cX9_playerAtRank (d + 2) 0 0) (hnl : mNL X = 6) (hm : w[m]? = some (mO 10 [.int th, .int ch, .int ea, .int fa, .int sv0, .ref (m + 1), .ref (m + 2), .ref (m + 3), .ref (m + 4), .ref (m + 5), .ref (m + 6), .ref (m + 7), .ref (m + 8), .ref (m + 9), .ref (m + 10), .int tn, .int he, .int en, .int ln, .int iw, .int id0])) (hv : w[m + 1]? = some (mI 0 67 (enc ((f, g, sl, op, lo), hd, rs, np, tp, av, lg, pl, tk)))) (h25 : f 25 = 0) (hpos : ∀ j, j < 25 → ¬ f j < 0) (hnp : np ≤ 4) (hk : k < np) (kk : Wp X 0 0 w [(0, .ref m), (1, .int r), (2, .int (nI k)), (3, .int (hCnt (fun j => sAheadB f g hd j k) np)), (4, .int (nI np))] [] 22) : ∀ n c : Nat, c + n = np → Wp X 0 0 w [(0, .ref m), (1, .int r), (2, .int (nI k)), (3, .int (hCnt (fun j => sAheadB f g hd j k) c)), (4, .int (nI c))] [] 22 := by
  intro n
  induction n with
  | zero =>
    intro c h9
    obtain rfl : c = np := by omega
    exact kk
  | succ n ih =>
    intro c h9
    exact prn_it hC hnl hm hv h25 hpos hnp hk (by omega) (ih (c + 1) (by omega))
def plRankP (f g hd : Nat → Int32) (np : Nat) (r : Int32) (c : Nat) : Bool := decide (hCnt (fun j => sAheadB f g hd j c) np = r)
set_option maxRecDepth 100000 in
set_option maxHeartbeats 4000000 in
theorem pr_it {X : mC} {d : Nat} {c n0 : Nat} {r : Int32} {P : Option Value → mW → Prop} {w : mW} {m : Nat} {th ch ea fa sv0 tn he en ln iw id0 : Int32} {f g : Nat → Int32} {sl op lo : Int32} {hd rs : Nat → Int32} {np : Nat} {tp av lg pl tk : Int32} (hC : Cx X RX9 cX9_playerAtRank (d + 2) 0 0) (hnl : mNL X = 6) (hm : w[m]? = some (mO 10 [.int th, .int ch, .int ea, .int fa, .int sv0, .ref (m + 1), .ref (m + 2), .ref (m + 3), .ref (m + 4), .ref (m + 5), .ref (m + 6), .ref (m + 7), .ref (m + 8), .ref (m + 9), .ref (m + 10), .int tn, .int he, .int en, .int ln, .int iw, .int id0])) (hv : w[m + 1]? = some (mI 0 67 (enc ((f, g, sl, op, lo), hd, rs, np, tp, av, lg, pl, tk)))) (h25 : f 25 = 0) (hpos : ∀ j, j < 25 → ¬ f j < 0) (hnp : np ≤ 4) (hc : c < np) (hE : mEnd X n0 0 0 P noX) (hR : mRet X (some .int)) (hlen : w.length = n0) (k1 : plRankP f g hd np r c = true → P (some (.int (nI c))) w) (k2 : plRankP f g hd np r c = false → Wp X 0 0 w [(0, .ref m), (1, .int r), (2, .int (nI (c + 1)))] [] 7) : Wp X 0 0 w [(0, .ref m), (1, .int r), (2, .int (nI c))] [] 7 := by
  refine r_iload_n hC dX9_playerAtRank_7 rfl (j := 2) rfl ?_
  refine r_aload_n hC dX9_playerAtRank_8 rfl (j := 0) rfl ?_
  refine r_get hC gX9_playerAtRank_9 hm (v := .ref (m + 1)) rfl ?_
  refine r_iconst hC dX9_playerAtRank_12 (v := 0) (by decide) ?_
  refine r_iald hC dX9_playerAtRank_13 (j := 0) hv ⟨by decide, by decide, by decide⟩ ?_
  rw [show enc ((f, g, sl, op, lo), hd, rs, np, tp, av, lg, pl, tk) 0 = nI np from rfl]
  refine r_icmp_ge hC dX9_playerAtRank_14 (tgt := 124) (by decide) (fun h => absurd h (nI_ge hc (by omega))) (fun _ => ?_)
  refine r_iconst hC dX9_playerAtRank_17 (v := 0) (by decide) ?_
  refine r_istore_n hC dX9_playerAtRank_18 rfl (by rw [hnl]; decide) (L' := [(3, .int 0), (0, .ref m), (1, .int r), (2, .int (nI c))]) rfl ?_
  refine r_iconst hC dX9_playerAtRank_19 (v := 0) (by decide) ?_
  refine r_istore hC dX9_playerAtRank_20 (by rw [hnl]; decide) (L' := [(4, .int 0), (3, .int 0), (0, .ref m), (1, .int r), (2, .int (nI c))]) rfl ?_
  refine r_locals [2, 3, 4, 1, 0] (L' := [(0, .ref m), (1, .int r), (2, .int (nI c)), (3, .int 0), (4, .int 0)]) rfl ?_
  refine prn_all hC hnl hm hv h25 hpos hnp hc ?_ np 0 (Nat.zero_add _)
  refine r_iload hC dX9_playerAtRank_22 (j := 4) rfl ?_
  refine r_aload_n hC dX9_playerAtRank_24 rfl (j := 0) rfl ?_
  refine r_get hC gX9_playerAtRank_25 hm (v := .ref (m + 1)) rfl ?_
  refine r_iconst hC dX9_playerAtRank_28 (v := 0) (by decide) ?_
  refine r_iald hC dX9_playerAtRank_29 (j := 0) hv ⟨by decide, by decide, by decide⟩ ?_
  rw [show enc ((f, g, sl, op, lo), hd, rs, np, tp, av, lg, pl, tk) 0 = nI np from rfl]
  refine r_icmp_ge hC dX9_playerAtRank_30 (tgt := 111) (by decide) (fun _ => ?_) (fun h => absurd (nI_le (Nat.le_refl np) (by omega)) h)
  refine r_iload_n hC dX9_playerAtRank_111 rfl (j := 3) rfl ?_
  refine r_iload_n hC dX9_playerAtRank_112 rfl (j := 1) rfl ?_
  refine r_icmp_ne hC dX9_playerAtRank_113 (tgt := 118) (by decide) (fun c113 => ?_) (fun c113 => ?_)
  · refine r_iinc hC dX9_playerAtRank_118 (j := 2) rfl (v := nI (c + 1)) (nI_succ c).symm (by rw [hnl]; decide) (L' := [(2, .int (nI (c + 1))), (0, .ref m), (1, .int r), (3, .int (hCnt (fun j => sAheadB f g hd j c) np)), (4, .int (nI np))]) rfl ?_
    refine r_goto hC dX9_playerAtRank_121 (tgt := 7) (by decide) ?_
    refine r_locals [1, 2, 0] (L' := [(0, .ref m), (1, .int r), (2, .int (nI (c + 1)))]) rfl ?_
    refine k2 ?_
    simp [plRankP, c113]
  · refine r_iload_n hC dX9_playerAtRank_116 rfl (j := 2) rfl ?_
    refine r_iret hC hE hR dX9_playerAtRank_117 (by omega) (by omega) (hlen) ?_
    refine k1 ?_
    simp [plRankP, c113]
set_option maxRecDepth 100000 in
theorem pr_all {X : mC} {d n0 : Nat} {r : Int32} {P : Option Value → mW → Prop} {w : mW} {m : Nat} {th ch ea fa sv0 tn he en ln iw id0 : Int32} {f g : Nat → Int32} {sl op lo : Int32} {hd rs : Nat → Int32} {np : Nat} {tp av lg pl tk : Int32} (hC : Cx X RX9 cX9_playerAtRank (d + 2) 0 0) (hnl : mNL X = 6) (hm : w[m]? = some (mO 10 [.int th, .int ch, .int ea, .int fa, .int sv0, .ref (m + 1), .ref (m + 2), .ref (m + 3), .ref (m + 4), .ref (m + 5), .ref (m + 6), .ref (m + 7), .ref (m + 8), .ref (m + 9), .ref (m + 10), .int tn, .int he, .int en, .int ln, .int iw, .int id0])) (hv : w[m + 1]? = some (mI 0 67 (enc ((f, g, sl, op, lo), hd, rs, np, tp, av, lg, pl, tk)))) (h25 : f 25 = 0) (hpos : ∀ j, j < 25 → ¬ f j < 0) (hnp : np ≤ 4) (hE : mEnd X n0 0 0 P noX) (hR : mRet X (some .int)) (hlen : w.length = n0) (k1 : ∀ k, k < np → plRankP f g hd np r k = true → (∀ j, j < k → plRankP f g hd np r j = false) → P (some (.int (nI k))) w) (k2 : (∀ j, j < np → plRankP f g hd np r j = false) → Wp X 0 0 w [(0, .ref m), (1, .int r), (2, .int (nI np))] [] 7) : ∀ n c : Nat, c + n = np → (∀ j, j < c → plRankP f g hd np r j = false) → Wp X 0 0 w [(0, .ref m), (1, .int r), (2, .int (nI c))] [] 7 := by
  intro n
  induction n with
  | zero =>
    intro c h9 hj
    obtain rfl : c = np := by omega
    exact k2 hj
  | succ n ih =>
    intro c h9 hj
    refine pr_it hC hnl hm hv h25 hpos hnp (by omega) hE hR hlen (fun z => k1 c (by omega) z hj) (fun z => ih (c + 1) (by omega) (fun j q => ?_))
    rcases Nat.lt_or_ge j c with q1 | q1
    · exact hj j q1
    · obtain rfl : j = c := by omega
      exact z
set_option maxRecDepth 100000 in
set_option maxHeartbeats 4000000 in
theorem sm_playerAtRank {d : Nat} {r : Int32} {w : mW} {m : Nat} {th : Int32} {f g : Nat → Int32} {sl op lo : Int32} {hd rs : Nat → Int32} {np : Nat} {tp av lg pl tk : Int32} {l : List sv} {ea fa : Int32} {so : Option sv} {tx : Nat → Int32} {tn : Nat} {lf : Nat → Int32} {ln : Nat} (H : MdAt w m th ((f, g, sl, op, lo), hd, rs, np, tp, av, lg, pl, tk) l ea fa so tx tn lf ln) (h25 : f 25 = 0) (hpos : ∀ j, j < 25 → ¬ f j < 0) (hnp : np ≤ 4) : Sp (d + 2) yX9_playerAtRank cX9_playerAtRank 6 (some .int) [.ref m, .int r] w 0 0 (fun v w' => (∃ k, k < np ∧ plRankP f g hd np r k = true ∧ (∀ j, j < k → plRankP f g hd np r j = false) ∧ v = some (.int (nI k)) ∧ MdTo w w' m 0 ((f, g, sl, op, lo), hd, rs, np, tp, av, lg, pl, tk) l ea fa so tx tn lf ln) ∨ ((∀ j, j < np → plRankP f g hd np r j = false) ∧ v = some (.int 0) ∧ MdTo w w' m 1 ((f, g, sl, op, lo), hd, rs, np, tp, av, lg, pl, tk) l ea fa so tx tn lf ln)) noX := by
  refine Sp.of (by decide +kernel) (Nat.le_of_ble_eq_true rfl) (fun X hC hnl hE hR hN => ?_)
  have hC : Cx X RX9 cX9_playerAtRank (d + 2) 0 0 := hC
  show Wp X 0 0 w [(0, .ref m), (1, .int r)] [] 0
  obtain ⟨he, en, iw, id0, bf, sf, kf, pf, lt, hm, hv, hbf, hsf, hkf, hpf, htx, hlf, hlt, hwd, hwa, hpo, hso⟩ := H
  have hF0 : Fr m w w := Fr.rfl
  refine r_aload_n hC dX9_playerAtRank_0 rfl (j := 0) rfl ?_
  refine r_iconst hC dX9_playerAtRank_1 (v := 0) (by decide) ?_
  refine r_put' hC pX9_playerAtRank_2 hm (Nat.le_of_ble_eq_true rfl) (fun _ => rfl) (fun _ => rfl) (fun w_1 ew_1 => ?_)
  replace ew_1 : w_1 = (w).set (m) (mO 10 [.int 0, .int (nI l.length), .int ea, .int fa, .int (bI so.isSome), .ref (m + 1), .ref (m + 2), .ref (m + 3), .ref (m + 4), .ref (m + 5), .ref (m + 6), .ref (m + 7), .ref (m + 8), .ref (m + 9), .ref (m + 10), .int (nI tn), .int he, .int en, .int (nI ln), .int iw, .int id0]) := ew_1
  have hf1_m : w_1[m]? = some (mO 10 [.int 0, .int (nI l.length), .int ea, .int fa, .int (bI so.isSome), .ref (m + 1), .ref (m + 2), .ref (m + 3), .ref (m + 4), .ref (m + 5), .ref (m + 6), .ref (m + 7), .ref (m + 8), .ref (m + 9), .ref (m + 10), .int (nI tn), .int he, .int en, .int (nI ln), .int iw, .int id0]) := by rw [ew_1]; exact List.getElem?_set_self (lt_of_get hm)
  have hf1__m___1_ : w_1[(m + 1)]? = some (mI 0 67 (enc ((f, g, sl, op, lo), hd, rs, np, tp, av, lg, pl, tk))) := by rw [ew_1, List.getElem?_set_ne (by omega)]; exact hv
  have hf1__m___2_ : w_1[(m + 2)]? = some (mI 0 67 bf) := by rw [ew_1, List.getElem?_set_ne (by omega)]; exact hbf
  have hf1__m___3_ : w_1[(m + 3)]? = some (mI 0 67 sf) := by rw [ew_1, List.getElem?_set_ne (by omega)]; exact hsf
  have hf1__m___4_ : w_1[(m + 4)]? = some (mI 0 67 kf) := by rw [ew_1, List.getElem?_set_ne (by omega)]; exact hkf
  have hf1__m___5_ : w_1[(m + 5)]? = some (mI 0 536 pf) := by rw [ew_1, List.getElem?_set_ne (by omega)]; exact hpf
  have hf1__m___6_ : w_1[(m + 6)]? = some (mI 0 60 tx) := by rw [ew_1, List.getElem?_set_ne (by omega)]; exact htx
  have hf1__m___7_ : w_1[(m + 7)]? = some (mI 0 40 lf) := by rw [ew_1, List.getElem?_set_ne (by omega)]; exact hlf
  have hf1__m___8_ : w_1[(m + 8)]? = some (mI 0 8 lt) := by rw [ew_1, List.getElem?_set_ne (by omega)]; exact hlt
  have hf1__m___9_ : w_1[(m + 9)]? = some (mI 0 41 wdF) := by rw [ew_1, List.getElem?_set_ne (by omega)]; exact hwd
  have hf1__m___10_ : w_1[(m + 10)]? = some (mI 0 9 waF) := by rw [ew_1, List.getElem?_set_ne (by omega)]; exact hwa
  have hF_1 : Fr m w w_1 := by rw [ew_1]; exact (Fr.set hF0 (by omega) (by omega))
  refine r_iconst hC dX9_playerAtRank_5 (v := 0) (by decide) ?_
  refine r_istore_n hC dX9_playerAtRank_6 rfl (by rw [hnl]; decide) (L' := [(2, .int 0), (0, .ref m), (1, .int r)]) rfl ?_
  refine r_locals [1, 2, 0] (L' := [(0, .ref m), (1, .int r), (2, .int 0)]) rfl ?_
  refine pr_all (r := r) hC hnl hf1_m hf1__m___1_ h25 hpos hnp hE hR hF_1.1 (fun k z1 z2 z3 => Or.inl ⟨k, z1, z2, z3, rfl, ⟨⟨_, _, _, _, _, _, _, _, _, hf1_m, hf1__m___1_, hf1__m___2_, hf1__m___3_, hf1__m___4_, hf1__m___5_, hf1__m___6_, hf1__m___7_, hf1__m___8_, hf1__m___9_, hf1__m___10_, hpo, hso⟩, hF_1⟩⟩) (fun hno => ?_) np 0 (Nat.zero_add np) (fun j hj => absurd hj (Nat.not_lt_zero j))
  refine r_iload_n hC dX9_playerAtRank_7 rfl (j := 2) rfl ?_
  refine r_aload_n hC dX9_playerAtRank_8 rfl (j := 0) rfl ?_
  refine r_get hC gX9_playerAtRank_9 hf1_m (v := .ref (m + 1)) rfl ?_
  refine r_iconst hC dX9_playerAtRank_12 (v := 0) (by decide) ?_
  refine r_iald hC dX9_playerAtRank_13 (j := 0) hf1__m___1_ ⟨by decide, by decide, by decide⟩ ?_
  rw [show enc ((f, g, sl, op, lo), hd, rs, np, tp, av, lg, pl, tk) 0 = nI np from rfl]
  refine r_icmp_ge hC dX9_playerAtRank_14 (tgt := 124) (by decide) (fun _ => ?_) (fun h => absurd (nI_le (Nat.le_refl np) (by omega)) h)
  refine r_aload_n hC dX9_playerAtRank_124 rfl (j := 0) rfl ?_
  refine r_iconst hC dX9_playerAtRank_125 (v := 1) (by decide) ?_
  refine r_callV hC (vs := [.int 1]) vX9_playerAtRank_126 (sm_fail (d := d + 1) (x := 1) hf1_m) hf1_m rfl rfl (by omega) (by omega) (by omega) (Nat.le_of_ble_eq_true rfl) (fun v_21 w_21 hP_21 hlen_21 => ?_) (fun _ _ h => h.elim)
  obtain ⟨hv_21, ew_21⟩ := hP_21
  rw [hv_21]
  have hf21_m : w_21[m]? = some (mO 10 [.int 1, .int (nI l.length), .int ea, .int fa, .int (bI so.isSome), .ref (m + 1), .ref (m + 2), .ref (m + 3), .ref (m + 4), .ref (m + 5), .ref (m + 6), .ref (m + 7), .ref (m + 8), .ref (m + 9), .ref (m + 10), .int (nI tn), .int he, .int en, .int (nI ln), .int iw, .int id0]) := by rw [ew_21]; exact List.getElem?_set_self (lt_of_get hf1_m)
  have hf21__m___1_ : w_21[(m + 1)]? = some (mI 0 67 (enc ((f, g, sl, op, lo), hd, rs, np, tp, av, lg, pl, tk))) := by rw [ew_21, List.getElem?_set_ne (by omega)]; exact hf1__m___1_
  have hf21__m___2_ : w_21[(m + 2)]? = some (mI 0 67 bf) := by rw [ew_21, List.getElem?_set_ne (by omega)]; exact hf1__m___2_
  have hf21__m___3_ : w_21[(m + 3)]? = some (mI 0 67 sf) := by rw [ew_21, List.getElem?_set_ne (by omega)]; exact hf1__m___3_
  have hf21__m___4_ : w_21[(m + 4)]? = some (mI 0 67 kf) := by rw [ew_21, List.getElem?_set_ne (by omega)]; exact hf1__m___4_
  have hf21__m___5_ : w_21[(m + 5)]? = some (mI 0 536 pf) := by rw [ew_21, List.getElem?_set_ne (by omega)]; exact hf1__m___5_
  have hf21__m___6_ : w_21[(m + 6)]? = some (mI 0 60 tx) := by rw [ew_21, List.getElem?_set_ne (by omega)]; exact hf1__m___6_
  have hf21__m___7_ : w_21[(m + 7)]? = some (mI 0 40 lf) := by rw [ew_21, List.getElem?_set_ne (by omega)]; exact hf1__m___7_
  have hf21__m___8_ : w_21[(m + 8)]? = some (mI 0 8 lt) := by rw [ew_21, List.getElem?_set_ne (by omega)]; exact hf1__m___8_
  have hf21__m___9_ : w_21[(m + 9)]? = some (mI 0 41 wdF) := by rw [ew_21, List.getElem?_set_ne (by omega)]; exact hf1__m___9_
  have hf21__m___10_ : w_21[(m + 10)]? = some (mI 0 9 waF) := by rw [ew_21, List.getElem?_set_ne (by omega)]; exact hf1__m___10_
  have hF_21 : Fr m w w_21 := by rw [ew_21]; exact (Fr.set hF_1 (by omega) (by omega))
  show Wp X 0 0 w_21 [(0, .ref m), (1, .int r), (2, .int (nI np))] [.int 0] 129
  refine r_iret hC hE hR dX9_playerAtRank_129 (by omega) (by omega) (hF_21.1) ?_
  exact Or.inr ⟨hno, rfl, ⟨⟨_, _, _, _, _, _, _, _, _, hf21_m, hf21__m___1_, hf21__m___2_, hf21__m___3_, hf21__m___4_, hf21__m___5_, hf21__m___6_, hf21__m___7_, hf21__m___8_, hf21__m___9_, hf21__m___10_, hpo, hso⟩, hF_21⟩⟩
end MD12
