section MD2
theorem upd_ow0 {f g : Nat → Int32} {sl op lo : Int32} {hd rs : Nat → Int32} {np : Nat} {tp av lg pl tk : Int32} {c : Nat} (hc : c < 25) : upd (enc ((f, g, sl, op, lo), hd, rs, np, tp, av, lg, pl, tk)) (42 + c) 0 = enc ((f, upd g c (-1), sl, op, lo), hd, rs, np, tp, av, lg, pl, tk) := upd_ow (x := -1) hc
theorem lowStep_in {f : Nat → Int32} {op : Int32} {c s lo n : Nat} (h : hNb c s = n) (hn : n ≠ 25) : lowStep f op c s lo = hPick f lo n := by
  unfold lowStep hPick
  rw [h]
  by_cases q : f n < f lo
  · rw [if_pos ⟨Or.inl hn, Int32.not_le.mpr q⟩, if_pos q]
  · rw [if_neg (fun z => z.2 (Int32.not_lt.mp q)), if_neg q]
theorem lowStep_o0 {f : Nat → Int32} {op : Int32} {c s lo : Nat} (h : hNb c s = 25) (hop : op = 0) : lowStep f op c s lo = lo := by
  unfold lowStep
  rw [h]
  exact if_neg (fun z => z.1.elim (fun q => q rfl) (fun q => q hop))
theorem lowStep_o1 {f : Nat → Int32} {op : Int32} {c s lo : Nat} (h : hNb c s = 25) (hop : op = 1) : lowStep f op c s lo = hPick f lo 25 := by
  unfold lowStep hPick
  rw [h]
  by_cases q : f 25 < f lo
  · rw [if_pos ⟨Or.inr (by rw [hop]; decide), Int32.not_le.mpr q⟩, if_pos q]
  · rw [if_neg (fun z => z.2 (Int32.not_lt.mp q)), if_neg q]
theorem hPick_id {f : Nat → Int32} {lo : Nat} : hPick f (hPick f lo 25) 25 = hPick f lo 25 := by
  unfold hPick
  by_cases q : f 25 < f lo
  · rw [if_pos q, if_neg (Int32.not_lt.mpr (Int32.le_refl _))]
  · rw [if_neg q, if_neg q]
set_option maxRecDepth 100000 in
set_option maxHeartbeats 4000000 in
theorem sm_lowest0 {d : Nat} {w : mW} {m : Nat} {th ch ea fa sv0 tn he en ln iw id0 : Int32} {f g : Nat → Int32} {sl op lo : Int32} {hd rs : Nat → Int32} {np : Nat} {tp av lg pl tk : Int32} (hm : w[m]? = some (mO 10 [.int th, .int ch, .int ea, .int fa, .int sv0, .ref (m + 1), .ref (m + 2), .ref (m + 3), .ref (m + 4), .ref (m + 5), .ref (m + 6), .ref (m + 7), .ref (m + 8), .ref (m + 9), .ref (m + 10), .int tn, .int he, .int en, .int ln, .int iw, .int id0])) (hv : w[m + 1]? = some (mI 0 67 (enc ((f, g, sl, op, lo), hd, rs, np, tp, av, lg, pl, tk)))) (h25 : f 25 = 0) (hop : op = 0 ∨ op = 1) : Sp (d + 2) yX9_lowest cX9_lowest 3 (some .int) [.ref m, .int 0] w 0 0 (fun v w' => v = some (.int (nI (hLow f op 0))) ∧ w' = w) noX := by
  refine Sp.of (by decide +kernel) (Nat.le_of_ble_eq_true rfl) (fun X hC hnl hE hR hN => ?_)
  have hC : Cx X RX9 cX9_lowest (d + 2) 0 0 := hC
  show Wp X 0 0 w [(0, .ref m), (1, .int 0)] [] 0
  refine r_iconst hC dX9_lowest_0 (v := (-1)) (by decide) ?_
  refine r_istore_n hC dX9_lowest_1 rfl (by rw [hnl]; decide) (L' := [(2, .int (-1)), (0, .ref m), (1, .int 0)]) rfl ?_
  refine r_iload_n hC dX9_lowest_2 rfl (j := 2) rfl ?_
  refine r_iconst hC dX9_lowest_3 (v := 5) (by decide) ?_
  refine r_icmp_lt hC dX9_lowest_4 (tgt := 16) (by decide) (fun _ => ?_) (fun h => absurd (by decide) h)
  refine r_iload_n hC dX9_lowest_16 rfl (j := 2) rfl ?_
  refine r_iconst hC dX9_lowest_17 (v := 5) (by decide) ?_
  refine r_irem hC dX9_lowest_18 (by decide) ?_
  rw [show (0 - 0 / 5 * 5 : Int32) = 0 from by decide]
  refine r_if_le hC dX9_lowest_19 (tgt := 31) (by decide) (fun _ => ?_) (fun h => absurd (by decide) h)
  refine r_iload_n hC dX9_lowest_31 rfl (j := 2) rfl ?_
  refine r_iconst hC dX9_lowest_32 (v := 5) (by decide) ?_
  refine r_irem hC dX9_lowest_33 (by decide) ?_
  rw [show (0 - 0 / 5 * 5 : Int32) = 0 from by decide]
  refine r_iconst hC dX9_lowest_34 (v := 4) (by decide) ?_
  refine r_icmp_ge hC dX9_lowest_35 (tgt := 47) (by decide) (fun h => absurd h (by decide)) (fun _ => ?_)
  refine r_aload_n hC dX9_lowest_38 rfl (j := 1) rfl ?_
  refine r_iload_n hC dX9_lowest_39 rfl (j := 0) rfl ?_
  refine r_iload_n hC dX9_lowest_40 rfl (j := 2) rfl ?_
  refine r_iconst hC dX9_lowest_41 (v := 1) (by decide) ?_
  refine r_iadd hC dX9_lowest_42 ?_
  rw [show (0 + 1 : Int32) = 1 from by decide]
  refine r_callV hC (vs := [.int (-1), .int 1]) vX9_lowest_43 (sm_lower0 (d := d) (b := 1) hm hv) hm rfl rfl (by omega) (by omega) (by omega) (Nat.le_of_ble_eq_true rfl) (fun v_1 w_1 hP_1 hlen_1 => ?_) (fun _ _ h => h.elim)
  rw [hP_1.1, hP_1.2]
  show Wp X 0 0 w [(2, .int (-1)), (0, .ref m), (1, .int 0)] [.int (nI 1)] 46
  refine r_istore_n hC dX9_lowest_46 rfl (by rw [hnl]; decide) (L' := [(2, .int (nI 1)), (0, .ref m), (1, .int 0)]) rfl ?_
  refine r_iload_n hC dX9_lowest_47 rfl (j := 2) rfl ?_
  refine r_bipush hC dX9_lowest_48 (v := 20) (by decide) ?_
  refine r_icmp_ge hC dX9_lowest_50 (tgt := 62) (by decide) (fun h => absurd h (by decide)) (fun _ => ?_)
  refine r_aload_n hC dX9_lowest_53 rfl (j := 1) rfl ?_
  refine r_iload_n hC dX9_lowest_54 rfl (j := 0) rfl ?_
  refine r_iload_n hC dX9_lowest_55 rfl (j := 2) rfl ?_
  refine r_iconst hC dX9_lowest_56 (v := 5) (by decide) ?_
  refine r_iadd hC dX9_lowest_57 ?_
  rw [show (0 + 5 : Int32) = 5 from by decide]
  refine r_callV hC (vs := [.int (nI 1), .int 5]) vX9_lowest_58 (sm_lower (d := d) (a := 1) (b := 5) hm hv h25 (by decide) (by decide)) hm rfl rfl (by omega) (by omega) (by omega) (Nat.le_of_ble_eq_true rfl) (fun v_2 w_2 hP_2 hlen_2 => ?_) (fun _ _ h => h.elim)
  rw [hP_2.1, hP_2.2]
  show Wp X 0 0 w [(2, .int (nI 1)), (0, .ref m), (1, .int 0)] [.int (nI (hPick f 1 5))] 61
  refine r_istore_n hC dX9_lowest_61 rfl (by rw [hnl]; decide) (L' := [(2, .int (nI (hPick f 1 5))), (0, .ref m), (1, .int 0)]) rfl ?_
  refine r_aload_n hC dX9_lowest_62 rfl (j := 1) rfl ?_
  refine r_get hC gX9_lowest_63 hm (v := .ref (m + 1)) rfl ?_
  refine r_iconst hC dX9_lowest_66 (v := 2) (by decide) ?_
  refine r_iald hC dX9_lowest_67 (j := 2) hv ⟨by decide, by decide, by decide⟩ ?_
  rw [show enc ((f, g, sl, op, lo), hd, rs, np, tp, av, lg, pl, tk) 2 = op from rfl]
  refine r_iconst hC dX9_lowest_68 (v := 1) (by decide) ?_
  refine r_icmp_ne hC dX9_lowest_69 (tgt := 89) (by decide) (fun c69 => ?_) (fun c69 => ?_)
  · refine r_iload_n hC dX9_lowest_89 rfl (j := 0) rfl ?_
    refine r_iret hC hE hR dX9_lowest_90 (by omega) (by omega) (rfl) ?_
    have o9 : op = 0 := hop.resolve_right c69
    have e9 : hLow f op 0 = (hPick f 1 5) := by
      unfold hLow
      rw [lowStep_o0 (c := 0) (s := 3) (by decide) o9, lowStep_o0 (c := 0) (s := 2) (by decide) o9, lowStep_in (n := 5) (c := 0) (s := 1) (by decide) (by decide)]
      rfl
    exact ⟨by rw [e9], rfl⟩
  · refine r_iload_n hC dX9_lowest_72 rfl (j := 2) rfl ?_
    refine r_callS hC (vs := [.int 0]) vX9_lowest_73 (sm_edge0 (d := d + 1)) rfl (by omega) (by omega) (by omega) (Nat.le_of_ble_eq_true rfl) (fun v_3 w_3 hP_3 hlen_3 => ?_) (fun _ _ h => h.elim)
    rw [hP_3.1, hP_3.2]
    show Wp X 0 0 w [(2, .int (nI (hPick f 1 5))), (0, .ref m), (1, .int 0)] [.int 1] 76
    refine r_if_eq hC dX9_lowest_76 (tgt := 89) (by decide) (fun h => absurd h (by decide)) (fun _ => ?_)
    refine r_aload_n hC dX9_lowest_79 rfl (j := 1) rfl ?_
    refine r_iload_n hC dX9_lowest_80 rfl (j := 0) rfl ?_
    refine r_bipush hC dX9_lowest_81 (v := 25) (by decide) ?_
    refine r_callV hC (vs := [.int (nI (hPick f 1 5)), .int 25]) vX9_lowest_83 (sm_lower (d := d) (a := (hPick f 1 5)) (b := 25) hm hv h25 (hPick_lt (by decide) (by decide)) (by decide)) hm rfl rfl (by omega) (by omega) (by omega) (Nat.le_of_ble_eq_true rfl) (fun v_4 w_4 hP_4 hlen_4 => ?_) (fun _ _ h => h.elim)
    rw [hP_4.1, hP_4.2]
    show Wp X 0 0 w [(2, .int (nI (hPick f 1 5))), (0, .ref m), (1, .int 0)] [.int (nI (hPick f (hPick f 1 5) 25))] 86
    refine r_goto hC dX9_lowest_86 (tgt := 90) (by decide) ?_
    refine r_iret hC hE hR dX9_lowest_90 (by omega) (by omega) (rfl) ?_
    have o9 : op = 1 := c69
    have e9 : hLow f op 0 = (hPick f (hPick f 1 5) 25) := by
      unfold hLow
      rw [lowStep_o1 (c := 0) (s := 3) (by decide) o9, lowStep_o1 (c := 0) (s := 2) (by decide) o9, lowStep_in (n := 5) (c := 0) (s := 1) (by decide) (by decide), hPick_id]
      rfl
    exact ⟨by rw [e9], rfl⟩
set_option maxRecDepth 100000 in
set_option maxHeartbeats 4000000 in
theorem sm_lowest1 {d : Nat} {w : mW} {m : Nat} {th ch ea fa sv0 tn he en ln iw id0 : Int32} {f g : Nat → Int32} {sl op lo : Int32} {hd rs : Nat → Int32} {np : Nat} {tp av lg pl tk : Int32} (hm : w[m]? = some (mO 10 [.int th, .int ch, .int ea, .int fa, .int sv0, .ref (m + 1), .ref (m + 2), .ref (m + 3), .ref (m + 4), .ref (m + 5), .ref (m + 6), .ref (m + 7), .ref (m + 8), .ref (m + 9), .ref (m + 10), .int tn, .int he, .int en, .int ln, .int iw, .int id0])) (hv : w[m + 1]? = some (mI 0 67 (enc ((f, g, sl, op, lo), hd, rs, np, tp, av, lg, pl, tk)))) (h25 : f 25 = 0) (hop : op = 0 ∨ op = 1) : Sp (d + 2) yX9_lowest cX9_lowest 3 (some .int) [.ref m, .int 1] w 0 0 (fun v w' => v = some (.int (nI (hLow f op 1))) ∧ w' = w) noX := by
  refine Sp.of (by decide +kernel) (Nat.le_of_ble_eq_true rfl) (fun X hC hnl hE hR hN => ?_)
  have hC : Cx X RX9 cX9_lowest (d + 2) 0 0 := hC
  show Wp X 0 0 w [(0, .ref m), (1, .int 1)] [] 0
  refine r_iconst hC dX9_lowest_0 (v := (-1)) (by decide) ?_
  refine r_istore_n hC dX9_lowest_1 rfl (by rw [hnl]; decide) (L' := [(2, .int (-1)), (0, .ref m), (1, .int 1)]) rfl ?_
  refine r_iload_n hC dX9_lowest_2 rfl (j := 2) rfl ?_
  refine r_iconst hC dX9_lowest_3 (v := 5) (by decide) ?_
  refine r_icmp_lt hC dX9_lowest_4 (tgt := 16) (by decide) (fun _ => ?_) (fun h => absurd (by decide) h)
  refine r_iload_n hC dX9_lowest_16 rfl (j := 2) rfl ?_
  refine r_iconst hC dX9_lowest_17 (v := 5) (by decide) ?_
  refine r_irem hC dX9_lowest_18 (by decide) ?_
  rw [show (1 - 1 / 5 * 5 : Int32) = 1 from by decide]
  refine r_if_le hC dX9_lowest_19 (tgt := 31) (by decide) (fun h => absurd h (by decide)) (fun _ => ?_)
  refine r_aload_n hC dX9_lowest_22 rfl (j := 1) rfl ?_
  refine r_iload_n hC dX9_lowest_23 rfl (j := 0) rfl ?_
  refine r_iload_n hC dX9_lowest_24 rfl (j := 2) rfl ?_
  refine r_iconst hC dX9_lowest_25 (v := 1) (by decide) ?_
  refine r_isub hC dX9_lowest_26 ?_
  rw [show (1 - 1 : Int32) = 0 from by decide]
  refine r_callV hC (vs := [.int (-1), .int 0]) vX9_lowest_27 (sm_lower0 (d := d) (b := 0) hm hv) hm rfl rfl (by omega) (by omega) (by omega) (Nat.le_of_ble_eq_true rfl) (fun v_1 w_1 hP_1 hlen_1 => ?_) (fun _ _ h => h.elim)
  rw [hP_1.1, hP_1.2]
  show Wp X 0 0 w [(2, .int (-1)), (0, .ref m), (1, .int 1)] [.int (nI 0)] 30
  refine r_istore_n hC dX9_lowest_30 rfl (by rw [hnl]; decide) (L' := [(2, .int (nI 0)), (0, .ref m), (1, .int 1)]) rfl ?_
  refine r_iload_n hC dX9_lowest_31 rfl (j := 2) rfl ?_
  refine r_iconst hC dX9_lowest_32 (v := 5) (by decide) ?_
  refine r_irem hC dX9_lowest_33 (by decide) ?_
  rw [show (1 - 1 / 5 * 5 : Int32) = 1 from by decide]
  refine r_iconst hC dX9_lowest_34 (v := 4) (by decide) ?_
  refine r_icmp_ge hC dX9_lowest_35 (tgt := 47) (by decide) (fun h => absurd h (by decide)) (fun _ => ?_)
  refine r_aload_n hC dX9_lowest_38 rfl (j := 1) rfl ?_
  refine r_iload_n hC dX9_lowest_39 rfl (j := 0) rfl ?_
  refine r_iload_n hC dX9_lowest_40 rfl (j := 2) rfl ?_
  refine r_iconst hC dX9_lowest_41 (v := 1) (by decide) ?_
  refine r_iadd hC dX9_lowest_42 ?_
  rw [show (1 + 1 : Int32) = 2 from by decide]
  refine r_callV hC (vs := [.int (nI 0), .int 2]) vX9_lowest_43 (sm_lower (d := d) (a := 0) (b := 2) hm hv h25 (by decide) (by decide)) hm rfl rfl (by omega) (by omega) (by omega) (Nat.le_of_ble_eq_true rfl) (fun v_2 w_2 hP_2 hlen_2 => ?_) (fun _ _ h => h.elim)
  rw [hP_2.1, hP_2.2]
  show Wp X 0 0 w [(2, .int (nI 0)), (0, .ref m), (1, .int 1)] [.int (nI (hPick f 0 2))] 46
  refine r_istore_n hC dX9_lowest_46 rfl (by rw [hnl]; decide) (L' := [(2, .int (nI (hPick f 0 2))), (0, .ref m), (1, .int 1)]) rfl ?_
  refine r_iload_n hC dX9_lowest_47 rfl (j := 2) rfl ?_
  refine r_bipush hC dX9_lowest_48 (v := 20) (by decide) ?_
  refine r_icmp_ge hC dX9_lowest_50 (tgt := 62) (by decide) (fun h => absurd h (by decide)) (fun _ => ?_)
  refine r_aload_n hC dX9_lowest_53 rfl (j := 1) rfl ?_
  refine r_iload_n hC dX9_lowest_54 rfl (j := 0) rfl ?_
  refine r_iload_n hC dX9_lowest_55 rfl (j := 2) rfl ?_
  refine r_iconst hC dX9_lowest_56 (v := 5) (by decide) ?_
  refine r_iadd hC dX9_lowest_57 ?_
  rw [show (1 + 5 : Int32) = 6 from by decide]
  refine r_callV hC (vs := [.int (nI (hPick f 0 2)), .int 6]) vX9_lowest_58 (sm_lower (d := d) (a := (hPick f 0 2)) (b := 6) hm hv h25 (hPick_lt (by decide) (by decide)) (by decide)) hm rfl rfl (by omega) (by omega) (by omega) (Nat.le_of_ble_eq_true rfl) (fun v_3 w_3 hP_3 hlen_3 => ?_) (fun _ _ h => h.elim)
  rw [hP_3.1, hP_3.2]
  show Wp X 0 0 w [(2, .int (nI (hPick f 0 2))), (0, .ref m), (1, .int 1)] [.int (nI (hPick f (hPick f 0 2) 6))] 61
  refine r_istore_n hC dX9_lowest_61 rfl (by rw [hnl]; decide) (L' := [(2, .int (nI (hPick f (hPick f 0 2) 6))), (0, .ref m), (1, .int 1)]) rfl ?_
  refine r_aload_n hC dX9_lowest_62 rfl (j := 1) rfl ?_
  refine r_get hC gX9_lowest_63 hm (v := .ref (m + 1)) rfl ?_
  refine r_iconst hC dX9_lowest_66 (v := 2) (by decide) ?_
  refine r_iald hC dX9_lowest_67 (j := 2) hv ⟨by decide, by decide, by decide⟩ ?_
  rw [show enc ((f, g, sl, op, lo), hd, rs, np, tp, av, lg, pl, tk) 2 = op from rfl]
  refine r_iconst hC dX9_lowest_68 (v := 1) (by decide) ?_
  refine r_icmp_ne hC dX9_lowest_69 (tgt := 89) (by decide) (fun c69 => ?_) (fun c69 => ?_)
  · refine r_iload_n hC dX9_lowest_89 rfl (j := 0) rfl ?_
    refine r_iret hC hE hR dX9_lowest_90 (by omega) (by omega) (rfl) ?_
    have o9 : op = 0 := hop.resolve_right c69
    have e9 : hLow f op 1 = (hPick f (hPick f 0 2) 6) := by
      unfold hLow
      rw [lowStep_o0 (c := 1) (s := 3) (by decide) o9, lowStep_in (n := 6) (c := 1) (s := 2) (by decide) (by decide), lowStep_in (n := 2) (c := 1) (s := 1) (by decide) (by decide)]
      rfl
    exact ⟨by rw [e9], rfl⟩
  · refine r_iload_n hC dX9_lowest_72 rfl (j := 2) rfl ?_
    refine r_callS hC (vs := [.int 1]) vX9_lowest_73 (sm_edge1 (d := d + 1)) rfl (by omega) (by omega) (by omega) (Nat.le_of_ble_eq_true rfl) (fun v_4 w_4 hP_4 hlen_4 => ?_) (fun _ _ h => h.elim)
    rw [hP_4.1, hP_4.2]
    show Wp X 0 0 w [(2, .int (nI (hPick f (hPick f 0 2) 6))), (0, .ref m), (1, .int 1)] [.int 1] 76
    refine r_if_eq hC dX9_lowest_76 (tgt := 89) (by decide) (fun h => absurd h (by decide)) (fun _ => ?_)
    refine r_aload_n hC dX9_lowest_79 rfl (j := 1) rfl ?_
    refine r_iload_n hC dX9_lowest_80 rfl (j := 0) rfl ?_
    refine r_bipush hC dX9_lowest_81 (v := 25) (by decide) ?_
    refine r_callV hC (vs := [.int (nI (hPick f (hPick f 0 2) 6)), .int 25]) vX9_lowest_83 (sm_lower (d := d) (a := (hPick f (hPick f 0 2) 6)) (b := 25) hm hv h25 (hPick_lt (hPick_lt (by decide) (by decide)) (by decide)) (by decide)) hm rfl rfl (by omega) (by omega) (by omega) (Nat.le_of_ble_eq_true rfl) (fun v_5 w_5 hP_5 hlen_5 => ?_) (fun _ _ h => h.elim)
    rw [hP_5.1, hP_5.2]
    show Wp X 0 0 w [(2, .int (nI (hPick f (hPick f 0 2) 6))), (0, .ref m), (1, .int 1)] [.int (nI (hPick f (hPick f (hPick f 0 2) 6) 25))] 86
    refine r_goto hC dX9_lowest_86 (tgt := 90) (by decide) ?_
    refine r_iret hC hE hR dX9_lowest_90 (by omega) (by omega) (rfl) ?_
    have o9 : op = 1 := c69
    have e9 : hLow f op 1 = (hPick f (hPick f (hPick f 0 2) 6) 25) := by
      unfold hLow
      rw [lowStep_o1 (c := 1) (s := 3) (by decide) o9, lowStep_in (n := 6) (c := 1) (s := 2) (by decide) (by decide), lowStep_in (n := 2) (c := 1) (s := 1) (by decide) (by decide)]
      rfl
    exact ⟨by rw [e9], rfl⟩
set_option maxRecDepth 100000 in
set_option maxHeartbeats 4000000 in
theorem sm_lowest2 {d : Nat} {w : mW} {m : Nat} {th ch ea fa sv0 tn he en ln iw id0 : Int32} {f g : Nat → Int32} {sl op lo : Int32} {hd rs : Nat → Int32} {np : Nat} {tp av lg pl tk : Int32} (hm : w[m]? = some (mO 10 [.int th, .int ch, .int ea, .int fa, .int sv0, .ref (m + 1), .ref (m + 2), .ref (m + 3), .ref (m + 4), .ref (m + 5), .ref (m + 6), .ref (m + 7), .ref (m + 8), .ref (m + 9), .ref (m + 10), .int tn, .int he, .int en, .int ln, .int iw, .int id0])) (hv : w[m + 1]? = some (mI 0 67 (enc ((f, g, sl, op, lo), hd, rs, np, tp, av, lg, pl, tk)))) (h25 : f 25 = 0) (hop : op = 0 ∨ op = 1) : Sp (d + 2) yX9_lowest cX9_lowest 3 (some .int) [.ref m, .int 2] w 0 0 (fun v w' => v = some (.int (nI (hLow f op 2))) ∧ w' = w) noX := by
  refine Sp.of (by decide +kernel) (Nat.le_of_ble_eq_true rfl) (fun X hC hnl hE hR hN => ?_)
  have hC : Cx X RX9 cX9_lowest (d + 2) 0 0 := hC
  show Wp X 0 0 w [(0, .ref m), (1, .int 2)] [] 0
  refine r_iconst hC dX9_lowest_0 (v := (-1)) (by decide) ?_
  refine r_istore_n hC dX9_lowest_1 rfl (by rw [hnl]; decide) (L' := [(2, .int (-1)), (0, .ref m), (1, .int 2)]) rfl ?_
  refine r_iload_n hC dX9_lowest_2 rfl (j := 2) rfl ?_
  refine r_iconst hC dX9_lowest_3 (v := 5) (by decide) ?_
  refine r_icmp_lt hC dX9_lowest_4 (tgt := 16) (by decide) (fun _ => ?_) (fun h => absurd (by decide) h)
  refine r_iload_n hC dX9_lowest_16 rfl (j := 2) rfl ?_
  refine r_iconst hC dX9_lowest_17 (v := 5) (by decide) ?_
  refine r_irem hC dX9_lowest_18 (by decide) ?_
  rw [show (2 - 2 / 5 * 5 : Int32) = 2 from by decide]
  refine r_if_le hC dX9_lowest_19 (tgt := 31) (by decide) (fun h => absurd h (by decide)) (fun _ => ?_)
  refine r_aload_n hC dX9_lowest_22 rfl (j := 1) rfl ?_
  refine r_iload_n hC dX9_lowest_23 rfl (j := 0) rfl ?_
  refine r_iload_n hC dX9_lowest_24 rfl (j := 2) rfl ?_
  refine r_iconst hC dX9_lowest_25 (v := 1) (by decide) ?_
  refine r_isub hC dX9_lowest_26 ?_
  rw [show (2 - 1 : Int32) = 1 from by decide]
  refine r_callV hC (vs := [.int (-1), .int 1]) vX9_lowest_27 (sm_lower0 (d := d) (b := 1) hm hv) hm rfl rfl (by omega) (by omega) (by omega) (Nat.le_of_ble_eq_true rfl) (fun v_1 w_1 hP_1 hlen_1 => ?_) (fun _ _ h => h.elim)
  rw [hP_1.1, hP_1.2]
  show Wp X 0 0 w [(2, .int (-1)), (0, .ref m), (1, .int 2)] [.int (nI 1)] 30
  refine r_istore_n hC dX9_lowest_30 rfl (by rw [hnl]; decide) (L' := [(2, .int (nI 1)), (0, .ref m), (1, .int 2)]) rfl ?_
  refine r_iload_n hC dX9_lowest_31 rfl (j := 2) rfl ?_
  refine r_iconst hC dX9_lowest_32 (v := 5) (by decide) ?_
  refine r_irem hC dX9_lowest_33 (by decide) ?_
  rw [show (2 - 2 / 5 * 5 : Int32) = 2 from by decide]
  refine r_iconst hC dX9_lowest_34 (v := 4) (by decide) ?_
  refine r_icmp_ge hC dX9_lowest_35 (tgt := 47) (by decide) (fun h => absurd h (by decide)) (fun _ => ?_)
  refine r_aload_n hC dX9_lowest_38 rfl (j := 1) rfl ?_
  refine r_iload_n hC dX9_lowest_39 rfl (j := 0) rfl ?_
  refine r_iload_n hC dX9_lowest_40 rfl (j := 2) rfl ?_
  refine r_iconst hC dX9_lowest_41 (v := 1) (by decide) ?_
  refine r_iadd hC dX9_lowest_42 ?_
  rw [show (2 + 1 : Int32) = 3 from by decide]
  refine r_callV hC (vs := [.int (nI 1), .int 3]) vX9_lowest_43 (sm_lower (d := d) (a := 1) (b := 3) hm hv h25 (by decide) (by decide)) hm rfl rfl (by omega) (by omega) (by omega) (Nat.le_of_ble_eq_true rfl) (fun v_2 w_2 hP_2 hlen_2 => ?_) (fun _ _ h => h.elim)
  rw [hP_2.1, hP_2.2]
  show Wp X 0 0 w [(2, .int (nI 1)), (0, .ref m), (1, .int 2)] [.int (nI (hPick f 1 3))] 46
  refine r_istore_n hC dX9_lowest_46 rfl (by rw [hnl]; decide) (L' := [(2, .int (nI (hPick f 1 3))), (0, .ref m), (1, .int 2)]) rfl ?_
  refine r_iload_n hC dX9_lowest_47 rfl (j := 2) rfl ?_
  refine r_bipush hC dX9_lowest_48 (v := 20) (by decide) ?_
  refine r_icmp_ge hC dX9_lowest_50 (tgt := 62) (by decide) (fun h => absurd h (by decide)) (fun _ => ?_)
  refine r_aload_n hC dX9_lowest_53 rfl (j := 1) rfl ?_
  refine r_iload_n hC dX9_lowest_54 rfl (j := 0) rfl ?_
  refine r_iload_n hC dX9_lowest_55 rfl (j := 2) rfl ?_
  refine r_iconst hC dX9_lowest_56 (v := 5) (by decide) ?_
  refine r_iadd hC dX9_lowest_57 ?_
  rw [show (2 + 5 : Int32) = 7 from by decide]
  refine r_callV hC (vs := [.int (nI (hPick f 1 3)), .int 7]) vX9_lowest_58 (sm_lower (d := d) (a := (hPick f 1 3)) (b := 7) hm hv h25 (hPick_lt (by decide) (by decide)) (by decide)) hm rfl rfl (by omega) (by omega) (by omega) (Nat.le_of_ble_eq_true rfl) (fun v_3 w_3 hP_3 hlen_3 => ?_) (fun _ _ h => h.elim)
  rw [hP_3.1, hP_3.2]
  show Wp X 0 0 w [(2, .int (nI (hPick f 1 3))), (0, .ref m), (1, .int 2)] [.int (nI (hPick f (hPick f 1 3) 7))] 61
  refine r_istore_n hC dX9_lowest_61 rfl (by rw [hnl]; decide) (L' := [(2, .int (nI (hPick f (hPick f 1 3) 7))), (0, .ref m), (1, .int 2)]) rfl ?_
  refine r_aload_n hC dX9_lowest_62 rfl (j := 1) rfl ?_
  refine r_get hC gX9_lowest_63 hm (v := .ref (m + 1)) rfl ?_
  refine r_iconst hC dX9_lowest_66 (v := 2) (by decide) ?_
  refine r_iald hC dX9_lowest_67 (j := 2) hv ⟨by decide, by decide, by decide⟩ ?_
  rw [show enc ((f, g, sl, op, lo), hd, rs, np, tp, av, lg, pl, tk) 2 = op from rfl]
  refine r_iconst hC dX9_lowest_68 (v := 1) (by decide) ?_
  refine r_icmp_ne hC dX9_lowest_69 (tgt := 89) (by decide) (fun c69 => ?_) (fun c69 => ?_)
  · refine r_iload_n hC dX9_lowest_89 rfl (j := 0) rfl ?_
    refine r_iret hC hE hR dX9_lowest_90 (by omega) (by omega) (rfl) ?_
    have o9 : op = 0 := hop.resolve_right c69
    have e9 : hLow f op 2 = (hPick f (hPick f 1 3) 7) := by
      unfold hLow
      rw [lowStep_o0 (c := 2) (s := 3) (by decide) o9, lowStep_in (n := 7) (c := 2) (s := 2) (by decide) (by decide), lowStep_in (n := 3) (c := 2) (s := 1) (by decide) (by decide)]
      rfl
    exact ⟨by rw [e9], rfl⟩
  · refine r_iload_n hC dX9_lowest_72 rfl (j := 2) rfl ?_
    refine r_callS hC (vs := [.int 2]) vX9_lowest_73 (sm_edge2 (d := d + 1)) rfl (by omega) (by omega) (by omega) (Nat.le_of_ble_eq_true rfl) (fun v_4 w_4 hP_4 hlen_4 => ?_) (fun _ _ h => h.elim)
    rw [hP_4.1, hP_4.2]
    show Wp X 0 0 w [(2, .int (nI (hPick f (hPick f 1 3) 7))), (0, .ref m), (1, .int 2)] [.int 1] 76
    refine r_if_eq hC dX9_lowest_76 (tgt := 89) (by decide) (fun h => absurd h (by decide)) (fun _ => ?_)
    refine r_aload_n hC dX9_lowest_79 rfl (j := 1) rfl ?_
    refine r_iload_n hC dX9_lowest_80 rfl (j := 0) rfl ?_
    refine r_bipush hC dX9_lowest_81 (v := 25) (by decide) ?_
    refine r_callV hC (vs := [.int (nI (hPick f (hPick f 1 3) 7)), .int 25]) vX9_lowest_83 (sm_lower (d := d) (a := (hPick f (hPick f 1 3) 7)) (b := 25) hm hv h25 (hPick_lt (hPick_lt (by decide) (by decide)) (by decide)) (by decide)) hm rfl rfl (by omega) (by omega) (by omega) (Nat.le_of_ble_eq_true rfl) (fun v_5 w_5 hP_5 hlen_5 => ?_) (fun _ _ h => h.elim)
    rw [hP_5.1, hP_5.2]
    show Wp X 0 0 w [(2, .int (nI (hPick f (hPick f 1 3) 7))), (0, .ref m), (1, .int 2)] [.int (nI (hPick f (hPick f (hPick f 1 3) 7) 25))] 86
    refine r_goto hC dX9_lowest_86 (tgt := 90) (by decide) ?_
    refine r_iret hC hE hR dX9_lowest_90 (by omega) (by omega) (rfl) ?_
    have o9 : op = 1 := c69
    have e9 : hLow f op 2 = (hPick f (hPick f (hPick f 1 3) 7) 25) := by
      unfold hLow
      rw [lowStep_o1 (c := 2) (s := 3) (by decide) o9, lowStep_in (n := 7) (c := 2) (s := 2) (by decide) (by decide), lowStep_in (n := 3) (c := 2) (s := 1) (by decide) (by decide)]
      rfl
    exact ⟨by rw [e9], rfl⟩
set_option maxRecDepth 100000 in
set_option maxHeartbeats 4000000 in
theorem sm_lowest3 {d : Nat} {w : mW} {m : Nat} {th ch ea fa sv0 tn he en ln iw id0 : Int32} {f g : Nat → Int32} {sl op lo : Int32} {hd rs : Nat → Int32} {np : Nat} {tp av lg pl tk : Int32} (hm : w[m]? = some (mO 10 [.int th, .int ch, .int ea, .int fa, .int sv0, .ref (m + 1), .ref (m + 2), .ref (m + 3), .ref (m + 4), .ref (m + 5), .ref (m + 6), .ref (m + 7), .ref (m + 8), .ref (m + 9), .ref (m + 10), .int tn, .int he, .int en, .int ln, .int iw, .int id0])) (hv : w[m + 1]? = some (mI 0 67 (enc ((f, g, sl, op, lo), hd, rs, np, tp, av, lg, pl, tk)))) (h25 : f 25 = 0) (hop : op = 0 ∨ op = 1) : Sp (d + 2) yX9_lowest cX9_lowest 3 (some .int) [.ref m, .int 3] w 0 0 (fun v w' => v = some (.int (nI (hLow f op 3))) ∧ w' = w) noX := by
  refine Sp.of (by decide +kernel) (Nat.le_of_ble_eq_true rfl) (fun X hC hnl hE hR hN => ?_)
  have hC : Cx X RX9 cX9_lowest (d + 2) 0 0 := hC
  show Wp X 0 0 w [(0, .ref m), (1, .int 3)] [] 0
  refine r_iconst hC dX9_lowest_0 (v := (-1)) (by decide) ?_
  refine r_istore_n hC dX9_lowest_1 rfl (by rw [hnl]; decide) (L' := [(2, .int (-1)), (0, .ref m), (1, .int 3)]) rfl ?_
  refine r_iload_n hC dX9_lowest_2 rfl (j := 2) rfl ?_
  refine r_iconst hC dX9_lowest_3 (v := 5) (by decide) ?_
  refine r_icmp_lt hC dX9_lowest_4 (tgt := 16) (by decide) (fun _ => ?_) (fun h => absurd (by decide) h)
  refine r_iload_n hC dX9_lowest_16 rfl (j := 2) rfl ?_
  refine r_iconst hC dX9_lowest_17 (v := 5) (by decide) ?_
  refine r_irem hC dX9_lowest_18 (by decide) ?_
  rw [show (3 - 3 / 5 * 5 : Int32) = 3 from by decide]
  refine r_if_le hC dX9_lowest_19 (tgt := 31) (by decide) (fun h => absurd h (by decide)) (fun _ => ?_)
  refine r_aload_n hC dX9_lowest_22 rfl (j := 1) rfl ?_
  refine r_iload_n hC dX9_lowest_23 rfl (j := 0) rfl ?_
  refine r_iload_n hC dX9_lowest_24 rfl (j := 2) rfl ?_
  refine r_iconst hC dX9_lowest_25 (v := 1) (by decide) ?_
  refine r_isub hC dX9_lowest_26 ?_
  rw [show (3 - 1 : Int32) = 2 from by decide]
  refine r_callV hC (vs := [.int (-1), .int 2]) vX9_lowest_27 (sm_lower0 (d := d) (b := 2) hm hv) hm rfl rfl (by omega) (by omega) (by omega) (Nat.le_of_ble_eq_true rfl) (fun v_1 w_1 hP_1 hlen_1 => ?_) (fun _ _ h => h.elim)
  rw [hP_1.1, hP_1.2]
  show Wp X 0 0 w [(2, .int (-1)), (0, .ref m), (1, .int 3)] [.int (nI 2)] 30
  refine r_istore_n hC dX9_lowest_30 rfl (by rw [hnl]; decide) (L' := [(2, .int (nI 2)), (0, .ref m), (1, .int 3)]) rfl ?_
  refine r_iload_n hC dX9_lowest_31 rfl (j := 2) rfl ?_
  refine r_iconst hC dX9_lowest_32 (v := 5) (by decide) ?_
  refine r_irem hC dX9_lowest_33 (by decide) ?_
  rw [show (3 - 3 / 5 * 5 : Int32) = 3 from by decide]
  refine r_iconst hC dX9_lowest_34 (v := 4) (by decide) ?_
  refine r_icmp_ge hC dX9_lowest_35 (tgt := 47) (by decide) (fun h => absurd h (by decide)) (fun _ => ?_)
  refine r_aload_n hC dX9_lowest_38 rfl (j := 1) rfl ?_
  refine r_iload_n hC dX9_lowest_39 rfl (j := 0) rfl ?_
  refine r_iload_n hC dX9_lowest_40 rfl (j := 2) rfl ?_
  refine r_iconst hC dX9_lowest_41 (v := 1) (by decide) ?_
  refine r_iadd hC dX9_lowest_42 ?_
  rw [show (3 + 1 : Int32) = 4 from by decide]
  refine r_callV hC (vs := [.int (nI 2), .int 4]) vX9_lowest_43 (sm_lower (d := d) (a := 2) (b := 4) hm hv h25 (by decide) (by decide)) hm rfl rfl (by omega) (by omega) (by omega) (Nat.le_of_ble_eq_true rfl) (fun v_2 w_2 hP_2 hlen_2 => ?_) (fun _ _ h => h.elim)
  rw [hP_2.1, hP_2.2]
  show Wp X 0 0 w [(2, .int (nI 2)), (0, .ref m), (1, .int 3)] [.int (nI (hPick f 2 4))] 46
  refine r_istore_n hC dX9_lowest_46 rfl (by rw [hnl]; decide) (L' := [(2, .int (nI (hPick f 2 4))), (0, .ref m), (1, .int 3)]) rfl ?_
  refine r_iload_n hC dX9_lowest_47 rfl (j := 2) rfl ?_
  refine r_bipush hC dX9_lowest_48 (v := 20) (by decide) ?_
  refine r_icmp_ge hC dX9_lowest_50 (tgt := 62) (by decide) (fun h => absurd h (by decide)) (fun _ => ?_)
  refine r_aload_n hC dX9_lowest_53 rfl (j := 1) rfl ?_
  refine r_iload_n hC dX9_lowest_54 rfl (j := 0) rfl ?_
  refine r_iload_n hC dX9_lowest_55 rfl (j := 2) rfl ?_
  refine r_iconst hC dX9_lowest_56 (v := 5) (by decide) ?_
  refine r_iadd hC dX9_lowest_57 ?_
  rw [show (3 + 5 : Int32) = 8 from by decide]
  refine r_callV hC (vs := [.int (nI (hPick f 2 4)), .int 8]) vX9_lowest_58 (sm_lower (d := d) (a := (hPick f 2 4)) (b := 8) hm hv h25 (hPick_lt (by decide) (by decide)) (by decide)) hm rfl rfl (by omega) (by omega) (by omega) (Nat.le_of_ble_eq_true rfl) (fun v_3 w_3 hP_3 hlen_3 => ?_) (fun _ _ h => h.elim)
  rw [hP_3.1, hP_3.2]
  show Wp X 0 0 w [(2, .int (nI (hPick f 2 4))), (0, .ref m), (1, .int 3)] [.int (nI (hPick f (hPick f 2 4) 8))] 61
  refine r_istore_n hC dX9_lowest_61 rfl (by rw [hnl]; decide) (L' := [(2, .int (nI (hPick f (hPick f 2 4) 8))), (0, .ref m), (1, .int 3)]) rfl ?_
  refine r_aload_n hC dX9_lowest_62 rfl (j := 1) rfl ?_
  refine r_get hC gX9_lowest_63 hm (v := .ref (m + 1)) rfl ?_
  refine r_iconst hC dX9_lowest_66 (v := 2) (by decide) ?_
  refine r_iald hC dX9_lowest_67 (j := 2) hv ⟨by decide, by decide, by decide⟩ ?_
  rw [show enc ((f, g, sl, op, lo), hd, rs, np, tp, av, lg, pl, tk) 2 = op from rfl]
  refine r_iconst hC dX9_lowest_68 (v := 1) (by decide) ?_
  refine r_icmp_ne hC dX9_lowest_69 (tgt := 89) (by decide) (fun c69 => ?_) (fun c69 => ?_)
  · refine r_iload_n hC dX9_lowest_89 rfl (j := 0) rfl ?_
    refine r_iret hC hE hR dX9_lowest_90 (by omega) (by omega) (rfl) ?_
    have o9 : op = 0 := hop.resolve_right c69
    have e9 : hLow f op 3 = (hPick f (hPick f 2 4) 8) := by
      unfold hLow
      rw [lowStep_o0 (c := 3) (s := 3) (by decide) o9, lowStep_in (n := 8) (c := 3) (s := 2) (by decide) (by decide), lowStep_in (n := 4) (c := 3) (s := 1) (by decide) (by decide)]
      rfl
    exact ⟨by rw [e9], rfl⟩
  · refine r_iload_n hC dX9_lowest_72 rfl (j := 2) rfl ?_
    refine r_callS hC (vs := [.int 3]) vX9_lowest_73 (sm_edge3 (d := d + 1)) rfl (by omega) (by omega) (by omega) (Nat.le_of_ble_eq_true rfl) (fun v_4 w_4 hP_4 hlen_4 => ?_) (fun _ _ h => h.elim)
    rw [hP_4.1, hP_4.2]
    show Wp X 0 0 w [(2, .int (nI (hPick f (hPick f 2 4) 8))), (0, .ref m), (1, .int 3)] [.int 1] 76
    refine r_if_eq hC dX9_lowest_76 (tgt := 89) (by decide) (fun h => absurd h (by decide)) (fun _ => ?_)
    refine r_aload_n hC dX9_lowest_79 rfl (j := 1) rfl ?_
    refine r_iload_n hC dX9_lowest_80 rfl (j := 0) rfl ?_
    refine r_bipush hC dX9_lowest_81 (v := 25) (by decide) ?_
    refine r_callV hC (vs := [.int (nI (hPick f (hPick f 2 4) 8)), .int 25]) vX9_lowest_83 (sm_lower (d := d) (a := (hPick f (hPick f 2 4) 8)) (b := 25) hm hv h25 (hPick_lt (hPick_lt (by decide) (by decide)) (by decide)) (by decide)) hm rfl rfl (by omega) (by omega) (by omega) (Nat.le_of_ble_eq_true rfl) (fun v_5 w_5 hP_5 hlen_5 => ?_) (fun _ _ h => h.elim)
    rw [hP_5.1, hP_5.2]
    show Wp X 0 0 w [(2, .int (nI (hPick f (hPick f 2 4) 8))), (0, .ref m), (1, .int 3)] [.int (nI (hPick f (hPick f (hPick f 2 4) 8) 25))] 86
    refine r_goto hC dX9_lowest_86 (tgt := 90) (by decide) ?_
    refine r_iret hC hE hR dX9_lowest_90 (by omega) (by omega) (rfl) ?_
    have o9 : op = 1 := c69
    have e9 : hLow f op 3 = (hPick f (hPick f (hPick f 2 4) 8) 25) := by
      unfold hLow
      rw [lowStep_o1 (c := 3) (s := 3) (by decide) o9, lowStep_in (n := 8) (c := 3) (s := 2) (by decide) (by decide), lowStep_in (n := 4) (c := 3) (s := 1) (by decide) (by decide)]
      rfl
    exact ⟨by rw [e9], rfl⟩
set_option maxRecDepth 100000 in
set_option maxHeartbeats 4000000 in
theorem sm_lowest4 {d : Nat} {w : mW} {m : Nat} {th ch ea fa sv0 tn he en ln iw id0 : Int32} {f g : Nat → Int32} {sl op lo : Int32} {hd rs : Nat → Int32} {np : Nat} {tp av lg pl tk : Int32} (hm : w[m]? = some (mO 10 [.int th, .int ch, .int ea, .int fa, .int sv0, .ref (m + 1), .ref (m + 2), .ref (m + 3), .ref (m + 4), .ref (m + 5), .ref (m + 6), .ref (m + 7), .ref (m + 8), .ref (m + 9), .ref (m + 10), .int tn, .int he, .int en, .int ln, .int iw, .int id0])) (hv : w[m + 1]? = some (mI 0 67 (enc ((f, g, sl, op, lo), hd, rs, np, tp, av, lg, pl, tk)))) (h25 : f 25 = 0) (hop : op = 0 ∨ op = 1) : Sp (d + 2) yX9_lowest cX9_lowest 3 (some .int) [.ref m, .int 4] w 0 0 (fun v w' => v = some (.int (nI (hLow f op 4))) ∧ w' = w) noX := by
  refine Sp.of (by decide +kernel) (Nat.le_of_ble_eq_true rfl) (fun X hC hnl hE hR hN => ?_)
  have hC : Cx X RX9 cX9_lowest (d + 2) 0 0 := hC
  show Wp X 0 0 w [(0, .ref m), (1, .int 4)] [] 0
  refine r_iconst hC dX9_lowest_0 (v := (-1)) (by decide) ?_
  refine r_istore_n hC dX9_lowest_1 rfl (by rw [hnl]; decide) (L' := [(2, .int (-1)), (0, .ref m), (1, .int 4)]) rfl ?_
  refine r_iload_n hC dX9_lowest_2 rfl (j := 2) rfl ?_
  refine r_iconst hC dX9_lowest_3 (v := 5) (by decide) ?_
  refine r_icmp_lt hC dX9_lowest_4 (tgt := 16) (by decide) (fun _ => ?_) (fun h => absurd (by decide) h)
  refine r_iload_n hC dX9_lowest_16 rfl (j := 2) rfl ?_
  refine r_iconst hC dX9_lowest_17 (v := 5) (by decide) ?_
  refine r_irem hC dX9_lowest_18 (by decide) ?_
  rw [show (4 - 4 / 5 * 5 : Int32) = 4 from by decide]
  refine r_if_le hC dX9_lowest_19 (tgt := 31) (by decide) (fun h => absurd h (by decide)) (fun _ => ?_)
  refine r_aload_n hC dX9_lowest_22 rfl (j := 1) rfl ?_
  refine r_iload_n hC dX9_lowest_23 rfl (j := 0) rfl ?_
  refine r_iload_n hC dX9_lowest_24 rfl (j := 2) rfl ?_
  refine r_iconst hC dX9_lowest_25 (v := 1) (by decide) ?_
  refine r_isub hC dX9_lowest_26 ?_
  rw [show (4 - 1 : Int32) = 3 from by decide]
  refine r_callV hC (vs := [.int (-1), .int 3]) vX9_lowest_27 (sm_lower0 (d := d) (b := 3) hm hv) hm rfl rfl (by omega) (by omega) (by omega) (Nat.le_of_ble_eq_true rfl) (fun v_1 w_1 hP_1 hlen_1 => ?_) (fun _ _ h => h.elim)
  rw [hP_1.1, hP_1.2]
  show Wp X 0 0 w [(2, .int (-1)), (0, .ref m), (1, .int 4)] [.int (nI 3)] 30
  refine r_istore_n hC dX9_lowest_30 rfl (by rw [hnl]; decide) (L' := [(2, .int (nI 3)), (0, .ref m), (1, .int 4)]) rfl ?_
  refine r_iload_n hC dX9_lowest_31 rfl (j := 2) rfl ?_
  refine r_iconst hC dX9_lowest_32 (v := 5) (by decide) ?_
  refine r_irem hC dX9_lowest_33 (by decide) ?_
  rw [show (4 - 4 / 5 * 5 : Int32) = 4 from by decide]
  refine r_iconst hC dX9_lowest_34 (v := 4) (by decide) ?_
  refine r_icmp_ge hC dX9_lowest_35 (tgt := 47) (by decide) (fun _ => ?_) (fun h => absurd (by decide) h)
  refine r_iload_n hC dX9_lowest_47 rfl (j := 2) rfl ?_
  refine r_bipush hC dX9_lowest_48 (v := 20) (by decide) ?_
  refine r_icmp_ge hC dX9_lowest_50 (tgt := 62) (by decide) (fun h => absurd h (by decide)) (fun _ => ?_)
  refine r_aload_n hC dX9_lowest_53 rfl (j := 1) rfl ?_
  refine r_iload_n hC dX9_lowest_54 rfl (j := 0) rfl ?_
  refine r_iload_n hC dX9_lowest_55 rfl (j := 2) rfl ?_
  refine r_iconst hC dX9_lowest_56 (v := 5) (by decide) ?_
  refine r_iadd hC dX9_lowest_57 ?_
  rw [show (4 + 5 : Int32) = 9 from by decide]
  refine r_callV hC (vs := [.int (nI 3), .int 9]) vX9_lowest_58 (sm_lower (d := d) (a := 3) (b := 9) hm hv h25 (by decide) (by decide)) hm rfl rfl (by omega) (by omega) (by omega) (Nat.le_of_ble_eq_true rfl) (fun v_2 w_2 hP_2 hlen_2 => ?_) (fun _ _ h => h.elim)
  rw [hP_2.1, hP_2.2]
  show Wp X 0 0 w [(2, .int (nI 3)), (0, .ref m), (1, .int 4)] [.int (nI (hPick f 3 9))] 61
  refine r_istore_n hC dX9_lowest_61 rfl (by rw [hnl]; decide) (L' := [(2, .int (nI (hPick f 3 9))), (0, .ref m), (1, .int 4)]) rfl ?_
  refine r_aload_n hC dX9_lowest_62 rfl (j := 1) rfl ?_
  refine r_get hC gX9_lowest_63 hm (v := .ref (m + 1)) rfl ?_
  refine r_iconst hC dX9_lowest_66 (v := 2) (by decide) ?_
  refine r_iald hC dX9_lowest_67 (j := 2) hv ⟨by decide, by decide, by decide⟩ ?_
  rw [show enc ((f, g, sl, op, lo), hd, rs, np, tp, av, lg, pl, tk) 2 = op from rfl]
  refine r_iconst hC dX9_lowest_68 (v := 1) (by decide) ?_
  refine r_icmp_ne hC dX9_lowest_69 (tgt := 89) (by decide) (fun c69 => ?_) (fun c69 => ?_)
  · refine r_iload_n hC dX9_lowest_89 rfl (j := 0) rfl ?_
    refine r_iret hC hE hR dX9_lowest_90 (by omega) (by omega) (rfl) ?_
    have o9 : op = 0 := hop.resolve_right c69
    have e9 : hLow f op 4 = (hPick f 3 9) := by
      unfold hLow
      rw [lowStep_o0 (c := 4) (s := 3) (by decide) o9, lowStep_o0 (c := 4) (s := 2) (by decide) o9, lowStep_in (n := 9) (c := 4) (s := 1) (by decide) (by decide)]
      rfl
    exact ⟨by rw [e9], rfl⟩
  · refine r_iload_n hC dX9_lowest_72 rfl (j := 2) rfl ?_
    refine r_callS hC (vs := [.int 4]) vX9_lowest_73 (sm_edge4 (d := d + 1)) rfl (by omega) (by omega) (by omega) (Nat.le_of_ble_eq_true rfl) (fun v_3 w_3 hP_3 hlen_3 => ?_) (fun _ _ h => h.elim)
    rw [hP_3.1, hP_3.2]
    show Wp X 0 0 w [(2, .int (nI (hPick f 3 9))), (0, .ref m), (1, .int 4)] [.int 1] 76
    refine r_if_eq hC dX9_lowest_76 (tgt := 89) (by decide) (fun h => absurd h (by decide)) (fun _ => ?_)
    refine r_aload_n hC dX9_lowest_79 rfl (j := 1) rfl ?_
    refine r_iload_n hC dX9_lowest_80 rfl (j := 0) rfl ?_
    refine r_bipush hC dX9_lowest_81 (v := 25) (by decide) ?_
    refine r_callV hC (vs := [.int (nI (hPick f 3 9)), .int 25]) vX9_lowest_83 (sm_lower (d := d) (a := (hPick f 3 9)) (b := 25) hm hv h25 (hPick_lt (by decide) (by decide)) (by decide)) hm rfl rfl (by omega) (by omega) (by omega) (Nat.le_of_ble_eq_true rfl) (fun v_4 w_4 hP_4 hlen_4 => ?_) (fun _ _ h => h.elim)
    rw [hP_4.1, hP_4.2]
    show Wp X 0 0 w [(2, .int (nI (hPick f 3 9))), (0, .ref m), (1, .int 4)] [.int (nI (hPick f (hPick f 3 9) 25))] 86
    refine r_goto hC dX9_lowest_86 (tgt := 90) (by decide) ?_
    refine r_iret hC hE hR dX9_lowest_90 (by omega) (by omega) (rfl) ?_
    have o9 : op = 1 := c69
    have e9 : hLow f op 4 = (hPick f (hPick f 3 9) 25) := by
      unfold hLow
      rw [lowStep_o1 (c := 4) (s := 3) (by decide) o9, lowStep_o1 (c := 4) (s := 2) (by decide) o9, lowStep_in (n := 9) (c := 4) (s := 1) (by decide) (by decide), hPick_id]
      rfl
    exact ⟨by rw [e9], rfl⟩
set_option maxRecDepth 100000 in
set_option maxHeartbeats 4000000 in
theorem sm_lowest5 {d : Nat} {w : mW} {m : Nat} {th ch ea fa sv0 tn he en ln iw id0 : Int32} {f g : Nat → Int32} {sl op lo : Int32} {hd rs : Nat → Int32} {np : Nat} {tp av lg pl tk : Int32} (hm : w[m]? = some (mO 10 [.int th, .int ch, .int ea, .int fa, .int sv0, .ref (m + 1), .ref (m + 2), .ref (m + 3), .ref (m + 4), .ref (m + 5), .ref (m + 6), .ref (m + 7), .ref (m + 8), .ref (m + 9), .ref (m + 10), .int tn, .int he, .int en, .int ln, .int iw, .int id0])) (hv : w[m + 1]? = some (mI 0 67 (enc ((f, g, sl, op, lo), hd, rs, np, tp, av, lg, pl, tk)))) (h25 : f 25 = 0) (hop : op = 0 ∨ op = 1) : Sp (d + 2) yX9_lowest cX9_lowest 3 (some .int) [.ref m, .int 5] w 0 0 (fun v w' => v = some (.int (nI (hLow f op 5))) ∧ w' = w) noX := by
  refine Sp.of (by decide +kernel) (Nat.le_of_ble_eq_true rfl) (fun X hC hnl hE hR hN => ?_)
  have hC : Cx X RX9 cX9_lowest (d + 2) 0 0 := hC
  show Wp X 0 0 w [(0, .ref m), (1, .int 5)] [] 0
  refine r_iconst hC dX9_lowest_0 (v := (-1)) (by decide) ?_
  refine r_istore_n hC dX9_lowest_1 rfl (by rw [hnl]; decide) (L' := [(2, .int (-1)), (0, .ref m), (1, .int 5)]) rfl ?_
  refine r_iload_n hC dX9_lowest_2 rfl (j := 2) rfl ?_
  refine r_iconst hC dX9_lowest_3 (v := 5) (by decide) ?_
  refine r_icmp_lt hC dX9_lowest_4 (tgt := 16) (by decide) (fun h => absurd h (by decide)) (fun _ => ?_)
  refine r_aload_n hC dX9_lowest_7 rfl (j := 1) rfl ?_
  refine r_iload_n hC dX9_lowest_8 rfl (j := 0) rfl ?_
  refine r_iload_n hC dX9_lowest_9 rfl (j := 2) rfl ?_
  refine r_iconst hC dX9_lowest_10 (v := 5) (by decide) ?_
  refine r_isub hC dX9_lowest_11 ?_
  rw [show (5 - 5 : Int32) = 0 from by decide]
  refine r_callV hC (vs := [.int (-1), .int 0]) vX9_lowest_12 (sm_lower0 (d := d) (b := 0) hm hv) hm rfl rfl (by omega) (by omega) (by omega) (Nat.le_of_ble_eq_true rfl) (fun v_1 w_1 hP_1 hlen_1 => ?_) (fun _ _ h => h.elim)
  rw [hP_1.1, hP_1.2]
  show Wp X 0 0 w [(2, .int (-1)), (0, .ref m), (1, .int 5)] [.int (nI 0)] 15
  refine r_istore_n hC dX9_lowest_15 rfl (by rw [hnl]; decide) (L' := [(2, .int (nI 0)), (0, .ref m), (1, .int 5)]) rfl ?_
  refine r_iload_n hC dX9_lowest_16 rfl (j := 2) rfl ?_
  refine r_iconst hC dX9_lowest_17 (v := 5) (by decide) ?_
  refine r_irem hC dX9_lowest_18 (by decide) ?_
  rw [show (5 - 5 / 5 * 5 : Int32) = 0 from by decide]
  refine r_if_le hC dX9_lowest_19 (tgt := 31) (by decide) (fun _ => ?_) (fun h => absurd (by decide) h)
  refine r_iload_n hC dX9_lowest_31 rfl (j := 2) rfl ?_
  refine r_iconst hC dX9_lowest_32 (v := 5) (by decide) ?_
  refine r_irem hC dX9_lowest_33 (by decide) ?_
  rw [show (5 - 5 / 5 * 5 : Int32) = 0 from by decide]
  refine r_iconst hC dX9_lowest_34 (v := 4) (by decide) ?_
  refine r_icmp_ge hC dX9_lowest_35 (tgt := 47) (by decide) (fun h => absurd h (by decide)) (fun _ => ?_)
  refine r_aload_n hC dX9_lowest_38 rfl (j := 1) rfl ?_
  refine r_iload_n hC dX9_lowest_39 rfl (j := 0) rfl ?_
  refine r_iload_n hC dX9_lowest_40 rfl (j := 2) rfl ?_
  refine r_iconst hC dX9_lowest_41 (v := 1) (by decide) ?_
  refine r_iadd hC dX9_lowest_42 ?_
  rw [show (5 + 1 : Int32) = 6 from by decide]
  refine r_callV hC (vs := [.int (nI 0), .int 6]) vX9_lowest_43 (sm_lower (d := d) (a := 0) (b := 6) hm hv h25 (by decide) (by decide)) hm rfl rfl (by omega) (by omega) (by omega) (Nat.le_of_ble_eq_true rfl) (fun v_2 w_2 hP_2 hlen_2 => ?_) (fun _ _ h => h.elim)
  rw [hP_2.1, hP_2.2]
  show Wp X 0 0 w [(2, .int (nI 0)), (0, .ref m), (1, .int 5)] [.int (nI (hPick f 0 6))] 46
  refine r_istore_n hC dX9_lowest_46 rfl (by rw [hnl]; decide) (L' := [(2, .int (nI (hPick f 0 6))), (0, .ref m), (1, .int 5)]) rfl ?_
  refine r_iload_n hC dX9_lowest_47 rfl (j := 2) rfl ?_
  refine r_bipush hC dX9_lowest_48 (v := 20) (by decide) ?_
  refine r_icmp_ge hC dX9_lowest_50 (tgt := 62) (by decide) (fun h => absurd h (by decide)) (fun _ => ?_)
  refine r_aload_n hC dX9_lowest_53 rfl (j := 1) rfl ?_
  refine r_iload_n hC dX9_lowest_54 rfl (j := 0) rfl ?_
  refine r_iload_n hC dX9_lowest_55 rfl (j := 2) rfl ?_
  refine r_iconst hC dX9_lowest_56 (v := 5) (by decide) ?_
  refine r_iadd hC dX9_lowest_57 ?_
  rw [show (5 + 5 : Int32) = 10 from by decide]
  refine r_callV hC (vs := [.int (nI (hPick f 0 6)), .int 10]) vX9_lowest_58 (sm_lower (d := d) (a := (hPick f 0 6)) (b := 10) hm hv h25 (hPick_lt (by decide) (by decide)) (by decide)) hm rfl rfl (by omega) (by omega) (by omega) (Nat.le_of_ble_eq_true rfl) (fun v_3 w_3 hP_3 hlen_3 => ?_) (fun _ _ h => h.elim)
  rw [hP_3.1, hP_3.2]
  show Wp X 0 0 w [(2, .int (nI (hPick f 0 6))), (0, .ref m), (1, .int 5)] [.int (nI (hPick f (hPick f 0 6) 10))] 61
  refine r_istore_n hC dX9_lowest_61 rfl (by rw [hnl]; decide) (L' := [(2, .int (nI (hPick f (hPick f 0 6) 10))), (0, .ref m), (1, .int 5)]) rfl ?_
  refine r_aload_n hC dX9_lowest_62 rfl (j := 1) rfl ?_
  refine r_get hC gX9_lowest_63 hm (v := .ref (m + 1)) rfl ?_
  refine r_iconst hC dX9_lowest_66 (v := 2) (by decide) ?_
  refine r_iald hC dX9_lowest_67 (j := 2) hv ⟨by decide, by decide, by decide⟩ ?_
  rw [show enc ((f, g, sl, op, lo), hd, rs, np, tp, av, lg, pl, tk) 2 = op from rfl]
  refine r_iconst hC dX9_lowest_68 (v := 1) (by decide) ?_
  refine r_icmp_ne hC dX9_lowest_69 (tgt := 89) (by decide) (fun c69 => ?_) (fun c69 => ?_)
  · refine r_iload_n hC dX9_lowest_89 rfl (j := 0) rfl ?_
    refine r_iret hC hE hR dX9_lowest_90 (by omega) (by omega) (rfl) ?_
    have o9 : op = 0 := hop.resolve_right c69
    have e9 : hLow f op 5 = (hPick f (hPick f 0 6) 10) := by
      unfold hLow
      rw [lowStep_o0 (c := 5) (s := 3) (by decide) o9, lowStep_in (n := 10) (c := 5) (s := 2) (by decide) (by decide), lowStep_in (n := 6) (c := 5) (s := 1) (by decide) (by decide)]
      rfl
    exact ⟨by rw [e9], rfl⟩
  · refine r_iload_n hC dX9_lowest_72 rfl (j := 2) rfl ?_
    refine r_callS hC (vs := [.int 5]) vX9_lowest_73 (sm_edge5 (d := d + 1)) rfl (by omega) (by omega) (by omega) (Nat.le_of_ble_eq_true rfl) (fun v_4 w_4 hP_4 hlen_4 => ?_) (fun _ _ h => h.elim)
    rw [hP_4.1, hP_4.2]
    show Wp X 0 0 w [(2, .int (nI (hPick f (hPick f 0 6) 10))), (0, .ref m), (1, .int 5)] [.int 1] 76
    refine r_if_eq hC dX9_lowest_76 (tgt := 89) (by decide) (fun h => absurd h (by decide)) (fun _ => ?_)
    refine r_aload_n hC dX9_lowest_79 rfl (j := 1) rfl ?_
    refine r_iload_n hC dX9_lowest_80 rfl (j := 0) rfl ?_
    refine r_bipush hC dX9_lowest_81 (v := 25) (by decide) ?_
    refine r_callV hC (vs := [.int (nI (hPick f (hPick f 0 6) 10)), .int 25]) vX9_lowest_83 (sm_lower (d := d) (a := (hPick f (hPick f 0 6) 10)) (b := 25) hm hv h25 (hPick_lt (hPick_lt (by decide) (by decide)) (by decide)) (by decide)) hm rfl rfl (by omega) (by omega) (by omega) (Nat.le_of_ble_eq_true rfl) (fun v_5 w_5 hP_5 hlen_5 => ?_) (fun _ _ h => h.elim)
    rw [hP_5.1, hP_5.2]
    show Wp X 0 0 w [(2, .int (nI (hPick f (hPick f 0 6) 10))), (0, .ref m), (1, .int 5)] [.int (nI (hPick f (hPick f (hPick f 0 6) 10) 25))] 86
    refine r_goto hC dX9_lowest_86 (tgt := 90) (by decide) ?_
    refine r_iret hC hE hR dX9_lowest_90 (by omega) (by omega) (rfl) ?_
    have o9 : op = 1 := c69
    have e9 : hLow f op 5 = (hPick f (hPick f (hPick f 0 6) 10) 25) := by
      unfold hLow
      rw [lowStep_o1 (c := 5) (s := 3) (by decide) o9, lowStep_in (n := 10) (c := 5) (s := 2) (by decide) (by decide), lowStep_in (n := 6) (c := 5) (s := 1) (by decide) (by decide)]
      rfl
    exact ⟨by rw [e9], rfl⟩
set_option maxRecDepth 100000 in
set_option maxHeartbeats 4000000 in
theorem sm_lowest6 {d : Nat} {w : mW} {m : Nat} {th ch ea fa sv0 tn he en ln iw id0 : Int32} {f g : Nat → Int32} {sl op lo : Int32} {hd rs : Nat → Int32} {np : Nat} {tp av lg pl tk : Int32} (hm : w[m]? = some (mO 10 [.int th, .int ch, .int ea, .int fa, .int sv0, .ref (m + 1), .ref (m + 2), .ref (m + 3), .ref (m + 4), .ref (m + 5), .ref (m + 6), .ref (m + 7), .ref (m + 8), .ref (m + 9), .ref (m + 10), .int tn, .int he, .int en, .int ln, .int iw, .int id0])) (hv : w[m + 1]? = some (mI 0 67 (enc ((f, g, sl, op, lo), hd, rs, np, tp, av, lg, pl, tk)))) (h25 : f 25 = 0) (hop : op = 0 ∨ op = 1) : Sp (d + 2) yX9_lowest cX9_lowest 3 (some .int) [.ref m, .int 6] w 0 0 (fun v w' => v = some (.int (nI (hLow f op 6))) ∧ w' = w) noX := by
  refine Sp.of (by decide +kernel) (Nat.le_of_ble_eq_true rfl) (fun X hC hnl hE hR hN => ?_)
  have hC : Cx X RX9 cX9_lowest (d + 2) 0 0 := hC
  show Wp X 0 0 w [(0, .ref m), (1, .int 6)] [] 0
  refine r_iconst hC dX9_lowest_0 (v := (-1)) (by decide) ?_
  refine r_istore_n hC dX9_lowest_1 rfl (by rw [hnl]; decide) (L' := [(2, .int (-1)), (0, .ref m), (1, .int 6)]) rfl ?_
  refine r_iload_n hC dX9_lowest_2 rfl (j := 2) rfl ?_
  refine r_iconst hC dX9_lowest_3 (v := 5) (by decide) ?_
  refine r_icmp_lt hC dX9_lowest_4 (tgt := 16) (by decide) (fun h => absurd h (by decide)) (fun _ => ?_)
  refine r_aload_n hC dX9_lowest_7 rfl (j := 1) rfl ?_
  refine r_iload_n hC dX9_lowest_8 rfl (j := 0) rfl ?_
  refine r_iload_n hC dX9_lowest_9 rfl (j := 2) rfl ?_
  refine r_iconst hC dX9_lowest_10 (v := 5) (by decide) ?_
  refine r_isub hC dX9_lowest_11 ?_
  rw [show (6 - 5 : Int32) = 1 from by decide]
  refine r_callV hC (vs := [.int (-1), .int 1]) vX9_lowest_12 (sm_lower0 (d := d) (b := 1) hm hv) hm rfl rfl (by omega) (by omega) (by omega) (Nat.le_of_ble_eq_true rfl) (fun v_1 w_1 hP_1 hlen_1 => ?_) (fun _ _ h => h.elim)
  rw [hP_1.1, hP_1.2]
  show Wp X 0 0 w [(2, .int (-1)), (0, .ref m), (1, .int 6)] [.int (nI 1)] 15
  refine r_istore_n hC dX9_lowest_15 rfl (by rw [hnl]; decide) (L' := [(2, .int (nI 1)), (0, .ref m), (1, .int 6)]) rfl ?_
  refine r_iload_n hC dX9_lowest_16 rfl (j := 2) rfl ?_
  refine r_iconst hC dX9_lowest_17 (v := 5) (by decide) ?_
  refine r_irem hC dX9_lowest_18 (by decide) ?_
  rw [show (6 - 6 / 5 * 5 : Int32) = 1 from by decide]
  refine r_if_le hC dX9_lowest_19 (tgt := 31) (by decide) (fun h => absurd h (by decide)) (fun _ => ?_)
  refine r_aload_n hC dX9_lowest_22 rfl (j := 1) rfl ?_
  refine r_iload_n hC dX9_lowest_23 rfl (j := 0) rfl ?_
  refine r_iload_n hC dX9_lowest_24 rfl (j := 2) rfl ?_
  refine r_iconst hC dX9_lowest_25 (v := 1) (by decide) ?_
  refine r_isub hC dX9_lowest_26 ?_
  rw [show (6 - 1 : Int32) = 5 from by decide]
  refine r_callV hC (vs := [.int (nI 1), .int 5]) vX9_lowest_27 (sm_lower (d := d) (a := 1) (b := 5) hm hv h25 (by decide) (by decide)) hm rfl rfl (by omega) (by omega) (by omega) (Nat.le_of_ble_eq_true rfl) (fun v_2 w_2 hP_2 hlen_2 => ?_) (fun _ _ h => h.elim)
  rw [hP_2.1, hP_2.2]
  show Wp X 0 0 w [(2, .int (nI 1)), (0, .ref m), (1, .int 6)] [.int (nI (hPick f 1 5))] 30
  refine r_istore_n hC dX9_lowest_30 rfl (by rw [hnl]; decide) (L' := [(2, .int (nI (hPick f 1 5))), (0, .ref m), (1, .int 6)]) rfl ?_
  refine r_iload_n hC dX9_lowest_31 rfl (j := 2) rfl ?_
  refine r_iconst hC dX9_lowest_32 (v := 5) (by decide) ?_
  refine r_irem hC dX9_lowest_33 (by decide) ?_
  rw [show (6 - 6 / 5 * 5 : Int32) = 1 from by decide]
  refine r_iconst hC dX9_lowest_34 (v := 4) (by decide) ?_
  refine r_icmp_ge hC dX9_lowest_35 (tgt := 47) (by decide) (fun h => absurd h (by decide)) (fun _ => ?_)
  refine r_aload_n hC dX9_lowest_38 rfl (j := 1) rfl ?_
  refine r_iload_n hC dX9_lowest_39 rfl (j := 0) rfl ?_
  refine r_iload_n hC dX9_lowest_40 rfl (j := 2) rfl ?_
  refine r_iconst hC dX9_lowest_41 (v := 1) (by decide) ?_
  refine r_iadd hC dX9_lowest_42 ?_
  rw [show (6 + 1 : Int32) = 7 from by decide]
  refine r_callV hC (vs := [.int (nI (hPick f 1 5)), .int 7]) vX9_lowest_43 (sm_lower (d := d) (a := (hPick f 1 5)) (b := 7) hm hv h25 (hPick_lt (by decide) (by decide)) (by decide)) hm rfl rfl (by omega) (by omega) (by omega) (Nat.le_of_ble_eq_true rfl) (fun v_3 w_3 hP_3 hlen_3 => ?_) (fun _ _ h => h.elim)
  rw [hP_3.1, hP_3.2]
  show Wp X 0 0 w [(2, .int (nI (hPick f 1 5))), (0, .ref m), (1, .int 6)] [.int (nI (hPick f (hPick f 1 5) 7))] 46
  refine r_istore_n hC dX9_lowest_46 rfl (by rw [hnl]; decide) (L' := [(2, .int (nI (hPick f (hPick f 1 5) 7))), (0, .ref m), (1, .int 6)]) rfl ?_
  refine r_iload_n hC dX9_lowest_47 rfl (j := 2) rfl ?_
  refine r_bipush hC dX9_lowest_48 (v := 20) (by decide) ?_
  refine r_icmp_ge hC dX9_lowest_50 (tgt := 62) (by decide) (fun h => absurd h (by decide)) (fun _ => ?_)
  refine r_aload_n hC dX9_lowest_53 rfl (j := 1) rfl ?_
  refine r_iload_n hC dX9_lowest_54 rfl (j := 0) rfl ?_
  refine r_iload_n hC dX9_lowest_55 rfl (j := 2) rfl ?_
  refine r_iconst hC dX9_lowest_56 (v := 5) (by decide) ?_
  refine r_iadd hC dX9_lowest_57 ?_
  rw [show (6 + 5 : Int32) = 11 from by decide]
  refine r_callV hC (vs := [.int (nI (hPick f (hPick f 1 5) 7)), .int 11]) vX9_lowest_58 (sm_lower (d := d) (a := (hPick f (hPick f 1 5) 7)) (b := 11) hm hv h25 (hPick_lt (hPick_lt (by decide) (by decide)) (by decide)) (by decide)) hm rfl rfl (by omega) (by omega) (by omega) (Nat.le_of_ble_eq_true rfl) (fun v_4 w_4 hP_4 hlen_4 => ?_) (fun _ _ h => h.elim)
  rw [hP_4.1, hP_4.2]
  show Wp X 0 0 w [(2, .int (nI (hPick f (hPick f 1 5) 7))), (0, .ref m), (1, .int 6)] [.int (nI (hPick f (hPick f (hPick f 1 5) 7) 11))] 61
  refine r_istore_n hC dX9_lowest_61 rfl (by rw [hnl]; decide) (L' := [(2, .int (nI (hPick f (hPick f (hPick f 1 5) 7) 11))), (0, .ref m), (1, .int 6)]) rfl ?_
  refine r_aload_n hC dX9_lowest_62 rfl (j := 1) rfl ?_
  refine r_get hC gX9_lowest_63 hm (v := .ref (m + 1)) rfl ?_
  refine r_iconst hC dX9_lowest_66 (v := 2) (by decide) ?_
  refine r_iald hC dX9_lowest_67 (j := 2) hv ⟨by decide, by decide, by decide⟩ ?_
  rw [show enc ((f, g, sl, op, lo), hd, rs, np, tp, av, lg, pl, tk) 2 = op from rfl]
  refine r_iconst hC dX9_lowest_68 (v := 1) (by decide) ?_
  refine r_icmp_ne hC dX9_lowest_69 (tgt := 89) (by decide) (fun c69 => ?_) (fun c69 => ?_)
  · refine r_iload_n hC dX9_lowest_89 rfl (j := 0) rfl ?_
    refine r_iret hC hE hR dX9_lowest_90 (by omega) (by omega) (rfl) ?_
    have o9 : op = 0 := hop.resolve_right c69
    have e9 : hLow f op 6 = (hPick f (hPick f (hPick f 1 5) 7) 11) := by
      unfold hLow
      rw [lowStep_in (n := 11) (c := 6) (s := 3) (by decide) (by decide), lowStep_in (n := 7) (c := 6) (s := 2) (by decide) (by decide), lowStep_in (n := 5) (c := 6) (s := 1) (by decide) (by decide)]
      rfl
    exact ⟨by rw [e9], rfl⟩
  · refine r_iload_n hC dX9_lowest_72 rfl (j := 2) rfl ?_
    refine r_callS hC (vs := [.int 6]) vX9_lowest_73 (sm_edge6 (d := d + 1)) rfl (by omega) (by omega) (by omega) (Nat.le_of_ble_eq_true rfl) (fun v_5 w_5 hP_5 hlen_5 => ?_) (fun _ _ h => h.elim)
    rw [hP_5.1, hP_5.2]
    show Wp X 0 0 w [(2, .int (nI (hPick f (hPick f (hPick f 1 5) 7) 11))), (0, .ref m), (1, .int 6)] [.int 0] 76
    refine r_if_eq hC dX9_lowest_76 (tgt := 89) (by decide) (fun _ => ?_) (fun h => absurd (by decide) h)
    refine r_iload_n hC dX9_lowest_89 rfl (j := 0) rfl ?_
    refine r_iret hC hE hR dX9_lowest_90 (by omega) (by omega) (rfl) ?_
    have o9 : op = 1 := c69
    have e9 : hLow f op 6 = (hPick f (hPick f (hPick f 1 5) 7) 11) := by
      unfold hLow
      rw [lowStep_in (n := 11) (c := 6) (s := 3) (by decide) (by decide), lowStep_in (n := 7) (c := 6) (s := 2) (by decide) (by decide), lowStep_in (n := 5) (c := 6) (s := 1) (by decide) (by decide)]
      rfl
    exact ⟨by rw [e9], rfl⟩
set_option maxRecDepth 100000 in
set_option maxHeartbeats 4000000 in
theorem sm_lowest7 {d : Nat} {w : mW} {m : Nat} {th ch ea fa sv0 tn he en ln iw id0 : Int32} {f g : Nat → Int32} {sl op lo : Int32} {hd rs : Nat → Int32} {np : Nat} {tp av lg pl tk : Int32} (hm : w[m]? = some (mO 10 [.int th, .int ch, .int ea, .int fa, .int sv0, .ref (m + 1), .ref (m + 2), .ref (m + 3), .ref (m + 4), .ref (m + 5), .ref (m + 6), .ref (m + 7), .ref (m + 8), .ref (m + 9), .ref (m + 10), .int tn, .int he, .int en, .int ln, .int iw, .int id0])) (hv : w[m + 1]? = some (mI 0 67 (enc ((f, g, sl, op, lo), hd, rs, np, tp, av, lg, pl, tk)))) (h25 : f 25 = 0) (hop : op = 0 ∨ op = 1) : Sp (d + 2) yX9_lowest cX9_lowest 3 (some .int) [.ref m, .int 7] w 0 0 (fun v w' => v = some (.int (nI (hLow f op 7))) ∧ w' = w) noX := by
  refine Sp.of (by decide +kernel) (Nat.le_of_ble_eq_true rfl) (fun X hC hnl hE hR hN => ?_)
  have hC : Cx X RX9 cX9_lowest (d + 2) 0 0 := hC
  show Wp X 0 0 w [(0, .ref m), (1, .int 7)] [] 0
  refine r_iconst hC dX9_lowest_0 (v := (-1)) (by decide) ?_
  refine r_istore_n hC dX9_lowest_1 rfl (by rw [hnl]; decide) (L' := [(2, .int (-1)), (0, .ref m), (1, .int 7)]) rfl ?_
  refine r_iload_n hC dX9_lowest_2 rfl (j := 2) rfl ?_
  refine r_iconst hC dX9_lowest_3 (v := 5) (by decide) ?_
  refine r_icmp_lt hC dX9_lowest_4 (tgt := 16) (by decide) (fun h => absurd h (by decide)) (fun _ => ?_)
  refine r_aload_n hC dX9_lowest_7 rfl (j := 1) rfl ?_
  refine r_iload_n hC dX9_lowest_8 rfl (j := 0) rfl ?_
  refine r_iload_n hC dX9_lowest_9 rfl (j := 2) rfl ?_
  refine r_iconst hC dX9_lowest_10 (v := 5) (by decide) ?_
  refine r_isub hC dX9_lowest_11 ?_
  rw [show (7 - 5 : Int32) = 2 from by decide]
  refine r_callV hC (vs := [.int (-1), .int 2]) vX9_lowest_12 (sm_lower0 (d := d) (b := 2) hm hv) hm rfl rfl (by omega) (by omega) (by omega) (Nat.le_of_ble_eq_true rfl) (fun v_1 w_1 hP_1 hlen_1 => ?_) (fun _ _ h => h.elim)
  rw [hP_1.1, hP_1.2]
  show Wp X 0 0 w [(2, .int (-1)), (0, .ref m), (1, .int 7)] [.int (nI 2)] 15
  refine r_istore_n hC dX9_lowest_15 rfl (by rw [hnl]; decide) (L' := [(2, .int (nI 2)), (0, .ref m), (1, .int 7)]) rfl ?_
  refine r_iload_n hC dX9_lowest_16 rfl (j := 2) rfl ?_
  refine r_iconst hC dX9_lowest_17 (v := 5) (by decide) ?_
  refine r_irem hC dX9_lowest_18 (by decide) ?_
  rw [show (7 - 7 / 5 * 5 : Int32) = 2 from by decide]
  refine r_if_le hC dX9_lowest_19 (tgt := 31) (by decide) (fun h => absurd h (by decide)) (fun _ => ?_)
  refine r_aload_n hC dX9_lowest_22 rfl (j := 1) rfl ?_
  refine r_iload_n hC dX9_lowest_23 rfl (j := 0) rfl ?_
  refine r_iload_n hC dX9_lowest_24 rfl (j := 2) rfl ?_
  refine r_iconst hC dX9_lowest_25 (v := 1) (by decide) ?_
  refine r_isub hC dX9_lowest_26 ?_
  rw [show (7 - 1 : Int32) = 6 from by decide]
  refine r_callV hC (vs := [.int (nI 2), .int 6]) vX9_lowest_27 (sm_lower (d := d) (a := 2) (b := 6) hm hv h25 (by decide) (by decide)) hm rfl rfl (by omega) (by omega) (by omega) (Nat.le_of_ble_eq_true rfl) (fun v_2 w_2 hP_2 hlen_2 => ?_) (fun _ _ h => h.elim)
  rw [hP_2.1, hP_2.2]
  show Wp X 0 0 w [(2, .int (nI 2)), (0, .ref m), (1, .int 7)] [.int (nI (hPick f 2 6))] 30
  refine r_istore_n hC dX9_lowest_30 rfl (by rw [hnl]; decide) (L' := [(2, .int (nI (hPick f 2 6))), (0, .ref m), (1, .int 7)]) rfl ?_
  refine r_iload_n hC dX9_lowest_31 rfl (j := 2) rfl ?_
  refine r_iconst hC dX9_lowest_32 (v := 5) (by decide) ?_
  refine r_irem hC dX9_lowest_33 (by decide) ?_
  rw [show (7 - 7 / 5 * 5 : Int32) = 2 from by decide]
  refine r_iconst hC dX9_lowest_34 (v := 4) (by decide) ?_
  refine r_icmp_ge hC dX9_lowest_35 (tgt := 47) (by decide) (fun h => absurd h (by decide)) (fun _ => ?_)
  refine r_aload_n hC dX9_lowest_38 rfl (j := 1) rfl ?_
  refine r_iload_n hC dX9_lowest_39 rfl (j := 0) rfl ?_
  refine r_iload_n hC dX9_lowest_40 rfl (j := 2) rfl ?_
  refine r_iconst hC dX9_lowest_41 (v := 1) (by decide) ?_
  refine r_iadd hC dX9_lowest_42 ?_
  rw [show (7 + 1 : Int32) = 8 from by decide]
  refine r_callV hC (vs := [.int (nI (hPick f 2 6)), .int 8]) vX9_lowest_43 (sm_lower (d := d) (a := (hPick f 2 6)) (b := 8) hm hv h25 (hPick_lt (by decide) (by decide)) (by decide)) hm rfl rfl (by omega) (by omega) (by omega) (Nat.le_of_ble_eq_true rfl) (fun v_3 w_3 hP_3 hlen_3 => ?_) (fun _ _ h => h.elim)
  rw [hP_3.1, hP_3.2]
  show Wp X 0 0 w [(2, .int (nI (hPick f 2 6))), (0, .ref m), (1, .int 7)] [.int (nI (hPick f (hPick f 2 6) 8))] 46
  refine r_istore_n hC dX9_lowest_46 rfl (by rw [hnl]; decide) (L' := [(2, .int (nI (hPick f (hPick f 2 6) 8))), (0, .ref m), (1, .int 7)]) rfl ?_
  refine r_iload_n hC dX9_lowest_47 rfl (j := 2) rfl ?_
  refine r_bipush hC dX9_lowest_48 (v := 20) (by decide) ?_
  refine r_icmp_ge hC dX9_lowest_50 (tgt := 62) (by decide) (fun h => absurd h (by decide)) (fun _ => ?_)
  refine r_aload_n hC dX9_lowest_53 rfl (j := 1) rfl ?_
  refine r_iload_n hC dX9_lowest_54 rfl (j := 0) rfl ?_
  refine r_iload_n hC dX9_lowest_55 rfl (j := 2) rfl ?_
  refine r_iconst hC dX9_lowest_56 (v := 5) (by decide) ?_
  refine r_iadd hC dX9_lowest_57 ?_
  rw [show (7 + 5 : Int32) = 12 from by decide]
  refine r_callV hC (vs := [.int (nI (hPick f (hPick f 2 6) 8)), .int 12]) vX9_lowest_58 (sm_lower (d := d) (a := (hPick f (hPick f 2 6) 8)) (b := 12) hm hv h25 (hPick_lt (hPick_lt (by decide) (by decide)) (by decide)) (by decide)) hm rfl rfl (by omega) (by omega) (by omega) (Nat.le_of_ble_eq_true rfl) (fun v_4 w_4 hP_4 hlen_4 => ?_) (fun _ _ h => h.elim)
  rw [hP_4.1, hP_4.2]
  show Wp X 0 0 w [(2, .int (nI (hPick f (hPick f 2 6) 8))), (0, .ref m), (1, .int 7)] [.int (nI (hPick f (hPick f (hPick f 2 6) 8) 12))] 61
  refine r_istore_n hC dX9_lowest_61 rfl (by rw [hnl]; decide) (L' := [(2, .int (nI (hPick f (hPick f (hPick f 2 6) 8) 12))), (0, .ref m), (1, .int 7)]) rfl ?_
  refine r_aload_n hC dX9_lowest_62 rfl (j := 1) rfl ?_
  refine r_get hC gX9_lowest_63 hm (v := .ref (m + 1)) rfl ?_
  refine r_iconst hC dX9_lowest_66 (v := 2) (by decide) ?_
  refine r_iald hC dX9_lowest_67 (j := 2) hv ⟨by decide, by decide, by decide⟩ ?_
  rw [show enc ((f, g, sl, op, lo), hd, rs, np, tp, av, lg, pl, tk) 2 = op from rfl]
  refine r_iconst hC dX9_lowest_68 (v := 1) (by decide) ?_
  refine r_icmp_ne hC dX9_lowest_69 (tgt := 89) (by decide) (fun c69 => ?_) (fun c69 => ?_)
  · refine r_iload_n hC dX9_lowest_89 rfl (j := 0) rfl ?_
    refine r_iret hC hE hR dX9_lowest_90 (by omega) (by omega) (rfl) ?_
    have o9 : op = 0 := hop.resolve_right c69
    have e9 : hLow f op 7 = (hPick f (hPick f (hPick f 2 6) 8) 12) := by
      unfold hLow
      rw [lowStep_in (n := 12) (c := 7) (s := 3) (by decide) (by decide), lowStep_in (n := 8) (c := 7) (s := 2) (by decide) (by decide), lowStep_in (n := 6) (c := 7) (s := 1) (by decide) (by decide)]
      rfl
    exact ⟨by rw [e9], rfl⟩
  · refine r_iload_n hC dX9_lowest_72 rfl (j := 2) rfl ?_
    refine r_callS hC (vs := [.int 7]) vX9_lowest_73 (sm_edge7 (d := d + 1)) rfl (by omega) (by omega) (by omega) (Nat.le_of_ble_eq_true rfl) (fun v_5 w_5 hP_5 hlen_5 => ?_) (fun _ _ h => h.elim)
    rw [hP_5.1, hP_5.2]
    show Wp X 0 0 w [(2, .int (nI (hPick f (hPick f (hPick f 2 6) 8) 12))), (0, .ref m), (1, .int 7)] [.int 0] 76
    refine r_if_eq hC dX9_lowest_76 (tgt := 89) (by decide) (fun _ => ?_) (fun h => absurd (by decide) h)
    refine r_iload_n hC dX9_lowest_89 rfl (j := 0) rfl ?_
    refine r_iret hC hE hR dX9_lowest_90 (by omega) (by omega) (rfl) ?_
    have o9 : op = 1 := c69
    have e9 : hLow f op 7 = (hPick f (hPick f (hPick f 2 6) 8) 12) := by
      unfold hLow
      rw [lowStep_in (n := 12) (c := 7) (s := 3) (by decide) (by decide), lowStep_in (n := 8) (c := 7) (s := 2) (by decide) (by decide), lowStep_in (n := 6) (c := 7) (s := 1) (by decide) (by decide)]
      rfl
    exact ⟨by rw [e9], rfl⟩
set_option maxRecDepth 100000 in
set_option maxHeartbeats 4000000 in
theorem sm_lowest8 {d : Nat} {w : mW} {m : Nat} {th ch ea fa sv0 tn he en ln iw id0 : Int32} {f g : Nat → Int32} {sl op lo : Int32} {hd rs : Nat → Int32} {np : Nat} {tp av lg pl tk : Int32} (hm : w[m]? = some (mO 10 [.int th, .int ch, .int ea, .int fa, .int sv0, .ref (m + 1), .ref (m + 2), .ref (m + 3), .ref (m + 4), .ref (m + 5), .ref (m + 6), .ref (m + 7), .ref (m + 8), .ref (m + 9), .ref (m + 10), .int tn, .int he, .int en, .int ln, .int iw, .int id0])) (hv : w[m + 1]? = some (mI 0 67 (enc ((f, g, sl, op, lo), hd, rs, np, tp, av, lg, pl, tk)))) (h25 : f 25 = 0) (hop : op = 0 ∨ op = 1) : Sp (d + 2) yX9_lowest cX9_lowest 3 (some .int) [.ref m, .int 8] w 0 0 (fun v w' => v = some (.int (nI (hLow f op 8))) ∧ w' = w) noX := by
  refine Sp.of (by decide +kernel) (Nat.le_of_ble_eq_true rfl) (fun X hC hnl hE hR hN => ?_)
  have hC : Cx X RX9 cX9_lowest (d + 2) 0 0 := hC
  show Wp X 0 0 w [(0, .ref m), (1, .int 8)] [] 0
  refine r_iconst hC dX9_lowest_0 (v := (-1)) (by decide) ?_
  refine r_istore_n hC dX9_lowest_1 rfl (by rw [hnl]; decide) (L' := [(2, .int (-1)), (0, .ref m), (1, .int 8)]) rfl ?_
  refine r_iload_n hC dX9_lowest_2 rfl (j := 2) rfl ?_
  refine r_iconst hC dX9_lowest_3 (v := 5) (by decide) ?_
  refine r_icmp_lt hC dX9_lowest_4 (tgt := 16) (by decide) (fun h => absurd h (by decide)) (fun _ => ?_)
  refine r_aload_n hC dX9_lowest_7 rfl (j := 1) rfl ?_
  refine r_iload_n hC dX9_lowest_8 rfl (j := 0) rfl ?_
  refine r_iload_n hC dX9_lowest_9 rfl (j := 2) rfl ?_
  refine r_iconst hC dX9_lowest_10 (v := 5) (by decide) ?_
  refine r_isub hC dX9_lowest_11 ?_
  rw [show (8 - 5 : Int32) = 3 from by decide]
  refine r_callV hC (vs := [.int (-1), .int 3]) vX9_lowest_12 (sm_lower0 (d := d) (b := 3) hm hv) hm rfl rfl (by omega) (by omega) (by omega) (Nat.le_of_ble_eq_true rfl) (fun v_1 w_1 hP_1 hlen_1 => ?_) (fun _ _ h => h.elim)
  rw [hP_1.1, hP_1.2]
  show Wp X 0 0 w [(2, .int (-1)), (0, .ref m), (1, .int 8)] [.int (nI 3)] 15
  refine r_istore_n hC dX9_lowest_15 rfl (by rw [hnl]; decide) (L' := [(2, .int (nI 3)), (0, .ref m), (1, .int 8)]) rfl ?_
  refine r_iload_n hC dX9_lowest_16 rfl (j := 2) rfl ?_
  refine r_iconst hC dX9_lowest_17 (v := 5) (by decide) ?_
  refine r_irem hC dX9_lowest_18 (by decide) ?_
  rw [show (8 - 8 / 5 * 5 : Int32) = 3 from by decide]
  refine r_if_le hC dX9_lowest_19 (tgt := 31) (by decide) (fun h => absurd h (by decide)) (fun _ => ?_)
  refine r_aload_n hC dX9_lowest_22 rfl (j := 1) rfl ?_
  refine r_iload_n hC dX9_lowest_23 rfl (j := 0) rfl ?_
  refine r_iload_n hC dX9_lowest_24 rfl (j := 2) rfl ?_
  refine r_iconst hC dX9_lowest_25 (v := 1) (by decide) ?_
  refine r_isub hC dX9_lowest_26 ?_
  rw [show (8 - 1 : Int32) = 7 from by decide]
  refine r_callV hC (vs := [.int (nI 3), .int 7]) vX9_lowest_27 (sm_lower (d := d) (a := 3) (b := 7) hm hv h25 (by decide) (by decide)) hm rfl rfl (by omega) (by omega) (by omega) (Nat.le_of_ble_eq_true rfl) (fun v_2 w_2 hP_2 hlen_2 => ?_) (fun _ _ h => h.elim)
  rw [hP_2.1, hP_2.2]
  show Wp X 0 0 w [(2, .int (nI 3)), (0, .ref m), (1, .int 8)] [.int (nI (hPick f 3 7))] 30
  refine r_istore_n hC dX9_lowest_30 rfl (by rw [hnl]; decide) (L' := [(2, .int (nI (hPick f 3 7))), (0, .ref m), (1, .int 8)]) rfl ?_
  refine r_iload_n hC dX9_lowest_31 rfl (j := 2) rfl ?_
  refine r_iconst hC dX9_lowest_32 (v := 5) (by decide) ?_
  refine r_irem hC dX9_lowest_33 (by decide) ?_
  rw [show (8 - 8 / 5 * 5 : Int32) = 3 from by decide]
  refine r_iconst hC dX9_lowest_34 (v := 4) (by decide) ?_
  refine r_icmp_ge hC dX9_lowest_35 (tgt := 47) (by decide) (fun h => absurd h (by decide)) (fun _ => ?_)
  refine r_aload_n hC dX9_lowest_38 rfl (j := 1) rfl ?_
  refine r_iload_n hC dX9_lowest_39 rfl (j := 0) rfl ?_
  refine r_iload_n hC dX9_lowest_40 rfl (j := 2) rfl ?_
  refine r_iconst hC dX9_lowest_41 (v := 1) (by decide) ?_
  refine r_iadd hC dX9_lowest_42 ?_
  rw [show (8 + 1 : Int32) = 9 from by decide]
  refine r_callV hC (vs := [.int (nI (hPick f 3 7)), .int 9]) vX9_lowest_43 (sm_lower (d := d) (a := (hPick f 3 7)) (b := 9) hm hv h25 (hPick_lt (by decide) (by decide)) (by decide)) hm rfl rfl (by omega) (by omega) (by omega) (Nat.le_of_ble_eq_true rfl) (fun v_3 w_3 hP_3 hlen_3 => ?_) (fun _ _ h => h.elim)
  rw [hP_3.1, hP_3.2]
  show Wp X 0 0 w [(2, .int (nI (hPick f 3 7))), (0, .ref m), (1, .int 8)] [.int (nI (hPick f (hPick f 3 7) 9))] 46
  refine r_istore_n hC dX9_lowest_46 rfl (by rw [hnl]; decide) (L' := [(2, .int (nI (hPick f (hPick f 3 7) 9))), (0, .ref m), (1, .int 8)]) rfl ?_
  refine r_iload_n hC dX9_lowest_47 rfl (j := 2) rfl ?_
  refine r_bipush hC dX9_lowest_48 (v := 20) (by decide) ?_
  refine r_icmp_ge hC dX9_lowest_50 (tgt := 62) (by decide) (fun h => absurd h (by decide)) (fun _ => ?_)
  refine r_aload_n hC dX9_lowest_53 rfl (j := 1) rfl ?_
  refine r_iload_n hC dX9_lowest_54 rfl (j := 0) rfl ?_
  refine r_iload_n hC dX9_lowest_55 rfl (j := 2) rfl ?_
  refine r_iconst hC dX9_lowest_56 (v := 5) (by decide) ?_
  refine r_iadd hC dX9_lowest_57 ?_
  rw [show (8 + 5 : Int32) = 13 from by decide]
  refine r_callV hC (vs := [.int (nI (hPick f (hPick f 3 7) 9)), .int 13]) vX9_lowest_58 (sm_lower (d := d) (a := (hPick f (hPick f 3 7) 9)) (b := 13) hm hv h25 (hPick_lt (hPick_lt (by decide) (by decide)) (by decide)) (by decide)) hm rfl rfl (by omega) (by omega) (by omega) (Nat.le_of_ble_eq_true rfl) (fun v_4 w_4 hP_4 hlen_4 => ?_) (fun _ _ h => h.elim)
  rw [hP_4.1, hP_4.2]
  show Wp X 0 0 w [(2, .int (nI (hPick f (hPick f 3 7) 9))), (0, .ref m), (1, .int 8)] [.int (nI (hPick f (hPick f (hPick f 3 7) 9) 13))] 61
  refine r_istore_n hC dX9_lowest_61 rfl (by rw [hnl]; decide) (L' := [(2, .int (nI (hPick f (hPick f (hPick f 3 7) 9) 13))), (0, .ref m), (1, .int 8)]) rfl ?_
  refine r_aload_n hC dX9_lowest_62 rfl (j := 1) rfl ?_
  refine r_get hC gX9_lowest_63 hm (v := .ref (m + 1)) rfl ?_
  refine r_iconst hC dX9_lowest_66 (v := 2) (by decide) ?_
  refine r_iald hC dX9_lowest_67 (j := 2) hv ⟨by decide, by decide, by decide⟩ ?_
  rw [show enc ((f, g, sl, op, lo), hd, rs, np, tp, av, lg, pl, tk) 2 = op from rfl]
  refine r_iconst hC dX9_lowest_68 (v := 1) (by decide) ?_
  refine r_icmp_ne hC dX9_lowest_69 (tgt := 89) (by decide) (fun c69 => ?_) (fun c69 => ?_)
  · refine r_iload_n hC dX9_lowest_89 rfl (j := 0) rfl ?_
    refine r_iret hC hE hR dX9_lowest_90 (by omega) (by omega) (rfl) ?_
    have o9 : op = 0 := hop.resolve_right c69
    have e9 : hLow f op 8 = (hPick f (hPick f (hPick f 3 7) 9) 13) := by
      unfold hLow
      rw [lowStep_in (n := 13) (c := 8) (s := 3) (by decide) (by decide), lowStep_in (n := 9) (c := 8) (s := 2) (by decide) (by decide), lowStep_in (n := 7) (c := 8) (s := 1) (by decide) (by decide)]
      rfl
    exact ⟨by rw [e9], rfl⟩
  · refine r_iload_n hC dX9_lowest_72 rfl (j := 2) rfl ?_
    refine r_callS hC (vs := [.int 8]) vX9_lowest_73 (sm_edge8 (d := d + 1)) rfl (by omega) (by omega) (by omega) (Nat.le_of_ble_eq_true rfl) (fun v_5 w_5 hP_5 hlen_5 => ?_) (fun _ _ h => h.elim)
    rw [hP_5.1, hP_5.2]
    show Wp X 0 0 w [(2, .int (nI (hPick f (hPick f (hPick f 3 7) 9) 13))), (0, .ref m), (1, .int 8)] [.int 0] 76
    refine r_if_eq hC dX9_lowest_76 (tgt := 89) (by decide) (fun _ => ?_) (fun h => absurd (by decide) h)
    refine r_iload_n hC dX9_lowest_89 rfl (j := 0) rfl ?_
    refine r_iret hC hE hR dX9_lowest_90 (by omega) (by omega) (rfl) ?_
    have o9 : op = 1 := c69
    have e9 : hLow f op 8 = (hPick f (hPick f (hPick f 3 7) 9) 13) := by
      unfold hLow
      rw [lowStep_in (n := 13) (c := 8) (s := 3) (by decide) (by decide), lowStep_in (n := 9) (c := 8) (s := 2) (by decide) (by decide), lowStep_in (n := 7) (c := 8) (s := 1) (by decide) (by decide)]
      rfl
    exact ⟨by rw [e9], rfl⟩
set_option maxRecDepth 100000 in
set_option maxHeartbeats 4000000 in
theorem sm_lowest9 {d : Nat} {w : mW} {m : Nat} {th ch ea fa sv0 tn he en ln iw id0 : Int32} {f g : Nat → Int32} {sl op lo : Int32} {hd rs : Nat → Int32} {np : Nat} {tp av lg pl tk : Int32} (hm : w[m]? = some (mO 10 [.int th, .int ch, .int ea, .int fa, .int sv0, .ref (m + 1), .ref (m + 2), .ref (m + 3), .ref (m + 4), .ref (m + 5), .ref (m + 6), .ref (m + 7), .ref (m + 8), .ref (m + 9), .ref (m + 10), .int tn, .int he, .int en, .int ln, .int iw, .int id0])) (hv : w[m + 1]? = some (mI 0 67 (enc ((f, g, sl, op, lo), hd, rs, np, tp, av, lg, pl, tk)))) (h25 : f 25 = 0) (hop : op = 0 ∨ op = 1) : Sp (d + 2) yX9_lowest cX9_lowest 3 (some .int) [.ref m, .int 9] w 0 0 (fun v w' => v = some (.int (nI (hLow f op 9))) ∧ w' = w) noX := by
  refine Sp.of (by decide +kernel) (Nat.le_of_ble_eq_true rfl) (fun X hC hnl hE hR hN => ?_)
  have hC : Cx X RX9 cX9_lowest (d + 2) 0 0 := hC
  show Wp X 0 0 w [(0, .ref m), (1, .int 9)] [] 0
  refine r_iconst hC dX9_lowest_0 (v := (-1)) (by decide) ?_
  refine r_istore_n hC dX9_lowest_1 rfl (by rw [hnl]; decide) (L' := [(2, .int (-1)), (0, .ref m), (1, .int 9)]) rfl ?_
  refine r_iload_n hC dX9_lowest_2 rfl (j := 2) rfl ?_
  refine r_iconst hC dX9_lowest_3 (v := 5) (by decide) ?_
  refine r_icmp_lt hC dX9_lowest_4 (tgt := 16) (by decide) (fun h => absurd h (by decide)) (fun _ => ?_)
  refine r_aload_n hC dX9_lowest_7 rfl (j := 1) rfl ?_
  refine r_iload_n hC dX9_lowest_8 rfl (j := 0) rfl ?_
  refine r_iload_n hC dX9_lowest_9 rfl (j := 2) rfl ?_
  refine r_iconst hC dX9_lowest_10 (v := 5) (by decide) ?_
  refine r_isub hC dX9_lowest_11 ?_
  rw [show (9 - 5 : Int32) = 4 from by decide]
  refine r_callV hC (vs := [.int (-1), .int 4]) vX9_lowest_12 (sm_lower0 (d := d) (b := 4) hm hv) hm rfl rfl (by omega) (by omega) (by omega) (Nat.le_of_ble_eq_true rfl) (fun v_1 w_1 hP_1 hlen_1 => ?_) (fun _ _ h => h.elim)
  rw [hP_1.1, hP_1.2]
  show Wp X 0 0 w [(2, .int (-1)), (0, .ref m), (1, .int 9)] [.int (nI 4)] 15
  refine r_istore_n hC dX9_lowest_15 rfl (by rw [hnl]; decide) (L' := [(2, .int (nI 4)), (0, .ref m), (1, .int 9)]) rfl ?_
  refine r_iload_n hC dX9_lowest_16 rfl (j := 2) rfl ?_
  refine r_iconst hC dX9_lowest_17 (v := 5) (by decide) ?_
  refine r_irem hC dX9_lowest_18 (by decide) ?_
  rw [show (9 - 9 / 5 * 5 : Int32) = 4 from by decide]
  refine r_if_le hC dX9_lowest_19 (tgt := 31) (by decide) (fun h => absurd h (by decide)) (fun _ => ?_)
  refine r_aload_n hC dX9_lowest_22 rfl (j := 1) rfl ?_
  refine r_iload_n hC dX9_lowest_23 rfl (j := 0) rfl ?_
  refine r_iload_n hC dX9_lowest_24 rfl (j := 2) rfl ?_
  refine r_iconst hC dX9_lowest_25 (v := 1) (by decide) ?_
  refine r_isub hC dX9_lowest_26 ?_
  rw [show (9 - 1 : Int32) = 8 from by decide]
  refine r_callV hC (vs := [.int (nI 4), .int 8]) vX9_lowest_27 (sm_lower (d := d) (a := 4) (b := 8) hm hv h25 (by decide) (by decide)) hm rfl rfl (by omega) (by omega) (by omega) (Nat.le_of_ble_eq_true rfl) (fun v_2 w_2 hP_2 hlen_2 => ?_) (fun _ _ h => h.elim)
  rw [hP_2.1, hP_2.2]
  show Wp X 0 0 w [(2, .int (nI 4)), (0, .ref m), (1, .int 9)] [.int (nI (hPick f 4 8))] 30
  refine r_istore_n hC dX9_lowest_30 rfl (by rw [hnl]; decide) (L' := [(2, .int (nI (hPick f 4 8))), (0, .ref m), (1, .int 9)]) rfl ?_
  refine r_iload_n hC dX9_lowest_31 rfl (j := 2) rfl ?_
  refine r_iconst hC dX9_lowest_32 (v := 5) (by decide) ?_
  refine r_irem hC dX9_lowest_33 (by decide) ?_
  rw [show (9 - 9 / 5 * 5 : Int32) = 4 from by decide]
  refine r_iconst hC dX9_lowest_34 (v := 4) (by decide) ?_
  refine r_icmp_ge hC dX9_lowest_35 (tgt := 47) (by decide) (fun _ => ?_) (fun h => absurd (by decide) h)
  refine r_iload_n hC dX9_lowest_47 rfl (j := 2) rfl ?_
  refine r_bipush hC dX9_lowest_48 (v := 20) (by decide) ?_
  refine r_icmp_ge hC dX9_lowest_50 (tgt := 62) (by decide) (fun h => absurd h (by decide)) (fun _ => ?_)
  refine r_aload_n hC dX9_lowest_53 rfl (j := 1) rfl ?_
  refine r_iload_n hC dX9_lowest_54 rfl (j := 0) rfl ?_
  refine r_iload_n hC dX9_lowest_55 rfl (j := 2) rfl ?_
  refine r_iconst hC dX9_lowest_56 (v := 5) (by decide) ?_
  refine r_iadd hC dX9_lowest_57 ?_
  rw [show (9 + 5 : Int32) = 14 from by decide]
  refine r_callV hC (vs := [.int (nI (hPick f 4 8)), .int 14]) vX9_lowest_58 (sm_lower (d := d) (a := (hPick f 4 8)) (b := 14) hm hv h25 (hPick_lt (by decide) (by decide)) (by decide)) hm rfl rfl (by omega) (by omega) (by omega) (Nat.le_of_ble_eq_true rfl) (fun v_3 w_3 hP_3 hlen_3 => ?_) (fun _ _ h => h.elim)
  rw [hP_3.1, hP_3.2]
  show Wp X 0 0 w [(2, .int (nI (hPick f 4 8))), (0, .ref m), (1, .int 9)] [.int (nI (hPick f (hPick f 4 8) 14))] 61
  refine r_istore_n hC dX9_lowest_61 rfl (by rw [hnl]; decide) (L' := [(2, .int (nI (hPick f (hPick f 4 8) 14))), (0, .ref m), (1, .int 9)]) rfl ?_
  refine r_aload_n hC dX9_lowest_62 rfl (j := 1) rfl ?_
  refine r_get hC gX9_lowest_63 hm (v := .ref (m + 1)) rfl ?_
  refine r_iconst hC dX9_lowest_66 (v := 2) (by decide) ?_
  refine r_iald hC dX9_lowest_67 (j := 2) hv ⟨by decide, by decide, by decide⟩ ?_
  rw [show enc ((f, g, sl, op, lo), hd, rs, np, tp, av, lg, pl, tk) 2 = op from rfl]
  refine r_iconst hC dX9_lowest_68 (v := 1) (by decide) ?_
  refine r_icmp_ne hC dX9_lowest_69 (tgt := 89) (by decide) (fun c69 => ?_) (fun c69 => ?_)
  · refine r_iload_n hC dX9_lowest_89 rfl (j := 0) rfl ?_
    refine r_iret hC hE hR dX9_lowest_90 (by omega) (by omega) (rfl) ?_
    have o9 : op = 0 := hop.resolve_right c69
    have e9 : hLow f op 9 = (hPick f (hPick f 4 8) 14) := by
      unfold hLow
      rw [lowStep_o0 (c := 9) (s := 3) (by decide) o9, lowStep_in (n := 14) (c := 9) (s := 2) (by decide) (by decide), lowStep_in (n := 8) (c := 9) (s := 1) (by decide) (by decide)]
      rfl
    exact ⟨by rw [e9], rfl⟩
  · refine r_iload_n hC dX9_lowest_72 rfl (j := 2) rfl ?_
    refine r_callS hC (vs := [.int 9]) vX9_lowest_73 (sm_edge9 (d := d + 1)) rfl (by omega) (by omega) (by omega) (Nat.le_of_ble_eq_true rfl) (fun v_4 w_4 hP_4 hlen_4 => ?_) (fun _ _ h => h.elim)
    rw [hP_4.1, hP_4.2]
    show Wp X 0 0 w [(2, .int (nI (hPick f (hPick f 4 8) 14))), (0, .ref m), (1, .int 9)] [.int 1] 76
    refine r_if_eq hC dX9_lowest_76 (tgt := 89) (by decide) (fun h => absurd h (by decide)) (fun _ => ?_)
    refine r_aload_n hC dX9_lowest_79 rfl (j := 1) rfl ?_
    refine r_iload_n hC dX9_lowest_80 rfl (j := 0) rfl ?_
    refine r_bipush hC dX9_lowest_81 (v := 25) (by decide) ?_
    refine r_callV hC (vs := [.int (nI (hPick f (hPick f 4 8) 14)), .int 25]) vX9_lowest_83 (sm_lower (d := d) (a := (hPick f (hPick f 4 8) 14)) (b := 25) hm hv h25 (hPick_lt (hPick_lt (by decide) (by decide)) (by decide)) (by decide)) hm rfl rfl (by omega) (by omega) (by omega) (Nat.le_of_ble_eq_true rfl) (fun v_5 w_5 hP_5 hlen_5 => ?_) (fun _ _ h => h.elim)
    rw [hP_5.1, hP_5.2]
    show Wp X 0 0 w [(2, .int (nI (hPick f (hPick f 4 8) 14))), (0, .ref m), (1, .int 9)] [.int (nI (hPick f (hPick f (hPick f 4 8) 14) 25))] 86
    refine r_goto hC dX9_lowest_86 (tgt := 90) (by decide) ?_
    refine r_iret hC hE hR dX9_lowest_90 (by omega) (by omega) (rfl) ?_
    have o9 : op = 1 := c69
    have e9 : hLow f op 9 = (hPick f (hPick f (hPick f 4 8) 14) 25) := by
      unfold hLow
      rw [lowStep_o1 (c := 9) (s := 3) (by decide) o9, lowStep_in (n := 14) (c := 9) (s := 2) (by decide) (by decide), lowStep_in (n := 8) (c := 9) (s := 1) (by decide) (by decide)]
      rfl
    exact ⟨by rw [e9], rfl⟩
set_option maxRecDepth 100000 in
set_option maxHeartbeats 4000000 in
theorem sm_lowest10 {d : Nat} {w : mW} {m : Nat} {th ch ea fa sv0 tn he en ln iw id0 : Int32} {f g : Nat → Int32} {sl op lo : Int32} {hd rs : Nat → Int32} {np : Nat} {tp av lg pl tk : Int32} (hm : w[m]? = some (mO 10 [.int th, .int ch, .int ea, .int fa, .int sv0, .ref (m + 1), .ref (m + 2), .ref (m + 3), .ref (m + 4), .ref (m + 5), .ref (m + 6), .ref (m + 7), .ref (m + 8), .ref (m + 9), .ref (m + 10), .int tn, .int he, .int en, .int ln, .int iw, .int id0])) (hv : w[m + 1]? = some (mI 0 67 (enc ((f, g, sl, op, lo), hd, rs, np, tp, av, lg, pl, tk)))) (h25 : f 25 = 0) (hop : op = 0 ∨ op = 1) : Sp (d + 2) yX9_lowest cX9_lowest 3 (some .int) [.ref m, .int 10] w 0 0 (fun v w' => v = some (.int (nI (hLow f op 10))) ∧ w' = w) noX := by
  refine Sp.of (by decide +kernel) (Nat.le_of_ble_eq_true rfl) (fun X hC hnl hE hR hN => ?_)
  have hC : Cx X RX9 cX9_lowest (d + 2) 0 0 := hC
  show Wp X 0 0 w [(0, .ref m), (1, .int 10)] [] 0
  refine r_iconst hC dX9_lowest_0 (v := (-1)) (by decide) ?_
  refine r_istore_n hC dX9_lowest_1 rfl (by rw [hnl]; decide) (L' := [(2, .int (-1)), (0, .ref m), (1, .int 10)]) rfl ?_
  refine r_iload_n hC dX9_lowest_2 rfl (j := 2) rfl ?_
  refine r_iconst hC dX9_lowest_3 (v := 5) (by decide) ?_
  refine r_icmp_lt hC dX9_lowest_4 (tgt := 16) (by decide) (fun h => absurd h (by decide)) (fun _ => ?_)
  refine r_aload_n hC dX9_lowest_7 rfl (j := 1) rfl ?_
  refine r_iload_n hC dX9_lowest_8 rfl (j := 0) rfl ?_
  refine r_iload_n hC dX9_lowest_9 rfl (j := 2) rfl ?_
  refine r_iconst hC dX9_lowest_10 (v := 5) (by decide) ?_
  refine r_isub hC dX9_lowest_11 ?_
  rw [show (10 - 5 : Int32) = 5 from by decide]
  refine r_callV hC (vs := [.int (-1), .int 5]) vX9_lowest_12 (sm_lower0 (d := d) (b := 5) hm hv) hm rfl rfl (by omega) (by omega) (by omega) (Nat.le_of_ble_eq_true rfl) (fun v_1 w_1 hP_1 hlen_1 => ?_) (fun _ _ h => h.elim)
  rw [hP_1.1, hP_1.2]
  show Wp X 0 0 w [(2, .int (-1)), (0, .ref m), (1, .int 10)] [.int (nI 5)] 15
  refine r_istore_n hC dX9_lowest_15 rfl (by rw [hnl]; decide) (L' := [(2, .int (nI 5)), (0, .ref m), (1, .int 10)]) rfl ?_
  refine r_iload_n hC dX9_lowest_16 rfl (j := 2) rfl ?_
  refine r_iconst hC dX9_lowest_17 (v := 5) (by decide) ?_
  refine r_irem hC dX9_lowest_18 (by decide) ?_
  rw [show (10 - 10 / 5 * 5 : Int32) = 0 from by decide]
  refine r_if_le hC dX9_lowest_19 (tgt := 31) (by decide) (fun _ => ?_) (fun h => absurd (by decide) h)
  refine r_iload_n hC dX9_lowest_31 rfl (j := 2) rfl ?_
  refine r_iconst hC dX9_lowest_32 (v := 5) (by decide) ?_
  refine r_irem hC dX9_lowest_33 (by decide) ?_
  rw [show (10 - 10 / 5 * 5 : Int32) = 0 from by decide]
  refine r_iconst hC dX9_lowest_34 (v := 4) (by decide) ?_
  refine r_icmp_ge hC dX9_lowest_35 (tgt := 47) (by decide) (fun h => absurd h (by decide)) (fun _ => ?_)
  refine r_aload_n hC dX9_lowest_38 rfl (j := 1) rfl ?_
  refine r_iload_n hC dX9_lowest_39 rfl (j := 0) rfl ?_
  refine r_iload_n hC dX9_lowest_40 rfl (j := 2) rfl ?_
  refine r_iconst hC dX9_lowest_41 (v := 1) (by decide) ?_
  refine r_iadd hC dX9_lowest_42 ?_
  rw [show (10 + 1 : Int32) = 11 from by decide]
  refine r_callV hC (vs := [.int (nI 5), .int 11]) vX9_lowest_43 (sm_lower (d := d) (a := 5) (b := 11) hm hv h25 (by decide) (by decide)) hm rfl rfl (by omega) (by omega) (by omega) (Nat.le_of_ble_eq_true rfl) (fun v_2 w_2 hP_2 hlen_2 => ?_) (fun _ _ h => h.elim)
  rw [hP_2.1, hP_2.2]
  show Wp X 0 0 w [(2, .int (nI 5)), (0, .ref m), (1, .int 10)] [.int (nI (hPick f 5 11))] 46
  refine r_istore_n hC dX9_lowest_46 rfl (by rw [hnl]; decide) (L' := [(2, .int (nI (hPick f 5 11))), (0, .ref m), (1, .int 10)]) rfl ?_
  refine r_iload_n hC dX9_lowest_47 rfl (j := 2) rfl ?_
  refine r_bipush hC dX9_lowest_48 (v := 20) (by decide) ?_
  refine r_icmp_ge hC dX9_lowest_50 (tgt := 62) (by decide) (fun h => absurd h (by decide)) (fun _ => ?_)
  refine r_aload_n hC dX9_lowest_53 rfl (j := 1) rfl ?_
  refine r_iload_n hC dX9_lowest_54 rfl (j := 0) rfl ?_
  refine r_iload_n hC dX9_lowest_55 rfl (j := 2) rfl ?_
  refine r_iconst hC dX9_lowest_56 (v := 5) (by decide) ?_
  refine r_iadd hC dX9_lowest_57 ?_
  rw [show (10 + 5 : Int32) = 15 from by decide]
  refine r_callV hC (vs := [.int (nI (hPick f 5 11)), .int 15]) vX9_lowest_58 (sm_lower (d := d) (a := (hPick f 5 11)) (b := 15) hm hv h25 (hPick_lt (by decide) (by decide)) (by decide)) hm rfl rfl (by omega) (by omega) (by omega) (Nat.le_of_ble_eq_true rfl) (fun v_3 w_3 hP_3 hlen_3 => ?_) (fun _ _ h => h.elim)
  rw [hP_3.1, hP_3.2]
  show Wp X 0 0 w [(2, .int (nI (hPick f 5 11))), (0, .ref m), (1, .int 10)] [.int (nI (hPick f (hPick f 5 11) 15))] 61
  refine r_istore_n hC dX9_lowest_61 rfl (by rw [hnl]; decide) (L' := [(2, .int (nI (hPick f (hPick f 5 11) 15))), (0, .ref m), (1, .int 10)]) rfl ?_
  refine r_aload_n hC dX9_lowest_62 rfl (j := 1) rfl ?_
  refine r_get hC gX9_lowest_63 hm (v := .ref (m + 1)) rfl ?_
  refine r_iconst hC dX9_lowest_66 (v := 2) (by decide) ?_
  refine r_iald hC dX9_lowest_67 (j := 2) hv ⟨by decide, by decide, by decide⟩ ?_
  rw [show enc ((f, g, sl, op, lo), hd, rs, np, tp, av, lg, pl, tk) 2 = op from rfl]
  refine r_iconst hC dX9_lowest_68 (v := 1) (by decide) ?_
  refine r_icmp_ne hC dX9_lowest_69 (tgt := 89) (by decide) (fun c69 => ?_) (fun c69 => ?_)
  · refine r_iload_n hC dX9_lowest_89 rfl (j := 0) rfl ?_
    refine r_iret hC hE hR dX9_lowest_90 (by omega) (by omega) (rfl) ?_
    have o9 : op = 0 := hop.resolve_right c69
    have e9 : hLow f op 10 = (hPick f (hPick f 5 11) 15) := by
      unfold hLow
      rw [lowStep_o0 (c := 10) (s := 3) (by decide) o9, lowStep_in (n := 15) (c := 10) (s := 2) (by decide) (by decide), lowStep_in (n := 11) (c := 10) (s := 1) (by decide) (by decide)]
      rfl
    exact ⟨by rw [e9], rfl⟩
  · refine r_iload_n hC dX9_lowest_72 rfl (j := 2) rfl ?_
    refine r_callS hC (vs := [.int 10]) vX9_lowest_73 (sm_edge10 (d := d + 1)) rfl (by omega) (by omega) (by omega) (Nat.le_of_ble_eq_true rfl) (fun v_4 w_4 hP_4 hlen_4 => ?_) (fun _ _ h => h.elim)
    rw [hP_4.1, hP_4.2]
    show Wp X 0 0 w [(2, .int (nI (hPick f (hPick f 5 11) 15))), (0, .ref m), (1, .int 10)] [.int 1] 76
    refine r_if_eq hC dX9_lowest_76 (tgt := 89) (by decide) (fun h => absurd h (by decide)) (fun _ => ?_)
    refine r_aload_n hC dX9_lowest_79 rfl (j := 1) rfl ?_
    refine r_iload_n hC dX9_lowest_80 rfl (j := 0) rfl ?_
    refine r_bipush hC dX9_lowest_81 (v := 25) (by decide) ?_
    refine r_callV hC (vs := [.int (nI (hPick f (hPick f 5 11) 15)), .int 25]) vX9_lowest_83 (sm_lower (d := d) (a := (hPick f (hPick f 5 11) 15)) (b := 25) hm hv h25 (hPick_lt (hPick_lt (by decide) (by decide)) (by decide)) (by decide)) hm rfl rfl (by omega) (by omega) (by omega) (Nat.le_of_ble_eq_true rfl) (fun v_5 w_5 hP_5 hlen_5 => ?_) (fun _ _ h => h.elim)
    rw [hP_5.1, hP_5.2]
    show Wp X 0 0 w [(2, .int (nI (hPick f (hPick f 5 11) 15))), (0, .ref m), (1, .int 10)] [.int (nI (hPick f (hPick f (hPick f 5 11) 15) 25))] 86
    refine r_goto hC dX9_lowest_86 (tgt := 90) (by decide) ?_
    refine r_iret hC hE hR dX9_lowest_90 (by omega) (by omega) (rfl) ?_
    have o9 : op = 1 := c69
    have e9 : hLow f op 10 = (hPick f (hPick f (hPick f 5 11) 15) 25) := by
      unfold hLow
      rw [lowStep_o1 (c := 10) (s := 3) (by decide) o9, lowStep_in (n := 15) (c := 10) (s := 2) (by decide) (by decide), lowStep_in (n := 11) (c := 10) (s := 1) (by decide) (by decide)]
      rfl
    exact ⟨by rw [e9], rfl⟩
set_option maxRecDepth 100000 in
set_option maxHeartbeats 4000000 in
theorem sm_lowest11 {d : Nat} {w : mW} {m : Nat} {th ch ea fa sv0 tn he en ln iw id0 : Int32} {f g : Nat → Int32} {sl op lo : Int32} {hd rs : Nat → Int32} {np : Nat} {tp av lg pl tk : Int32} (hm : w[m]? = some (mO 10 [.int th, .int ch, .int ea, .int fa, .int sv0, .ref (m + 1), .ref (m + 2), .ref (m + 3), .ref (m + 4), .ref (m + 5), .ref (m + 6), .ref (m + 7), .ref (m + 8), .ref (m + 9), .ref (m + 10), .int tn, .int he, .int en, .int ln, .int iw, .int id0])) (hv : w[m + 1]? = some (mI 0 67 (enc ((f, g, sl, op, lo), hd, rs, np, tp, av, lg, pl, tk)))) (h25 : f 25 = 0) (hop : op = 0 ∨ op = 1) : Sp (d + 2) yX9_lowest cX9_lowest 3 (some .int) [.ref m, .int 11] w 0 0 (fun v w' => v = some (.int (nI (hLow f op 11))) ∧ w' = w) noX := by
  refine Sp.of (by decide +kernel) (Nat.le_of_ble_eq_true rfl) (fun X hC hnl hE hR hN => ?_)
  have hC : Cx X RX9 cX9_lowest (d + 2) 0 0 := hC
  show Wp X 0 0 w [(0, .ref m), (1, .int 11)] [] 0
  refine r_iconst hC dX9_lowest_0 (v := (-1)) (by decide) ?_
  refine r_istore_n hC dX9_lowest_1 rfl (by rw [hnl]; decide) (L' := [(2, .int (-1)), (0, .ref m), (1, .int 11)]) rfl ?_
  refine r_iload_n hC dX9_lowest_2 rfl (j := 2) rfl ?_
  refine r_iconst hC dX9_lowest_3 (v := 5) (by decide) ?_
  refine r_icmp_lt hC dX9_lowest_4 (tgt := 16) (by decide) (fun h => absurd h (by decide)) (fun _ => ?_)
  refine r_aload_n hC dX9_lowest_7 rfl (j := 1) rfl ?_
  refine r_iload_n hC dX9_lowest_8 rfl (j := 0) rfl ?_
  refine r_iload_n hC dX9_lowest_9 rfl (j := 2) rfl ?_
  refine r_iconst hC dX9_lowest_10 (v := 5) (by decide) ?_
  refine r_isub hC dX9_lowest_11 ?_
  rw [show (11 - 5 : Int32) = 6 from by decide]
  refine r_callV hC (vs := [.int (-1), .int 6]) vX9_lowest_12 (sm_lower0 (d := d) (b := 6) hm hv) hm rfl rfl (by omega) (by omega) (by omega) (Nat.le_of_ble_eq_true rfl) (fun v_1 w_1 hP_1 hlen_1 => ?_) (fun _ _ h => h.elim)
  rw [hP_1.1, hP_1.2]
  show Wp X 0 0 w [(2, .int (-1)), (0, .ref m), (1, .int 11)] [.int (nI 6)] 15
  refine r_istore_n hC dX9_lowest_15 rfl (by rw [hnl]; decide) (L' := [(2, .int (nI 6)), (0, .ref m), (1, .int 11)]) rfl ?_
  refine r_iload_n hC dX9_lowest_16 rfl (j := 2) rfl ?_
  refine r_iconst hC dX9_lowest_17 (v := 5) (by decide) ?_
  refine r_irem hC dX9_lowest_18 (by decide) ?_
  rw [show (11 - 11 / 5 * 5 : Int32) = 1 from by decide]
  refine r_if_le hC dX9_lowest_19 (tgt := 31) (by decide) (fun h => absurd h (by decide)) (fun _ => ?_)
  refine r_aload_n hC dX9_lowest_22 rfl (j := 1) rfl ?_
  refine r_iload_n hC dX9_lowest_23 rfl (j := 0) rfl ?_
  refine r_iload_n hC dX9_lowest_24 rfl (j := 2) rfl ?_
  refine r_iconst hC dX9_lowest_25 (v := 1) (by decide) ?_
  refine r_isub hC dX9_lowest_26 ?_
  rw [show (11 - 1 : Int32) = 10 from by decide]
  refine r_callV hC (vs := [.int (nI 6), .int 10]) vX9_lowest_27 (sm_lower (d := d) (a := 6) (b := 10) hm hv h25 (by decide) (by decide)) hm rfl rfl (by omega) (by omega) (by omega) (Nat.le_of_ble_eq_true rfl) (fun v_2 w_2 hP_2 hlen_2 => ?_) (fun _ _ h => h.elim)
  rw [hP_2.1, hP_2.2]
  show Wp X 0 0 w [(2, .int (nI 6)), (0, .ref m), (1, .int 11)] [.int (nI (hPick f 6 10))] 30
  refine r_istore_n hC dX9_lowest_30 rfl (by rw [hnl]; decide) (L' := [(2, .int (nI (hPick f 6 10))), (0, .ref m), (1, .int 11)]) rfl ?_
  refine r_iload_n hC dX9_lowest_31 rfl (j := 2) rfl ?_
  refine r_iconst hC dX9_lowest_32 (v := 5) (by decide) ?_
  refine r_irem hC dX9_lowest_33 (by decide) ?_
  rw [show (11 - 11 / 5 * 5 : Int32) = 1 from by decide]
  refine r_iconst hC dX9_lowest_34 (v := 4) (by decide) ?_
  refine r_icmp_ge hC dX9_lowest_35 (tgt := 47) (by decide) (fun h => absurd h (by decide)) (fun _ => ?_)
  refine r_aload_n hC dX9_lowest_38 rfl (j := 1) rfl ?_
  refine r_iload_n hC dX9_lowest_39 rfl (j := 0) rfl ?_
  refine r_iload_n hC dX9_lowest_40 rfl (j := 2) rfl ?_
  refine r_iconst hC dX9_lowest_41 (v := 1) (by decide) ?_
  refine r_iadd hC dX9_lowest_42 ?_
  rw [show (11 + 1 : Int32) = 12 from by decide]
  refine r_callV hC (vs := [.int (nI (hPick f 6 10)), .int 12]) vX9_lowest_43 (sm_lower (d := d) (a := (hPick f 6 10)) (b := 12) hm hv h25 (hPick_lt (by decide) (by decide)) (by decide)) hm rfl rfl (by omega) (by omega) (by omega) (Nat.le_of_ble_eq_true rfl) (fun v_3 w_3 hP_3 hlen_3 => ?_) (fun _ _ h => h.elim)
  rw [hP_3.1, hP_3.2]
  show Wp X 0 0 w [(2, .int (nI (hPick f 6 10))), (0, .ref m), (1, .int 11)] [.int (nI (hPick f (hPick f 6 10) 12))] 46
  refine r_istore_n hC dX9_lowest_46 rfl (by rw [hnl]; decide) (L' := [(2, .int (nI (hPick f (hPick f 6 10) 12))), (0, .ref m), (1, .int 11)]) rfl ?_
  refine r_iload_n hC dX9_lowest_47 rfl (j := 2) rfl ?_
  refine r_bipush hC dX9_lowest_48 (v := 20) (by decide) ?_
  refine r_icmp_ge hC dX9_lowest_50 (tgt := 62) (by decide) (fun h => absurd h (by decide)) (fun _ => ?_)
  refine r_aload_n hC dX9_lowest_53 rfl (j := 1) rfl ?_
  refine r_iload_n hC dX9_lowest_54 rfl (j := 0) rfl ?_
  refine r_iload_n hC dX9_lowest_55 rfl (j := 2) rfl ?_
  refine r_iconst hC dX9_lowest_56 (v := 5) (by decide) ?_
  refine r_iadd hC dX9_lowest_57 ?_
  rw [show (11 + 5 : Int32) = 16 from by decide]
  refine r_callV hC (vs := [.int (nI (hPick f (hPick f 6 10) 12)), .int 16]) vX9_lowest_58 (sm_lower (d := d) (a := (hPick f (hPick f 6 10) 12)) (b := 16) hm hv h25 (hPick_lt (hPick_lt (by decide) (by decide)) (by decide)) (by decide)) hm rfl rfl (by omega) (by omega) (by omega) (Nat.le_of_ble_eq_true rfl) (fun v_4 w_4 hP_4 hlen_4 => ?_) (fun _ _ h => h.elim)
  rw [hP_4.1, hP_4.2]
  show Wp X 0 0 w [(2, .int (nI (hPick f (hPick f 6 10) 12))), (0, .ref m), (1, .int 11)] [.int (nI (hPick f (hPick f (hPick f 6 10) 12) 16))] 61
  refine r_istore_n hC dX9_lowest_61 rfl (by rw [hnl]; decide) (L' := [(2, .int (nI (hPick f (hPick f (hPick f 6 10) 12) 16))), (0, .ref m), (1, .int 11)]) rfl ?_
  refine r_aload_n hC dX9_lowest_62 rfl (j := 1) rfl ?_
  refine r_get hC gX9_lowest_63 hm (v := .ref (m + 1)) rfl ?_
  refine r_iconst hC dX9_lowest_66 (v := 2) (by decide) ?_
  refine r_iald hC dX9_lowest_67 (j := 2) hv ⟨by decide, by decide, by decide⟩ ?_
  rw [show enc ((f, g, sl, op, lo), hd, rs, np, tp, av, lg, pl, tk) 2 = op from rfl]
  refine r_iconst hC dX9_lowest_68 (v := 1) (by decide) ?_
  refine r_icmp_ne hC dX9_lowest_69 (tgt := 89) (by decide) (fun c69 => ?_) (fun c69 => ?_)
  · refine r_iload_n hC dX9_lowest_89 rfl (j := 0) rfl ?_
    refine r_iret hC hE hR dX9_lowest_90 (by omega) (by omega) (rfl) ?_
    have o9 : op = 0 := hop.resolve_right c69
    have e9 : hLow f op 11 = (hPick f (hPick f (hPick f 6 10) 12) 16) := by
      unfold hLow
      rw [lowStep_in (n := 16) (c := 11) (s := 3) (by decide) (by decide), lowStep_in (n := 12) (c := 11) (s := 2) (by decide) (by decide), lowStep_in (n := 10) (c := 11) (s := 1) (by decide) (by decide)]
      rfl
    exact ⟨by rw [e9], rfl⟩
  · refine r_iload_n hC dX9_lowest_72 rfl (j := 2) rfl ?_
    refine r_callS hC (vs := [.int 11]) vX9_lowest_73 (sm_edge11 (d := d + 1)) rfl (by omega) (by omega) (by omega) (Nat.le_of_ble_eq_true rfl) (fun v_5 w_5 hP_5 hlen_5 => ?_) (fun _ _ h => h.elim)
    rw [hP_5.1, hP_5.2]
    show Wp X 0 0 w [(2, .int (nI (hPick f (hPick f (hPick f 6 10) 12) 16))), (0, .ref m), (1, .int 11)] [.int 0] 76
    refine r_if_eq hC dX9_lowest_76 (tgt := 89) (by decide) (fun _ => ?_) (fun h => absurd (by decide) h)
    refine r_iload_n hC dX9_lowest_89 rfl (j := 0) rfl ?_
    refine r_iret hC hE hR dX9_lowest_90 (by omega) (by omega) (rfl) ?_
    have o9 : op = 1 := c69
    have e9 : hLow f op 11 = (hPick f (hPick f (hPick f 6 10) 12) 16) := by
      unfold hLow
      rw [lowStep_in (n := 16) (c := 11) (s := 3) (by decide) (by decide), lowStep_in (n := 12) (c := 11) (s := 2) (by decide) (by decide), lowStep_in (n := 10) (c := 11) (s := 1) (by decide) (by decide)]
      rfl
    exact ⟨by rw [e9], rfl⟩
set_option maxRecDepth 100000 in
set_option maxHeartbeats 4000000 in
theorem sm_lowest12 {d : Nat} {w : mW} {m : Nat} {th ch ea fa sv0 tn he en ln iw id0 : Int32} {f g : Nat → Int32} {sl op lo : Int32} {hd rs : Nat → Int32} {np : Nat} {tp av lg pl tk : Int32} (hm : w[m]? = some (mO 10 [.int th, .int ch, .int ea, .int fa, .int sv0, .ref (m + 1), .ref (m + 2), .ref (m + 3), .ref (m + 4), .ref (m + 5), .ref (m + 6), .ref (m + 7), .ref (m + 8), .ref (m + 9), .ref (m + 10), .int tn, .int he, .int en, .int ln, .int iw, .int id0])) (hv : w[m + 1]? = some (mI 0 67 (enc ((f, g, sl, op, lo), hd, rs, np, tp, av, lg, pl, tk)))) (h25 : f 25 = 0) (hop : op = 0 ∨ op = 1) : Sp (d + 2) yX9_lowest cX9_lowest 3 (some .int) [.ref m, .int 12] w 0 0 (fun v w' => v = some (.int (nI (hLow f op 12))) ∧ w' = w) noX := by
  refine Sp.of (by decide +kernel) (Nat.le_of_ble_eq_true rfl) (fun X hC hnl hE hR hN => ?_)
  have hC : Cx X RX9 cX9_lowest (d + 2) 0 0 := hC
  show Wp X 0 0 w [(0, .ref m), (1, .int 12)] [] 0
  refine r_iconst hC dX9_lowest_0 (v := (-1)) (by decide) ?_
  refine r_istore_n hC dX9_lowest_1 rfl (by rw [hnl]; decide) (L' := [(2, .int (-1)), (0, .ref m), (1, .int 12)]) rfl ?_
  refine r_iload_n hC dX9_lowest_2 rfl (j := 2) rfl ?_
  refine r_iconst hC dX9_lowest_3 (v := 5) (by decide) ?_
  refine r_icmp_lt hC dX9_lowest_4 (tgt := 16) (by decide) (fun h => absurd h (by decide)) (fun _ => ?_)
  refine r_aload_n hC dX9_lowest_7 rfl (j := 1) rfl ?_
  refine r_iload_n hC dX9_lowest_8 rfl (j := 0) rfl ?_
  refine r_iload_n hC dX9_lowest_9 rfl (j := 2) rfl ?_
  refine r_iconst hC dX9_lowest_10 (v := 5) (by decide) ?_
  refine r_isub hC dX9_lowest_11 ?_
  rw [show (12 - 5 : Int32) = 7 from by decide]
  refine r_callV hC (vs := [.int (-1), .int 7]) vX9_lowest_12 (sm_lower0 (d := d) (b := 7) hm hv) hm rfl rfl (by omega) (by omega) (by omega) (Nat.le_of_ble_eq_true rfl) (fun v_1 w_1 hP_1 hlen_1 => ?_) (fun _ _ h => h.elim)
  rw [hP_1.1, hP_1.2]
  show Wp X 0 0 w [(2, .int (-1)), (0, .ref m), (1, .int 12)] [.int (nI 7)] 15
  refine r_istore_n hC dX9_lowest_15 rfl (by rw [hnl]; decide) (L' := [(2, .int (nI 7)), (0, .ref m), (1, .int 12)]) rfl ?_
  refine r_iload_n hC dX9_lowest_16 rfl (j := 2) rfl ?_
  refine r_iconst hC dX9_lowest_17 (v := 5) (by decide) ?_
  refine r_irem hC dX9_lowest_18 (by decide) ?_
  rw [show (12 - 12 / 5 * 5 : Int32) = 2 from by decide]
  refine r_if_le hC dX9_lowest_19 (tgt := 31) (by decide) (fun h => absurd h (by decide)) (fun _ => ?_)
  refine r_aload_n hC dX9_lowest_22 rfl (j := 1) rfl ?_
  refine r_iload_n hC dX9_lowest_23 rfl (j := 0) rfl ?_
  refine r_iload_n hC dX9_lowest_24 rfl (j := 2) rfl ?_
  refine r_iconst hC dX9_lowest_25 (v := 1) (by decide) ?_
  refine r_isub hC dX9_lowest_26 ?_
  rw [show (12 - 1 : Int32) = 11 from by decide]
  refine r_callV hC (vs := [.int (nI 7), .int 11]) vX9_lowest_27 (sm_lower (d := d) (a := 7) (b := 11) hm hv h25 (by decide) (by decide)) hm rfl rfl (by omega) (by omega) (by omega) (Nat.le_of_ble_eq_true rfl) (fun v_2 w_2 hP_2 hlen_2 => ?_) (fun _ _ h => h.elim)
  rw [hP_2.1, hP_2.2]
  show Wp X 0 0 w [(2, .int (nI 7)), (0, .ref m), (1, .int 12)] [.int (nI (hPick f 7 11))] 30
  refine r_istore_n hC dX9_lowest_30 rfl (by rw [hnl]; decide) (L' := [(2, .int (nI (hPick f 7 11))), (0, .ref m), (1, .int 12)]) rfl ?_
  refine r_iload_n hC dX9_lowest_31 rfl (j := 2) rfl ?_
  refine r_iconst hC dX9_lowest_32 (v := 5) (by decide) ?_
  refine r_irem hC dX9_lowest_33 (by decide) ?_
  rw [show (12 - 12 / 5 * 5 : Int32) = 2 from by decide]
  refine r_iconst hC dX9_lowest_34 (v := 4) (by decide) ?_
  refine r_icmp_ge hC dX9_lowest_35 (tgt := 47) (by decide) (fun h => absurd h (by decide)) (fun _ => ?_)
  refine r_aload_n hC dX9_lowest_38 rfl (j := 1) rfl ?_
  refine r_iload_n hC dX9_lowest_39 rfl (j := 0) rfl ?_
  refine r_iload_n hC dX9_lowest_40 rfl (j := 2) rfl ?_
  refine r_iconst hC dX9_lowest_41 (v := 1) (by decide) ?_
  refine r_iadd hC dX9_lowest_42 ?_
  rw [show (12 + 1 : Int32) = 13 from by decide]
  refine r_callV hC (vs := [.int (nI (hPick f 7 11)), .int 13]) vX9_lowest_43 (sm_lower (d := d) (a := (hPick f 7 11)) (b := 13) hm hv h25 (hPick_lt (by decide) (by decide)) (by decide)) hm rfl rfl (by omega) (by omega) (by omega) (Nat.le_of_ble_eq_true rfl) (fun v_3 w_3 hP_3 hlen_3 => ?_) (fun _ _ h => h.elim)
  rw [hP_3.1, hP_3.2]
  show Wp X 0 0 w [(2, .int (nI (hPick f 7 11))), (0, .ref m), (1, .int 12)] [.int (nI (hPick f (hPick f 7 11) 13))] 46
  refine r_istore_n hC dX9_lowest_46 rfl (by rw [hnl]; decide) (L' := [(2, .int (nI (hPick f (hPick f 7 11) 13))), (0, .ref m), (1, .int 12)]) rfl ?_
  refine r_iload_n hC dX9_lowest_47 rfl (j := 2) rfl ?_
  refine r_bipush hC dX9_lowest_48 (v := 20) (by decide) ?_
  refine r_icmp_ge hC dX9_lowest_50 (tgt := 62) (by decide) (fun h => absurd h (by decide)) (fun _ => ?_)
  refine r_aload_n hC dX9_lowest_53 rfl (j := 1) rfl ?_
  refine r_iload_n hC dX9_lowest_54 rfl (j := 0) rfl ?_
  refine r_iload_n hC dX9_lowest_55 rfl (j := 2) rfl ?_
  refine r_iconst hC dX9_lowest_56 (v := 5) (by decide) ?_
  refine r_iadd hC dX9_lowest_57 ?_
  rw [show (12 + 5 : Int32) = 17 from by decide]
  refine r_callV hC (vs := [.int (nI (hPick f (hPick f 7 11) 13)), .int 17]) vX9_lowest_58 (sm_lower (d := d) (a := (hPick f (hPick f 7 11) 13)) (b := 17) hm hv h25 (hPick_lt (hPick_lt (by decide) (by decide)) (by decide)) (by decide)) hm rfl rfl (by omega) (by omega) (by omega) (Nat.le_of_ble_eq_true rfl) (fun v_4 w_4 hP_4 hlen_4 => ?_) (fun _ _ h => h.elim)
  rw [hP_4.1, hP_4.2]
  show Wp X 0 0 w [(2, .int (nI (hPick f (hPick f 7 11) 13))), (0, .ref m), (1, .int 12)] [.int (nI (hPick f (hPick f (hPick f 7 11) 13) 17))] 61
  refine r_istore_n hC dX9_lowest_61 rfl (by rw [hnl]; decide) (L' := [(2, .int (nI (hPick f (hPick f (hPick f 7 11) 13) 17))), (0, .ref m), (1, .int 12)]) rfl ?_
  refine r_aload_n hC dX9_lowest_62 rfl (j := 1) rfl ?_
  refine r_get hC gX9_lowest_63 hm (v := .ref (m + 1)) rfl ?_
  refine r_iconst hC dX9_lowest_66 (v := 2) (by decide) ?_
  refine r_iald hC dX9_lowest_67 (j := 2) hv ⟨by decide, by decide, by decide⟩ ?_
  rw [show enc ((f, g, sl, op, lo), hd, rs, np, tp, av, lg, pl, tk) 2 = op from rfl]
  refine r_iconst hC dX9_lowest_68 (v := 1) (by decide) ?_
  refine r_icmp_ne hC dX9_lowest_69 (tgt := 89) (by decide) (fun c69 => ?_) (fun c69 => ?_)
  · refine r_iload_n hC dX9_lowest_89 rfl (j := 0) rfl ?_
    refine r_iret hC hE hR dX9_lowest_90 (by omega) (by omega) (rfl) ?_
    have o9 : op = 0 := hop.resolve_right c69
    have e9 : hLow f op 12 = (hPick f (hPick f (hPick f 7 11) 13) 17) := by
      unfold hLow
      rw [lowStep_in (n := 17) (c := 12) (s := 3) (by decide) (by decide), lowStep_in (n := 13) (c := 12) (s := 2) (by decide) (by decide), lowStep_in (n := 11) (c := 12) (s := 1) (by decide) (by decide)]
      rfl
    exact ⟨by rw [e9], rfl⟩
  · refine r_iload_n hC dX9_lowest_72 rfl (j := 2) rfl ?_
    refine r_callS hC (vs := [.int 12]) vX9_lowest_73 (sm_edge12 (d := d + 1)) rfl (by omega) (by omega) (by omega) (Nat.le_of_ble_eq_true rfl) (fun v_5 w_5 hP_5 hlen_5 => ?_) (fun _ _ h => h.elim)
    rw [hP_5.1, hP_5.2]
    show Wp X 0 0 w [(2, .int (nI (hPick f (hPick f (hPick f 7 11) 13) 17))), (0, .ref m), (1, .int 12)] [.int 0] 76
    refine r_if_eq hC dX9_lowest_76 (tgt := 89) (by decide) (fun _ => ?_) (fun h => absurd (by decide) h)
    refine r_iload_n hC dX9_lowest_89 rfl (j := 0) rfl ?_
    refine r_iret hC hE hR dX9_lowest_90 (by omega) (by omega) (rfl) ?_
    have o9 : op = 1 := c69
    have e9 : hLow f op 12 = (hPick f (hPick f (hPick f 7 11) 13) 17) := by
      unfold hLow
      rw [lowStep_in (n := 17) (c := 12) (s := 3) (by decide) (by decide), lowStep_in (n := 13) (c := 12) (s := 2) (by decide) (by decide), lowStep_in (n := 11) (c := 12) (s := 1) (by decide) (by decide)]
      rfl
    exact ⟨by rw [e9], rfl⟩
set_option maxRecDepth 100000 in
set_option maxHeartbeats 4000000 in
theorem sm_lowest13 {d : Nat} {w : mW} {m : Nat} {th ch ea fa sv0 tn he en ln iw id0 : Int32} {f g : Nat → Int32} {sl op lo : Int32} {hd rs : Nat → Int32} {np : Nat} {tp av lg pl tk : Int32} (hm : w[m]? = some (mO 10 [.int th, .int ch, .int ea, .int fa, .int sv0, .ref (m + 1), .ref (m + 2), .ref (m + 3), .ref (m + 4), .ref (m + 5), .ref (m + 6), .ref (m + 7), .ref (m + 8), .ref (m + 9), .ref (m + 10), .int tn, .int he, .int en, .int ln, .int iw, .int id0])) (hv : w[m + 1]? = some (mI 0 67 (enc ((f, g, sl, op, lo), hd, rs, np, tp, av, lg, pl, tk)))) (h25 : f 25 = 0) (hop : op = 0 ∨ op = 1) : Sp (d + 2) yX9_lowest cX9_lowest 3 (some .int) [.ref m, .int 13] w 0 0 (fun v w' => v = some (.int (nI (hLow f op 13))) ∧ w' = w) noX := by
  refine Sp.of (by decide +kernel) (Nat.le_of_ble_eq_true rfl) (fun X hC hnl hE hR hN => ?_)
  have hC : Cx X RX9 cX9_lowest (d + 2) 0 0 := hC
  show Wp X 0 0 w [(0, .ref m), (1, .int 13)] [] 0
  refine r_iconst hC dX9_lowest_0 (v := (-1)) (by decide) ?_
  refine r_istore_n hC dX9_lowest_1 rfl (by rw [hnl]; decide) (L' := [(2, .int (-1)), (0, .ref m), (1, .int 13)]) rfl ?_
  refine r_iload_n hC dX9_lowest_2 rfl (j := 2) rfl ?_
  refine r_iconst hC dX9_lowest_3 (v := 5) (by decide) ?_
  refine r_icmp_lt hC dX9_lowest_4 (tgt := 16) (by decide) (fun h => absurd h (by decide)) (fun _ => ?_)
  refine r_aload_n hC dX9_lowest_7 rfl (j := 1) rfl ?_
  refine r_iload_n hC dX9_lowest_8 rfl (j := 0) rfl ?_
  refine r_iload_n hC dX9_lowest_9 rfl (j := 2) rfl ?_
  refine r_iconst hC dX9_lowest_10 (v := 5) (by decide) ?_
  refine r_isub hC dX9_lowest_11 ?_
  rw [show (13 - 5 : Int32) = 8 from by decide]
  refine r_callV hC (vs := [.int (-1), .int 8]) vX9_lowest_12 (sm_lower0 (d := d) (b := 8) hm hv) hm rfl rfl (by omega) (by omega) (by omega) (Nat.le_of_ble_eq_true rfl) (fun v_1 w_1 hP_1 hlen_1 => ?_) (fun _ _ h => h.elim)
  rw [hP_1.1, hP_1.2]
  show Wp X 0 0 w [(2, .int (-1)), (0, .ref m), (1, .int 13)] [.int (nI 8)] 15
  refine r_istore_n hC dX9_lowest_15 rfl (by rw [hnl]; decide) (L' := [(2, .int (nI 8)), (0, .ref m), (1, .int 13)]) rfl ?_
  refine r_iload_n hC dX9_lowest_16 rfl (j := 2) rfl ?_
  refine r_iconst hC dX9_lowest_17 (v := 5) (by decide) ?_
  refine r_irem hC dX9_lowest_18 (by decide) ?_
  rw [show (13 - 13 / 5 * 5 : Int32) = 3 from by decide]
  refine r_if_le hC dX9_lowest_19 (tgt := 31) (by decide) (fun h => absurd h (by decide)) (fun _ => ?_)
  refine r_aload_n hC dX9_lowest_22 rfl (j := 1) rfl ?_
  refine r_iload_n hC dX9_lowest_23 rfl (j := 0) rfl ?_
  refine r_iload_n hC dX9_lowest_24 rfl (j := 2) rfl ?_
  refine r_iconst hC dX9_lowest_25 (v := 1) (by decide) ?_
  refine r_isub hC dX9_lowest_26 ?_
  rw [show (13 - 1 : Int32) = 12 from by decide]
  refine r_callV hC (vs := [.int (nI 8), .int 12]) vX9_lowest_27 (sm_lower (d := d) (a := 8) (b := 12) hm hv h25 (by decide) (by decide)) hm rfl rfl (by omega) (by omega) (by omega) (Nat.le_of_ble_eq_true rfl) (fun v_2 w_2 hP_2 hlen_2 => ?_) (fun _ _ h => h.elim)
  rw [hP_2.1, hP_2.2]
  show Wp X 0 0 w [(2, .int (nI 8)), (0, .ref m), (1, .int 13)] [.int (nI (hPick f 8 12))] 30
  refine r_istore_n hC dX9_lowest_30 rfl (by rw [hnl]; decide) (L' := [(2, .int (nI (hPick f 8 12))), (0, .ref m), (1, .int 13)]) rfl ?_
  refine r_iload_n hC dX9_lowest_31 rfl (j := 2) rfl ?_
  refine r_iconst hC dX9_lowest_32 (v := 5) (by decide) ?_
  refine r_irem hC dX9_lowest_33 (by decide) ?_
  rw [show (13 - 13 / 5 * 5 : Int32) = 3 from by decide]
  refine r_iconst hC dX9_lowest_34 (v := 4) (by decide) ?_
  refine r_icmp_ge hC dX9_lowest_35 (tgt := 47) (by decide) (fun h => absurd h (by decide)) (fun _ => ?_)
  refine r_aload_n hC dX9_lowest_38 rfl (j := 1) rfl ?_
  refine r_iload_n hC dX9_lowest_39 rfl (j := 0) rfl ?_
  refine r_iload_n hC dX9_lowest_40 rfl (j := 2) rfl ?_
  refine r_iconst hC dX9_lowest_41 (v := 1) (by decide) ?_
  refine r_iadd hC dX9_lowest_42 ?_
  rw [show (13 + 1 : Int32) = 14 from by decide]
  refine r_callV hC (vs := [.int (nI (hPick f 8 12)), .int 14]) vX9_lowest_43 (sm_lower (d := d) (a := (hPick f 8 12)) (b := 14) hm hv h25 (hPick_lt (by decide) (by decide)) (by decide)) hm rfl rfl (by omega) (by omega) (by omega) (Nat.le_of_ble_eq_true rfl) (fun v_3 w_3 hP_3 hlen_3 => ?_) (fun _ _ h => h.elim)
  rw [hP_3.1, hP_3.2]
  show Wp X 0 0 w [(2, .int (nI (hPick f 8 12))), (0, .ref m), (1, .int 13)] [.int (nI (hPick f (hPick f 8 12) 14))] 46
  refine r_istore_n hC dX9_lowest_46 rfl (by rw [hnl]; decide) (L' := [(2, .int (nI (hPick f (hPick f 8 12) 14))), (0, .ref m), (1, .int 13)]) rfl ?_
  refine r_iload_n hC dX9_lowest_47 rfl (j := 2) rfl ?_
  refine r_bipush hC dX9_lowest_48 (v := 20) (by decide) ?_
  refine r_icmp_ge hC dX9_lowest_50 (tgt := 62) (by decide) (fun h => absurd h (by decide)) (fun _ => ?_)
  refine r_aload_n hC dX9_lowest_53 rfl (j := 1) rfl ?_
  refine r_iload_n hC dX9_lowest_54 rfl (j := 0) rfl ?_
  refine r_iload_n hC dX9_lowest_55 rfl (j := 2) rfl ?_
  refine r_iconst hC dX9_lowest_56 (v := 5) (by decide) ?_
  refine r_iadd hC dX9_lowest_57 ?_
  rw [show (13 + 5 : Int32) = 18 from by decide]
  refine r_callV hC (vs := [.int (nI (hPick f (hPick f 8 12) 14)), .int 18]) vX9_lowest_58 (sm_lower (d := d) (a := (hPick f (hPick f 8 12) 14)) (b := 18) hm hv h25 (hPick_lt (hPick_lt (by decide) (by decide)) (by decide)) (by decide)) hm rfl rfl (by omega) (by omega) (by omega) (Nat.le_of_ble_eq_true rfl) (fun v_4 w_4 hP_4 hlen_4 => ?_) (fun _ _ h => h.elim)
  rw [hP_4.1, hP_4.2]
  show Wp X 0 0 w [(2, .int (nI (hPick f (hPick f 8 12) 14))), (0, .ref m), (1, .int 13)] [.int (nI (hPick f (hPick f (hPick f 8 12) 14) 18))] 61
  refine r_istore_n hC dX9_lowest_61 rfl (by rw [hnl]; decide) (L' := [(2, .int (nI (hPick f (hPick f (hPick f 8 12) 14) 18))), (0, .ref m), (1, .int 13)]) rfl ?_
  refine r_aload_n hC dX9_lowest_62 rfl (j := 1) rfl ?_
  refine r_get hC gX9_lowest_63 hm (v := .ref (m + 1)) rfl ?_
  refine r_iconst hC dX9_lowest_66 (v := 2) (by decide) ?_
  refine r_iald hC dX9_lowest_67 (j := 2) hv ⟨by decide, by decide, by decide⟩ ?_
  rw [show enc ((f, g, sl, op, lo), hd, rs, np, tp, av, lg, pl, tk) 2 = op from rfl]
  refine r_iconst hC dX9_lowest_68 (v := 1) (by decide) ?_
  refine r_icmp_ne hC dX9_lowest_69 (tgt := 89) (by decide) (fun c69 => ?_) (fun c69 => ?_)
  · refine r_iload_n hC dX9_lowest_89 rfl (j := 0) rfl ?_
    refine r_iret hC hE hR dX9_lowest_90 (by omega) (by omega) (rfl) ?_
    have o9 : op = 0 := hop.resolve_right c69
    have e9 : hLow f op 13 = (hPick f (hPick f (hPick f 8 12) 14) 18) := by
      unfold hLow
      rw [lowStep_in (n := 18) (c := 13) (s := 3) (by decide) (by decide), lowStep_in (n := 14) (c := 13) (s := 2) (by decide) (by decide), lowStep_in (n := 12) (c := 13) (s := 1) (by decide) (by decide)]
      rfl
    exact ⟨by rw [e9], rfl⟩
  · refine r_iload_n hC dX9_lowest_72 rfl (j := 2) rfl ?_
    refine r_callS hC (vs := [.int 13]) vX9_lowest_73 (sm_edge13 (d := d + 1)) rfl (by omega) (by omega) (by omega) (Nat.le_of_ble_eq_true rfl) (fun v_5 w_5 hP_5 hlen_5 => ?_) (fun _ _ h => h.elim)
    rw [hP_5.1, hP_5.2]
    show Wp X 0 0 w [(2, .int (nI (hPick f (hPick f (hPick f 8 12) 14) 18))), (0, .ref m), (1, .int 13)] [.int 0] 76
    refine r_if_eq hC dX9_lowest_76 (tgt := 89) (by decide) (fun _ => ?_) (fun h => absurd (by decide) h)
    refine r_iload_n hC dX9_lowest_89 rfl (j := 0) rfl ?_
    refine r_iret hC hE hR dX9_lowest_90 (by omega) (by omega) (rfl) ?_
    have o9 : op = 1 := c69
    have e9 : hLow f op 13 = (hPick f (hPick f (hPick f 8 12) 14) 18) := by
      unfold hLow
      rw [lowStep_in (n := 18) (c := 13) (s := 3) (by decide) (by decide), lowStep_in (n := 14) (c := 13) (s := 2) (by decide) (by decide), lowStep_in (n := 12) (c := 13) (s := 1) (by decide) (by decide)]
      rfl
    exact ⟨by rw [e9], rfl⟩
set_option maxRecDepth 100000 in
set_option maxHeartbeats 4000000 in
theorem sm_lowest14 {d : Nat} {w : mW} {m : Nat} {th ch ea fa sv0 tn he en ln iw id0 : Int32} {f g : Nat → Int32} {sl op lo : Int32} {hd rs : Nat → Int32} {np : Nat} {tp av lg pl tk : Int32} (hm : w[m]? = some (mO 10 [.int th, .int ch, .int ea, .int fa, .int sv0, .ref (m + 1), .ref (m + 2), .ref (m + 3), .ref (m + 4), .ref (m + 5), .ref (m + 6), .ref (m + 7), .ref (m + 8), .ref (m + 9), .ref (m + 10), .int tn, .int he, .int en, .int ln, .int iw, .int id0])) (hv : w[m + 1]? = some (mI 0 67 (enc ((f, g, sl, op, lo), hd, rs, np, tp, av, lg, pl, tk)))) (h25 : f 25 = 0) (hop : op = 0 ∨ op = 1) : Sp (d + 2) yX9_lowest cX9_lowest 3 (some .int) [.ref m, .int 14] w 0 0 (fun v w' => v = some (.int (nI (hLow f op 14))) ∧ w' = w) noX := by
  refine Sp.of (by decide +kernel) (Nat.le_of_ble_eq_true rfl) (fun X hC hnl hE hR hN => ?_)
  have hC : Cx X RX9 cX9_lowest (d + 2) 0 0 := hC
  show Wp X 0 0 w [(0, .ref m), (1, .int 14)] [] 0
  refine r_iconst hC dX9_lowest_0 (v := (-1)) (by decide) ?_
  refine r_istore_n hC dX9_lowest_1 rfl (by rw [hnl]; decide) (L' := [(2, .int (-1)), (0, .ref m), (1, .int 14)]) rfl ?_
  refine r_iload_n hC dX9_lowest_2 rfl (j := 2) rfl ?_
  refine r_iconst hC dX9_lowest_3 (v := 5) (by decide) ?_
  refine r_icmp_lt hC dX9_lowest_4 (tgt := 16) (by decide) (fun h => absurd h (by decide)) (fun _ => ?_)
  refine r_aload_n hC dX9_lowest_7 rfl (j := 1) rfl ?_
  refine r_iload_n hC dX9_lowest_8 rfl (j := 0) rfl ?_
  refine r_iload_n hC dX9_lowest_9 rfl (j := 2) rfl ?_
  refine r_iconst hC dX9_lowest_10 (v := 5) (by decide) ?_
  refine r_isub hC dX9_lowest_11 ?_
  rw [show (14 - 5 : Int32) = 9 from by decide]
  refine r_callV hC (vs := [.int (-1), .int 9]) vX9_lowest_12 (sm_lower0 (d := d) (b := 9) hm hv) hm rfl rfl (by omega) (by omega) (by omega) (Nat.le_of_ble_eq_true rfl) (fun v_1 w_1 hP_1 hlen_1 => ?_) (fun _ _ h => h.elim)
  rw [hP_1.1, hP_1.2]
  show Wp X 0 0 w [(2, .int (-1)), (0, .ref m), (1, .int 14)] [.int (nI 9)] 15
  refine r_istore_n hC dX9_lowest_15 rfl (by rw [hnl]; decide) (L' := [(2, .int (nI 9)), (0, .ref m), (1, .int 14)]) rfl ?_
  refine r_iload_n hC dX9_lowest_16 rfl (j := 2) rfl ?_
  refine r_iconst hC dX9_lowest_17 (v := 5) (by decide) ?_
  refine r_irem hC dX9_lowest_18 (by decide) ?_
  rw [show (14 - 14 / 5 * 5 : Int32) = 4 from by decide]
  refine r_if_le hC dX9_lowest_19 (tgt := 31) (by decide) (fun h => absurd h (by decide)) (fun _ => ?_)
  refine r_aload_n hC dX9_lowest_22 rfl (j := 1) rfl ?_
  refine r_iload_n hC dX9_lowest_23 rfl (j := 0) rfl ?_
  refine r_iload_n hC dX9_lowest_24 rfl (j := 2) rfl ?_
  refine r_iconst hC dX9_lowest_25 (v := 1) (by decide) ?_
  refine r_isub hC dX9_lowest_26 ?_
  rw [show (14 - 1 : Int32) = 13 from by decide]
  refine r_callV hC (vs := [.int (nI 9), .int 13]) vX9_lowest_27 (sm_lower (d := d) (a := 9) (b := 13) hm hv h25 (by decide) (by decide)) hm rfl rfl (by omega) (by omega) (by omega) (Nat.le_of_ble_eq_true rfl) (fun v_2 w_2 hP_2 hlen_2 => ?_) (fun _ _ h => h.elim)
  rw [hP_2.1, hP_2.2]
  show Wp X 0 0 w [(2, .int (nI 9)), (0, .ref m), (1, .int 14)] [.int (nI (hPick f 9 13))] 30
  refine r_istore_n hC dX9_lowest_30 rfl (by rw [hnl]; decide) (L' := [(2, .int (nI (hPick f 9 13))), (0, .ref m), (1, .int 14)]) rfl ?_
  refine r_iload_n hC dX9_lowest_31 rfl (j := 2) rfl ?_
  refine r_iconst hC dX9_lowest_32 (v := 5) (by decide) ?_
  refine r_irem hC dX9_lowest_33 (by decide) ?_
  rw [show (14 - 14 / 5 * 5 : Int32) = 4 from by decide]
  refine r_iconst hC dX9_lowest_34 (v := 4) (by decide) ?_
  refine r_icmp_ge hC dX9_lowest_35 (tgt := 47) (by decide) (fun _ => ?_) (fun h => absurd (by decide) h)
  refine r_iload_n hC dX9_lowest_47 rfl (j := 2) rfl ?_
  refine r_bipush hC dX9_lowest_48 (v := 20) (by decide) ?_
  refine r_icmp_ge hC dX9_lowest_50 (tgt := 62) (by decide) (fun h => absurd h (by decide)) (fun _ => ?_)
  refine r_aload_n hC dX9_lowest_53 rfl (j := 1) rfl ?_
  refine r_iload_n hC dX9_lowest_54 rfl (j := 0) rfl ?_
  refine r_iload_n hC dX9_lowest_55 rfl (j := 2) rfl ?_
  refine r_iconst hC dX9_lowest_56 (v := 5) (by decide) ?_
  refine r_iadd hC dX9_lowest_57 ?_
  rw [show (14 + 5 : Int32) = 19 from by decide]
  refine r_callV hC (vs := [.int (nI (hPick f 9 13)), .int 19]) vX9_lowest_58 (sm_lower (d := d) (a := (hPick f 9 13)) (b := 19) hm hv h25 (hPick_lt (by decide) (by decide)) (by decide)) hm rfl rfl (by omega) (by omega) (by omega) (Nat.le_of_ble_eq_true rfl) (fun v_3 w_3 hP_3 hlen_3 => ?_) (fun _ _ h => h.elim)
  rw [hP_3.1, hP_3.2]
  show Wp X 0 0 w [(2, .int (nI (hPick f 9 13))), (0, .ref m), (1, .int 14)] [.int (nI (hPick f (hPick f 9 13) 19))] 61
  refine r_istore_n hC dX9_lowest_61 rfl (by rw [hnl]; decide) (L' := [(2, .int (nI (hPick f (hPick f 9 13) 19))), (0, .ref m), (1, .int 14)]) rfl ?_
  refine r_aload_n hC dX9_lowest_62 rfl (j := 1) rfl ?_
  refine r_get hC gX9_lowest_63 hm (v := .ref (m + 1)) rfl ?_
  refine r_iconst hC dX9_lowest_66 (v := 2) (by decide) ?_
  refine r_iald hC dX9_lowest_67 (j := 2) hv ⟨by decide, by decide, by decide⟩ ?_
  rw [show enc ((f, g, sl, op, lo), hd, rs, np, tp, av, lg, pl, tk) 2 = op from rfl]
  refine r_iconst hC dX9_lowest_68 (v := 1) (by decide) ?_
  refine r_icmp_ne hC dX9_lowest_69 (tgt := 89) (by decide) (fun c69 => ?_) (fun c69 => ?_)
  · refine r_iload_n hC dX9_lowest_89 rfl (j := 0) rfl ?_
    refine r_iret hC hE hR dX9_lowest_90 (by omega) (by omega) (rfl) ?_
    have o9 : op = 0 := hop.resolve_right c69
    have e9 : hLow f op 14 = (hPick f (hPick f 9 13) 19) := by
      unfold hLow
      rw [lowStep_o0 (c := 14) (s := 3) (by decide) o9, lowStep_in (n := 19) (c := 14) (s := 2) (by decide) (by decide), lowStep_in (n := 13) (c := 14) (s := 1) (by decide) (by decide)]
      rfl
    exact ⟨by rw [e9], rfl⟩
  · refine r_iload_n hC dX9_lowest_72 rfl (j := 2) rfl ?_
    refine r_callS hC (vs := [.int 14]) vX9_lowest_73 (sm_edge14 (d := d + 1)) rfl (by omega) (by omega) (by omega) (Nat.le_of_ble_eq_true rfl) (fun v_4 w_4 hP_4 hlen_4 => ?_) (fun _ _ h => h.elim)
    rw [hP_4.1, hP_4.2]
    show Wp X 0 0 w [(2, .int (nI (hPick f (hPick f 9 13) 19))), (0, .ref m), (1, .int 14)] [.int 1] 76
    refine r_if_eq hC dX9_lowest_76 (tgt := 89) (by decide) (fun h => absurd h (by decide)) (fun _ => ?_)
    refine r_aload_n hC dX9_lowest_79 rfl (j := 1) rfl ?_
    refine r_iload_n hC dX9_lowest_80 rfl (j := 0) rfl ?_
    refine r_bipush hC dX9_lowest_81 (v := 25) (by decide) ?_
    refine r_callV hC (vs := [.int (nI (hPick f (hPick f 9 13) 19)), .int 25]) vX9_lowest_83 (sm_lower (d := d) (a := (hPick f (hPick f 9 13) 19)) (b := 25) hm hv h25 (hPick_lt (hPick_lt (by decide) (by decide)) (by decide)) (by decide)) hm rfl rfl (by omega) (by omega) (by omega) (Nat.le_of_ble_eq_true rfl) (fun v_5 w_5 hP_5 hlen_5 => ?_) (fun _ _ h => h.elim)
    rw [hP_5.1, hP_5.2]
    show Wp X 0 0 w [(2, .int (nI (hPick f (hPick f 9 13) 19))), (0, .ref m), (1, .int 14)] [.int (nI (hPick f (hPick f (hPick f 9 13) 19) 25))] 86
    refine r_goto hC dX9_lowest_86 (tgt := 90) (by decide) ?_
    refine r_iret hC hE hR dX9_lowest_90 (by omega) (by omega) (rfl) ?_
    have o9 : op = 1 := c69
    have e9 : hLow f op 14 = (hPick f (hPick f (hPick f 9 13) 19) 25) := by
      unfold hLow
      rw [lowStep_o1 (c := 14) (s := 3) (by decide) o9, lowStep_in (n := 19) (c := 14) (s := 2) (by decide) (by decide), lowStep_in (n := 13) (c := 14) (s := 1) (by decide) (by decide)]
      rfl
    exact ⟨by rw [e9], rfl⟩
set_option maxRecDepth 100000 in
set_option maxHeartbeats 4000000 in
theorem sm_lowest15 {d : Nat} {w : mW} {m : Nat} {th ch ea fa sv0 tn he en ln iw id0 : Int32} {f g : Nat → Int32} {sl op lo : Int32} {hd rs : Nat → Int32} {np : Nat} {tp av lg pl tk : Int32} (hm : w[m]? = some (mO 10 [.int th, .int ch, .int ea, .int fa, .int sv0, .ref (m + 1), .ref (m + 2), .ref (m + 3), .ref (m + 4), .ref (m + 5), .ref (m + 6), .ref (m + 7), .ref (m + 8), .ref (m + 9), .ref (m + 10), .int tn, .int he, .int en, .int ln, .int iw, .int id0])) (hv : w[m + 1]? = some (mI 0 67 (enc ((f, g, sl, op, lo), hd, rs, np, tp, av, lg, pl, tk)))) (h25 : f 25 = 0) (hop : op = 0 ∨ op = 1) : Sp (d + 2) yX9_lowest cX9_lowest 3 (some .int) [.ref m, .int 15] w 0 0 (fun v w' => v = some (.int (nI (hLow f op 15))) ∧ w' = w) noX := by
  refine Sp.of (by decide +kernel) (Nat.le_of_ble_eq_true rfl) (fun X hC hnl hE hR hN => ?_)
  have hC : Cx X RX9 cX9_lowest (d + 2) 0 0 := hC
  show Wp X 0 0 w [(0, .ref m), (1, .int 15)] [] 0
  refine r_iconst hC dX9_lowest_0 (v := (-1)) (by decide) ?_
  refine r_istore_n hC dX9_lowest_1 rfl (by rw [hnl]; decide) (L' := [(2, .int (-1)), (0, .ref m), (1, .int 15)]) rfl ?_
  refine r_iload_n hC dX9_lowest_2 rfl (j := 2) rfl ?_
  refine r_iconst hC dX9_lowest_3 (v := 5) (by decide) ?_
  refine r_icmp_lt hC dX9_lowest_4 (tgt := 16) (by decide) (fun h => absurd h (by decide)) (fun _ => ?_)
  refine r_aload_n hC dX9_lowest_7 rfl (j := 1) rfl ?_
  refine r_iload_n hC dX9_lowest_8 rfl (j := 0) rfl ?_
  refine r_iload_n hC dX9_lowest_9 rfl (j := 2) rfl ?_
  refine r_iconst hC dX9_lowest_10 (v := 5) (by decide) ?_
  refine r_isub hC dX9_lowest_11 ?_
  rw [show (15 - 5 : Int32) = 10 from by decide]
  refine r_callV hC (vs := [.int (-1), .int 10]) vX9_lowest_12 (sm_lower0 (d := d) (b := 10) hm hv) hm rfl rfl (by omega) (by omega) (by omega) (Nat.le_of_ble_eq_true rfl) (fun v_1 w_1 hP_1 hlen_1 => ?_) (fun _ _ h => h.elim)
  rw [hP_1.1, hP_1.2]
  show Wp X 0 0 w [(2, .int (-1)), (0, .ref m), (1, .int 15)] [.int (nI 10)] 15
  refine r_istore_n hC dX9_lowest_15 rfl (by rw [hnl]; decide) (L' := [(2, .int (nI 10)), (0, .ref m), (1, .int 15)]) rfl ?_
  refine r_iload_n hC dX9_lowest_16 rfl (j := 2) rfl ?_
  refine r_iconst hC dX9_lowest_17 (v := 5) (by decide) ?_
  refine r_irem hC dX9_lowest_18 (by decide) ?_
  rw [show (15 - 15 / 5 * 5 : Int32) = 0 from by decide]
  refine r_if_le hC dX9_lowest_19 (tgt := 31) (by decide) (fun _ => ?_) (fun h => absurd (by decide) h)
  refine r_iload_n hC dX9_lowest_31 rfl (j := 2) rfl ?_
  refine r_iconst hC dX9_lowest_32 (v := 5) (by decide) ?_
  refine r_irem hC dX9_lowest_33 (by decide) ?_
  rw [show (15 - 15 / 5 * 5 : Int32) = 0 from by decide]
  refine r_iconst hC dX9_lowest_34 (v := 4) (by decide) ?_
  refine r_icmp_ge hC dX9_lowest_35 (tgt := 47) (by decide) (fun h => absurd h (by decide)) (fun _ => ?_)
  refine r_aload_n hC dX9_lowest_38 rfl (j := 1) rfl ?_
  refine r_iload_n hC dX9_lowest_39 rfl (j := 0) rfl ?_
  refine r_iload_n hC dX9_lowest_40 rfl (j := 2) rfl ?_
  refine r_iconst hC dX9_lowest_41 (v := 1) (by decide) ?_
  refine r_iadd hC dX9_lowest_42 ?_
  rw [show (15 + 1 : Int32) = 16 from by decide]
  refine r_callV hC (vs := [.int (nI 10), .int 16]) vX9_lowest_43 (sm_lower (d := d) (a := 10) (b := 16) hm hv h25 (by decide) (by decide)) hm rfl rfl (by omega) (by omega) (by omega) (Nat.le_of_ble_eq_true rfl) (fun v_2 w_2 hP_2 hlen_2 => ?_) (fun _ _ h => h.elim)
  rw [hP_2.1, hP_2.2]
  show Wp X 0 0 w [(2, .int (nI 10)), (0, .ref m), (1, .int 15)] [.int (nI (hPick f 10 16))] 46
  refine r_istore_n hC dX9_lowest_46 rfl (by rw [hnl]; decide) (L' := [(2, .int (nI (hPick f 10 16))), (0, .ref m), (1, .int 15)]) rfl ?_
  refine r_iload_n hC dX9_lowest_47 rfl (j := 2) rfl ?_
  refine r_bipush hC dX9_lowest_48 (v := 20) (by decide) ?_
  refine r_icmp_ge hC dX9_lowest_50 (tgt := 62) (by decide) (fun h => absurd h (by decide)) (fun _ => ?_)
  refine r_aload_n hC dX9_lowest_53 rfl (j := 1) rfl ?_
  refine r_iload_n hC dX9_lowest_54 rfl (j := 0) rfl ?_
  refine r_iload_n hC dX9_lowest_55 rfl (j := 2) rfl ?_
  refine r_iconst hC dX9_lowest_56 (v := 5) (by decide) ?_
  refine r_iadd hC dX9_lowest_57 ?_
  rw [show (15 + 5 : Int32) = 20 from by decide]
  refine r_callV hC (vs := [.int (nI (hPick f 10 16)), .int 20]) vX9_lowest_58 (sm_lower (d := d) (a := (hPick f 10 16)) (b := 20) hm hv h25 (hPick_lt (by decide) (by decide)) (by decide)) hm rfl rfl (by omega) (by omega) (by omega) (Nat.le_of_ble_eq_true rfl) (fun v_3 w_3 hP_3 hlen_3 => ?_) (fun _ _ h => h.elim)
  rw [hP_3.1, hP_3.2]
  show Wp X 0 0 w [(2, .int (nI (hPick f 10 16))), (0, .ref m), (1, .int 15)] [.int (nI (hPick f (hPick f 10 16) 20))] 61
  refine r_istore_n hC dX9_lowest_61 rfl (by rw [hnl]; decide) (L' := [(2, .int (nI (hPick f (hPick f 10 16) 20))), (0, .ref m), (1, .int 15)]) rfl ?_
  refine r_aload_n hC dX9_lowest_62 rfl (j := 1) rfl ?_
  refine r_get hC gX9_lowest_63 hm (v := .ref (m + 1)) rfl ?_
  refine r_iconst hC dX9_lowest_66 (v := 2) (by decide) ?_
  refine r_iald hC dX9_lowest_67 (j := 2) hv ⟨by decide, by decide, by decide⟩ ?_
  rw [show enc ((f, g, sl, op, lo), hd, rs, np, tp, av, lg, pl, tk) 2 = op from rfl]
  refine r_iconst hC dX9_lowest_68 (v := 1) (by decide) ?_
  refine r_icmp_ne hC dX9_lowest_69 (tgt := 89) (by decide) (fun c69 => ?_) (fun c69 => ?_)
  · refine r_iload_n hC dX9_lowest_89 rfl (j := 0) rfl ?_
    refine r_iret hC hE hR dX9_lowest_90 (by omega) (by omega) (rfl) ?_
    have o9 : op = 0 := hop.resolve_right c69
    have e9 : hLow f op 15 = (hPick f (hPick f 10 16) 20) := by
      unfold hLow
      rw [lowStep_o0 (c := 15) (s := 3) (by decide) o9, lowStep_in (n := 20) (c := 15) (s := 2) (by decide) (by decide), lowStep_in (n := 16) (c := 15) (s := 1) (by decide) (by decide)]
      rfl
    exact ⟨by rw [e9], rfl⟩
  · refine r_iload_n hC dX9_lowest_72 rfl (j := 2) rfl ?_
    refine r_callS hC (vs := [.int 15]) vX9_lowest_73 (sm_edge15 (d := d + 1)) rfl (by omega) (by omega) (by omega) (Nat.le_of_ble_eq_true rfl) (fun v_4 w_4 hP_4 hlen_4 => ?_) (fun _ _ h => h.elim)
    rw [hP_4.1, hP_4.2]
    show Wp X 0 0 w [(2, .int (nI (hPick f (hPick f 10 16) 20))), (0, .ref m), (1, .int 15)] [.int 1] 76
    refine r_if_eq hC dX9_lowest_76 (tgt := 89) (by decide) (fun h => absurd h (by decide)) (fun _ => ?_)
    refine r_aload_n hC dX9_lowest_79 rfl (j := 1) rfl ?_
    refine r_iload_n hC dX9_lowest_80 rfl (j := 0) rfl ?_
    refine r_bipush hC dX9_lowest_81 (v := 25) (by decide) ?_
    refine r_callV hC (vs := [.int (nI (hPick f (hPick f 10 16) 20)), .int 25]) vX9_lowest_83 (sm_lower (d := d) (a := (hPick f (hPick f 10 16) 20)) (b := 25) hm hv h25 (hPick_lt (hPick_lt (by decide) (by decide)) (by decide)) (by decide)) hm rfl rfl (by omega) (by omega) (by omega) (Nat.le_of_ble_eq_true rfl) (fun v_5 w_5 hP_5 hlen_5 => ?_) (fun _ _ h => h.elim)
    rw [hP_5.1, hP_5.2]
    show Wp X 0 0 w [(2, .int (nI (hPick f (hPick f 10 16) 20))), (0, .ref m), (1, .int 15)] [.int (nI (hPick f (hPick f (hPick f 10 16) 20) 25))] 86
    refine r_goto hC dX9_lowest_86 (tgt := 90) (by decide) ?_
    refine r_iret hC hE hR dX9_lowest_90 (by omega) (by omega) (rfl) ?_
    have o9 : op = 1 := c69
    have e9 : hLow f op 15 = (hPick f (hPick f (hPick f 10 16) 20) 25) := by
      unfold hLow
      rw [lowStep_o1 (c := 15) (s := 3) (by decide) o9, lowStep_in (n := 20) (c := 15) (s := 2) (by decide) (by decide), lowStep_in (n := 16) (c := 15) (s := 1) (by decide) (by decide)]
      rfl
    exact ⟨by rw [e9], rfl⟩
set_option maxRecDepth 100000 in
set_option maxHeartbeats 4000000 in
theorem sm_lowest16 {d : Nat} {w : mW} {m : Nat} {th ch ea fa sv0 tn he en ln iw id0 : Int32} {f g : Nat → Int32} {sl op lo : Int32} {hd rs : Nat → Int32} {np : Nat} {tp av lg pl tk : Int32} (hm : w[m]? = some (mO 10 [.int th, .int ch, .int ea, .int fa, .int sv0, .ref (m + 1), .ref (m + 2), .ref (m + 3), .ref (m + 4), .ref (m + 5), .ref (m + 6), .ref (m + 7), .ref (m + 8), .ref (m + 9), .ref (m + 10), .int tn, .int he, .int en, .int ln, .int iw, .int id0])) (hv : w[m + 1]? = some (mI 0 67 (enc ((f, g, sl, op, lo), hd, rs, np, tp, av, lg, pl, tk)))) (h25 : f 25 = 0) (hop : op = 0 ∨ op = 1) : Sp (d + 2) yX9_lowest cX9_lowest 3 (some .int) [.ref m, .int 16] w 0 0 (fun v w' => v = some (.int (nI (hLow f op 16))) ∧ w' = w) noX := by
  refine Sp.of (by decide +kernel) (Nat.le_of_ble_eq_true rfl) (fun X hC hnl hE hR hN => ?_)
  have hC : Cx X RX9 cX9_lowest (d + 2) 0 0 := hC
  show Wp X 0 0 w [(0, .ref m), (1, .int 16)] [] 0
  refine r_iconst hC dX9_lowest_0 (v := (-1)) (by decide) ?_
  refine r_istore_n hC dX9_lowest_1 rfl (by rw [hnl]; decide) (L' := [(2, .int (-1)), (0, .ref m), (1, .int 16)]) rfl ?_
  refine r_iload_n hC dX9_lowest_2 rfl (j := 2) rfl ?_
  refine r_iconst hC dX9_lowest_3 (v := 5) (by decide) ?_
  refine r_icmp_lt hC dX9_lowest_4 (tgt := 16) (by decide) (fun h => absurd h (by decide)) (fun _ => ?_)
  refine r_aload_n hC dX9_lowest_7 rfl (j := 1) rfl ?_
  refine r_iload_n hC dX9_lowest_8 rfl (j := 0) rfl ?_
  refine r_iload_n hC dX9_lowest_9 rfl (j := 2) rfl ?_
  refine r_iconst hC dX9_lowest_10 (v := 5) (by decide) ?_
  refine r_isub hC dX9_lowest_11 ?_
  rw [show (16 - 5 : Int32) = 11 from by decide]
  refine r_callV hC (vs := [.int (-1), .int 11]) vX9_lowest_12 (sm_lower0 (d := d) (b := 11) hm hv) hm rfl rfl (by omega) (by omega) (by omega) (Nat.le_of_ble_eq_true rfl) (fun v_1 w_1 hP_1 hlen_1 => ?_) (fun _ _ h => h.elim)
  rw [hP_1.1, hP_1.2]
  show Wp X 0 0 w [(2, .int (-1)), (0, .ref m), (1, .int 16)] [.int (nI 11)] 15
  refine r_istore_n hC dX9_lowest_15 rfl (by rw [hnl]; decide) (L' := [(2, .int (nI 11)), (0, .ref m), (1, .int 16)]) rfl ?_
  refine r_iload_n hC dX9_lowest_16 rfl (j := 2) rfl ?_
  refine r_iconst hC dX9_lowest_17 (v := 5) (by decide) ?_
  refine r_irem hC dX9_lowest_18 (by decide) ?_
  rw [show (16 - 16 / 5 * 5 : Int32) = 1 from by decide]
  refine r_if_le hC dX9_lowest_19 (tgt := 31) (by decide) (fun h => absurd h (by decide)) (fun _ => ?_)
  refine r_aload_n hC dX9_lowest_22 rfl (j := 1) rfl ?_
  refine r_iload_n hC dX9_lowest_23 rfl (j := 0) rfl ?_
  refine r_iload_n hC dX9_lowest_24 rfl (j := 2) rfl ?_
  refine r_iconst hC dX9_lowest_25 (v := 1) (by decide) ?_
  refine r_isub hC dX9_lowest_26 ?_
  rw [show (16 - 1 : Int32) = 15 from by decide]
  refine r_callV hC (vs := [.int (nI 11), .int 15]) vX9_lowest_27 (sm_lower (d := d) (a := 11) (b := 15) hm hv h25 (by decide) (by decide)) hm rfl rfl (by omega) (by omega) (by omega) (Nat.le_of_ble_eq_true rfl) (fun v_2 w_2 hP_2 hlen_2 => ?_) (fun _ _ h => h.elim)
  rw [hP_2.1, hP_2.2]
  show Wp X 0 0 w [(2, .int (nI 11)), (0, .ref m), (1, .int 16)] [.int (nI (hPick f 11 15))] 30
  refine r_istore_n hC dX9_lowest_30 rfl (by rw [hnl]; decide) (L' := [(2, .int (nI (hPick f 11 15))), (0, .ref m), (1, .int 16)]) rfl ?_
  refine r_iload_n hC dX9_lowest_31 rfl (j := 2) rfl ?_
  refine r_iconst hC dX9_lowest_32 (v := 5) (by decide) ?_
  refine r_irem hC dX9_lowest_33 (by decide) ?_
  rw [show (16 - 16 / 5 * 5 : Int32) = 1 from by decide]
  refine r_iconst hC dX9_lowest_34 (v := 4) (by decide) ?_
  refine r_icmp_ge hC dX9_lowest_35 (tgt := 47) (by decide) (fun h => absurd h (by decide)) (fun _ => ?_)
  refine r_aload_n hC dX9_lowest_38 rfl (j := 1) rfl ?_
  refine r_iload_n hC dX9_lowest_39 rfl (j := 0) rfl ?_
  refine r_iload_n hC dX9_lowest_40 rfl (j := 2) rfl ?_
  refine r_iconst hC dX9_lowest_41 (v := 1) (by decide) ?_
  refine r_iadd hC dX9_lowest_42 ?_
  rw [show (16 + 1 : Int32) = 17 from by decide]
  refine r_callV hC (vs := [.int (nI (hPick f 11 15)), .int 17]) vX9_lowest_43 (sm_lower (d := d) (a := (hPick f 11 15)) (b := 17) hm hv h25 (hPick_lt (by decide) (by decide)) (by decide)) hm rfl rfl (by omega) (by omega) (by omega) (Nat.le_of_ble_eq_true rfl) (fun v_3 w_3 hP_3 hlen_3 => ?_) (fun _ _ h => h.elim)
  rw [hP_3.1, hP_3.2]
  show Wp X 0 0 w [(2, .int (nI (hPick f 11 15))), (0, .ref m), (1, .int 16)] [.int (nI (hPick f (hPick f 11 15) 17))] 46
  refine r_istore_n hC dX9_lowest_46 rfl (by rw [hnl]; decide) (L' := [(2, .int (nI (hPick f (hPick f 11 15) 17))), (0, .ref m), (1, .int 16)]) rfl ?_
  refine r_iload_n hC dX9_lowest_47 rfl (j := 2) rfl ?_
  refine r_bipush hC dX9_lowest_48 (v := 20) (by decide) ?_
  refine r_icmp_ge hC dX9_lowest_50 (tgt := 62) (by decide) (fun h => absurd h (by decide)) (fun _ => ?_)
  refine r_aload_n hC dX9_lowest_53 rfl (j := 1) rfl ?_
  refine r_iload_n hC dX9_lowest_54 rfl (j := 0) rfl ?_
  refine r_iload_n hC dX9_lowest_55 rfl (j := 2) rfl ?_
  refine r_iconst hC dX9_lowest_56 (v := 5) (by decide) ?_
  refine r_iadd hC dX9_lowest_57 ?_
  rw [show (16 + 5 : Int32) = 21 from by decide]
  refine r_callV hC (vs := [.int (nI (hPick f (hPick f 11 15) 17)), .int 21]) vX9_lowest_58 (sm_lower (d := d) (a := (hPick f (hPick f 11 15) 17)) (b := 21) hm hv h25 (hPick_lt (hPick_lt (by decide) (by decide)) (by decide)) (by decide)) hm rfl rfl (by omega) (by omega) (by omega) (Nat.le_of_ble_eq_true rfl) (fun v_4 w_4 hP_4 hlen_4 => ?_) (fun _ _ h => h.elim)
  rw [hP_4.1, hP_4.2]
  show Wp X 0 0 w [(2, .int (nI (hPick f (hPick f 11 15) 17))), (0, .ref m), (1, .int 16)] [.int (nI (hPick f (hPick f (hPick f 11 15) 17) 21))] 61
  refine r_istore_n hC dX9_lowest_61 rfl (by rw [hnl]; decide) (L' := [(2, .int (nI (hPick f (hPick f (hPick f 11 15) 17) 21))), (0, .ref m), (1, .int 16)]) rfl ?_
  refine r_aload_n hC dX9_lowest_62 rfl (j := 1) rfl ?_
  refine r_get hC gX9_lowest_63 hm (v := .ref (m + 1)) rfl ?_
  refine r_iconst hC dX9_lowest_66 (v := 2) (by decide) ?_
  refine r_iald hC dX9_lowest_67 (j := 2) hv ⟨by decide, by decide, by decide⟩ ?_
  rw [show enc ((f, g, sl, op, lo), hd, rs, np, tp, av, lg, pl, tk) 2 = op from rfl]
  refine r_iconst hC dX9_lowest_68 (v := 1) (by decide) ?_
  refine r_icmp_ne hC dX9_lowest_69 (tgt := 89) (by decide) (fun c69 => ?_) (fun c69 => ?_)
  · refine r_iload_n hC dX9_lowest_89 rfl (j := 0) rfl ?_
    refine r_iret hC hE hR dX9_lowest_90 (by omega) (by omega) (rfl) ?_
    have o9 : op = 0 := hop.resolve_right c69
    have e9 : hLow f op 16 = (hPick f (hPick f (hPick f 11 15) 17) 21) := by
      unfold hLow
      rw [lowStep_in (n := 21) (c := 16) (s := 3) (by decide) (by decide), lowStep_in (n := 17) (c := 16) (s := 2) (by decide) (by decide), lowStep_in (n := 15) (c := 16) (s := 1) (by decide) (by decide)]
      rfl
    exact ⟨by rw [e9], rfl⟩
  · refine r_iload_n hC dX9_lowest_72 rfl (j := 2) rfl ?_
    refine r_callS hC (vs := [.int 16]) vX9_lowest_73 (sm_edge16 (d := d + 1)) rfl (by omega) (by omega) (by omega) (Nat.le_of_ble_eq_true rfl) (fun v_5 w_5 hP_5 hlen_5 => ?_) (fun _ _ h => h.elim)
    rw [hP_5.1, hP_5.2]
    show Wp X 0 0 w [(2, .int (nI (hPick f (hPick f (hPick f 11 15) 17) 21))), (0, .ref m), (1, .int 16)] [.int 0] 76
    refine r_if_eq hC dX9_lowest_76 (tgt := 89) (by decide) (fun _ => ?_) (fun h => absurd (by decide) h)
    refine r_iload_n hC dX9_lowest_89 rfl (j := 0) rfl ?_
    refine r_iret hC hE hR dX9_lowest_90 (by omega) (by omega) (rfl) ?_
    have o9 : op = 1 := c69
    have e9 : hLow f op 16 = (hPick f (hPick f (hPick f 11 15) 17) 21) := by
      unfold hLow
      rw [lowStep_in (n := 21) (c := 16) (s := 3) (by decide) (by decide), lowStep_in (n := 17) (c := 16) (s := 2) (by decide) (by decide), lowStep_in (n := 15) (c := 16) (s := 1) (by decide) (by decide)]
      rfl
    exact ⟨by rw [e9], rfl⟩
set_option maxRecDepth 100000 in
set_option maxHeartbeats 4000000 in
theorem sm_lowest17 {d : Nat} {w : mW} {m : Nat} {th ch ea fa sv0 tn he en ln iw id0 : Int32} {f g : Nat → Int32} {sl op lo : Int32} {hd rs : Nat → Int32} {np : Nat} {tp av lg pl tk : Int32} (hm : w[m]? = some (mO 10 [.int th, .int ch, .int ea, .int fa, .int sv0, .ref (m + 1), .ref (m + 2), .ref (m + 3), .ref (m + 4), .ref (m + 5), .ref (m + 6), .ref (m + 7), .ref (m + 8), .ref (m + 9), .ref (m + 10), .int tn, .int he, .int en, .int ln, .int iw, .int id0])) (hv : w[m + 1]? = some (mI 0 67 (enc ((f, g, sl, op, lo), hd, rs, np, tp, av, lg, pl, tk)))) (h25 : f 25 = 0) (hop : op = 0 ∨ op = 1) : Sp (d + 2) yX9_lowest cX9_lowest 3 (some .int) [.ref m, .int 17] w 0 0 (fun v w' => v = some (.int (nI (hLow f op 17))) ∧ w' = w) noX := by
  refine Sp.of (by decide +kernel) (Nat.le_of_ble_eq_true rfl) (fun X hC hnl hE hR hN => ?_)
  have hC : Cx X RX9 cX9_lowest (d + 2) 0 0 := hC
  show Wp X 0 0 w [(0, .ref m), (1, .int 17)] [] 0
  refine r_iconst hC dX9_lowest_0 (v := (-1)) (by decide) ?_
  refine r_istore_n hC dX9_lowest_1 rfl (by rw [hnl]; decide) (L' := [(2, .int (-1)), (0, .ref m), (1, .int 17)]) rfl ?_
  refine r_iload_n hC dX9_lowest_2 rfl (j := 2) rfl ?_
  refine r_iconst hC dX9_lowest_3 (v := 5) (by decide) ?_
  refine r_icmp_lt hC dX9_lowest_4 (tgt := 16) (by decide) (fun h => absurd h (by decide)) (fun _ => ?_)
  refine r_aload_n hC dX9_lowest_7 rfl (j := 1) rfl ?_
  refine r_iload_n hC dX9_lowest_8 rfl (j := 0) rfl ?_
  refine r_iload_n hC dX9_lowest_9 rfl (j := 2) rfl ?_
  refine r_iconst hC dX9_lowest_10 (v := 5) (by decide) ?_
  refine r_isub hC dX9_lowest_11 ?_
  rw [show (17 - 5 : Int32) = 12 from by decide]
  refine r_callV hC (vs := [.int (-1), .int 12]) vX9_lowest_12 (sm_lower0 (d := d) (b := 12) hm hv) hm rfl rfl (by omega) (by omega) (by omega) (Nat.le_of_ble_eq_true rfl) (fun v_1 w_1 hP_1 hlen_1 => ?_) (fun _ _ h => h.elim)
  rw [hP_1.1, hP_1.2]
  show Wp X 0 0 w [(2, .int (-1)), (0, .ref m), (1, .int 17)] [.int (nI 12)] 15
  refine r_istore_n hC dX9_lowest_15 rfl (by rw [hnl]; decide) (L' := [(2, .int (nI 12)), (0, .ref m), (1, .int 17)]) rfl ?_
  refine r_iload_n hC dX9_lowest_16 rfl (j := 2) rfl ?_
  refine r_iconst hC dX9_lowest_17 (v := 5) (by decide) ?_
  refine r_irem hC dX9_lowest_18 (by decide) ?_
  rw [show (17 - 17 / 5 * 5 : Int32) = 2 from by decide]
  refine r_if_le hC dX9_lowest_19 (tgt := 31) (by decide) (fun h => absurd h (by decide)) (fun _ => ?_)
  refine r_aload_n hC dX9_lowest_22 rfl (j := 1) rfl ?_
  refine r_iload_n hC dX9_lowest_23 rfl (j := 0) rfl ?_
  refine r_iload_n hC dX9_lowest_24 rfl (j := 2) rfl ?_
  refine r_iconst hC dX9_lowest_25 (v := 1) (by decide) ?_
  refine r_isub hC dX9_lowest_26 ?_
  rw [show (17 - 1 : Int32) = 16 from by decide]
  refine r_callV hC (vs := [.int (nI 12), .int 16]) vX9_lowest_27 (sm_lower (d := d) (a := 12) (b := 16) hm hv h25 (by decide) (by decide)) hm rfl rfl (by omega) (by omega) (by omega) (Nat.le_of_ble_eq_true rfl) (fun v_2 w_2 hP_2 hlen_2 => ?_) (fun _ _ h => h.elim)
  rw [hP_2.1, hP_2.2]
  show Wp X 0 0 w [(2, .int (nI 12)), (0, .ref m), (1, .int 17)] [.int (nI (hPick f 12 16))] 30
  refine r_istore_n hC dX9_lowest_30 rfl (by rw [hnl]; decide) (L' := [(2, .int (nI (hPick f 12 16))), (0, .ref m), (1, .int 17)]) rfl ?_
  refine r_iload_n hC dX9_lowest_31 rfl (j := 2) rfl ?_
  refine r_iconst hC dX9_lowest_32 (v := 5) (by decide) ?_
  refine r_irem hC dX9_lowest_33 (by decide) ?_
  rw [show (17 - 17 / 5 * 5 : Int32) = 2 from by decide]
  refine r_iconst hC dX9_lowest_34 (v := 4) (by decide) ?_
  refine r_icmp_ge hC dX9_lowest_35 (tgt := 47) (by decide) (fun h => absurd h (by decide)) (fun _ => ?_)
  refine r_aload_n hC dX9_lowest_38 rfl (j := 1) rfl ?_
  refine r_iload_n hC dX9_lowest_39 rfl (j := 0) rfl ?_
  refine r_iload_n hC dX9_lowest_40 rfl (j := 2) rfl ?_
  refine r_iconst hC dX9_lowest_41 (v := 1) (by decide) ?_
  refine r_iadd hC dX9_lowest_42 ?_
  rw [show (17 + 1 : Int32) = 18 from by decide]
  refine r_callV hC (vs := [.int (nI (hPick f 12 16)), .int 18]) vX9_lowest_43 (sm_lower (d := d) (a := (hPick f 12 16)) (b := 18) hm hv h25 (hPick_lt (by decide) (by decide)) (by decide)) hm rfl rfl (by omega) (by omega) (by omega) (Nat.le_of_ble_eq_true rfl) (fun v_3 w_3 hP_3 hlen_3 => ?_) (fun _ _ h => h.elim)
  rw [hP_3.1, hP_3.2]
  show Wp X 0 0 w [(2, .int (nI (hPick f 12 16))), (0, .ref m), (1, .int 17)] [.int (nI (hPick f (hPick f 12 16) 18))] 46
  refine r_istore_n hC dX9_lowest_46 rfl (by rw [hnl]; decide) (L' := [(2, .int (nI (hPick f (hPick f 12 16) 18))), (0, .ref m), (1, .int 17)]) rfl ?_
  refine r_iload_n hC dX9_lowest_47 rfl (j := 2) rfl ?_
  refine r_bipush hC dX9_lowest_48 (v := 20) (by decide) ?_
  refine r_icmp_ge hC dX9_lowest_50 (tgt := 62) (by decide) (fun h => absurd h (by decide)) (fun _ => ?_)
  refine r_aload_n hC dX9_lowest_53 rfl (j := 1) rfl ?_
  refine r_iload_n hC dX9_lowest_54 rfl (j := 0) rfl ?_
  refine r_iload_n hC dX9_lowest_55 rfl (j := 2) rfl ?_
  refine r_iconst hC dX9_lowest_56 (v := 5) (by decide) ?_
  refine r_iadd hC dX9_lowest_57 ?_
  rw [show (17 + 5 : Int32) = 22 from by decide]
  refine r_callV hC (vs := [.int (nI (hPick f (hPick f 12 16) 18)), .int 22]) vX9_lowest_58 (sm_lower (d := d) (a := (hPick f (hPick f 12 16) 18)) (b := 22) hm hv h25 (hPick_lt (hPick_lt (by decide) (by decide)) (by decide)) (by decide)) hm rfl rfl (by omega) (by omega) (by omega) (Nat.le_of_ble_eq_true rfl) (fun v_4 w_4 hP_4 hlen_4 => ?_) (fun _ _ h => h.elim)
  rw [hP_4.1, hP_4.2]
  show Wp X 0 0 w [(2, .int (nI (hPick f (hPick f 12 16) 18))), (0, .ref m), (1, .int 17)] [.int (nI (hPick f (hPick f (hPick f 12 16) 18) 22))] 61
  refine r_istore_n hC dX9_lowest_61 rfl (by rw [hnl]; decide) (L' := [(2, .int (nI (hPick f (hPick f (hPick f 12 16) 18) 22))), (0, .ref m), (1, .int 17)]) rfl ?_
  refine r_aload_n hC dX9_lowest_62 rfl (j := 1) rfl ?_
  refine r_get hC gX9_lowest_63 hm (v := .ref (m + 1)) rfl ?_
  refine r_iconst hC dX9_lowest_66 (v := 2) (by decide) ?_
  refine r_iald hC dX9_lowest_67 (j := 2) hv ⟨by decide, by decide, by decide⟩ ?_
  rw [show enc ((f, g, sl, op, lo), hd, rs, np, tp, av, lg, pl, tk) 2 = op from rfl]
  refine r_iconst hC dX9_lowest_68 (v := 1) (by decide) ?_
  refine r_icmp_ne hC dX9_lowest_69 (tgt := 89) (by decide) (fun c69 => ?_) (fun c69 => ?_)
  · refine r_iload_n hC dX9_lowest_89 rfl (j := 0) rfl ?_
    refine r_iret hC hE hR dX9_lowest_90 (by omega) (by omega) (rfl) ?_
    have o9 : op = 0 := hop.resolve_right c69
    have e9 : hLow f op 17 = (hPick f (hPick f (hPick f 12 16) 18) 22) := by
      unfold hLow
      rw [lowStep_in (n := 22) (c := 17) (s := 3) (by decide) (by decide), lowStep_in (n := 18) (c := 17) (s := 2) (by decide) (by decide), lowStep_in (n := 16) (c := 17) (s := 1) (by decide) (by decide)]
      rfl
    exact ⟨by rw [e9], rfl⟩
  · refine r_iload_n hC dX9_lowest_72 rfl (j := 2) rfl ?_
    refine r_callS hC (vs := [.int 17]) vX9_lowest_73 (sm_edge17 (d := d + 1)) rfl (by omega) (by omega) (by omega) (Nat.le_of_ble_eq_true rfl) (fun v_5 w_5 hP_5 hlen_5 => ?_) (fun _ _ h => h.elim)
    rw [hP_5.1, hP_5.2]
    show Wp X 0 0 w [(2, .int (nI (hPick f (hPick f (hPick f 12 16) 18) 22))), (0, .ref m), (1, .int 17)] [.int 0] 76
    refine r_if_eq hC dX9_lowest_76 (tgt := 89) (by decide) (fun _ => ?_) (fun h => absurd (by decide) h)
    refine r_iload_n hC dX9_lowest_89 rfl (j := 0) rfl ?_
    refine r_iret hC hE hR dX9_lowest_90 (by omega) (by omega) (rfl) ?_
    have o9 : op = 1 := c69
    have e9 : hLow f op 17 = (hPick f (hPick f (hPick f 12 16) 18) 22) := by
      unfold hLow
      rw [lowStep_in (n := 22) (c := 17) (s := 3) (by decide) (by decide), lowStep_in (n := 18) (c := 17) (s := 2) (by decide) (by decide), lowStep_in (n := 16) (c := 17) (s := 1) (by decide) (by decide)]
      rfl
    exact ⟨by rw [e9], rfl⟩
set_option maxRecDepth 100000 in
set_option maxHeartbeats 4000000 in
theorem sm_lowest18 {d : Nat} {w : mW} {m : Nat} {th ch ea fa sv0 tn he en ln iw id0 : Int32} {f g : Nat → Int32} {sl op lo : Int32} {hd rs : Nat → Int32} {np : Nat} {tp av lg pl tk : Int32} (hm : w[m]? = some (mO 10 [.int th, .int ch, .int ea, .int fa, .int sv0, .ref (m + 1), .ref (m + 2), .ref (m + 3), .ref (m + 4), .ref (m + 5), .ref (m + 6), .ref (m + 7), .ref (m + 8), .ref (m + 9), .ref (m + 10), .int tn, .int he, .int en, .int ln, .int iw, .int id0])) (hv : w[m + 1]? = some (mI 0 67 (enc ((f, g, sl, op, lo), hd, rs, np, tp, av, lg, pl, tk)))) (h25 : f 25 = 0) (hop : op = 0 ∨ op = 1) : Sp (d + 2) yX9_lowest cX9_lowest 3 (some .int) [.ref m, .int 18] w 0 0 (fun v w' => v = some (.int (nI (hLow f op 18))) ∧ w' = w) noX := by
  refine Sp.of (by decide +kernel) (Nat.le_of_ble_eq_true rfl) (fun X hC hnl hE hR hN => ?_)
  have hC : Cx X RX9 cX9_lowest (d + 2) 0 0 := hC
  show Wp X 0 0 w [(0, .ref m), (1, .int 18)] [] 0
  refine r_iconst hC dX9_lowest_0 (v := (-1)) (by decide) ?_
  refine r_istore_n hC dX9_lowest_1 rfl (by rw [hnl]; decide) (L' := [(2, .int (-1)), (0, .ref m), (1, .int 18)]) rfl ?_
  refine r_iload_n hC dX9_lowest_2 rfl (j := 2) rfl ?_
  refine r_iconst hC dX9_lowest_3 (v := 5) (by decide) ?_
  refine r_icmp_lt hC dX9_lowest_4 (tgt := 16) (by decide) (fun h => absurd h (by decide)) (fun _ => ?_)
  refine r_aload_n hC dX9_lowest_7 rfl (j := 1) rfl ?_
  refine r_iload_n hC dX9_lowest_8 rfl (j := 0) rfl ?_
  refine r_iload_n hC dX9_lowest_9 rfl (j := 2) rfl ?_
  refine r_iconst hC dX9_lowest_10 (v := 5) (by decide) ?_
  refine r_isub hC dX9_lowest_11 ?_
  rw [show (18 - 5 : Int32) = 13 from by decide]
  refine r_callV hC (vs := [.int (-1), .int 13]) vX9_lowest_12 (sm_lower0 (d := d) (b := 13) hm hv) hm rfl rfl (by omega) (by omega) (by omega) (Nat.le_of_ble_eq_true rfl) (fun v_1 w_1 hP_1 hlen_1 => ?_) (fun _ _ h => h.elim)
  rw [hP_1.1, hP_1.2]
  show Wp X 0 0 w [(2, .int (-1)), (0, .ref m), (1, .int 18)] [.int (nI 13)] 15
  refine r_istore_n hC dX9_lowest_15 rfl (by rw [hnl]; decide) (L' := [(2, .int (nI 13)), (0, .ref m), (1, .int 18)]) rfl ?_
  refine r_iload_n hC dX9_lowest_16 rfl (j := 2) rfl ?_
  refine r_iconst hC dX9_lowest_17 (v := 5) (by decide) ?_
  refine r_irem hC dX9_lowest_18 (by decide) ?_
  rw [show (18 - 18 / 5 * 5 : Int32) = 3 from by decide]
  refine r_if_le hC dX9_lowest_19 (tgt := 31) (by decide) (fun h => absurd h (by decide)) (fun _ => ?_)
  refine r_aload_n hC dX9_lowest_22 rfl (j := 1) rfl ?_
  refine r_iload_n hC dX9_lowest_23 rfl (j := 0) rfl ?_
  refine r_iload_n hC dX9_lowest_24 rfl (j := 2) rfl ?_
  refine r_iconst hC dX9_lowest_25 (v := 1) (by decide) ?_
  refine r_isub hC dX9_lowest_26 ?_
  rw [show (18 - 1 : Int32) = 17 from by decide]
  refine r_callV hC (vs := [.int (nI 13), .int 17]) vX9_lowest_27 (sm_lower (d := d) (a := 13) (b := 17) hm hv h25 (by decide) (by decide)) hm rfl rfl (by omega) (by omega) (by omega) (Nat.le_of_ble_eq_true rfl) (fun v_2 w_2 hP_2 hlen_2 => ?_) (fun _ _ h => h.elim)
  rw [hP_2.1, hP_2.2]
  show Wp X 0 0 w [(2, .int (nI 13)), (0, .ref m), (1, .int 18)] [.int (nI (hPick f 13 17))] 30
  refine r_istore_n hC dX9_lowest_30 rfl (by rw [hnl]; decide) (L' := [(2, .int (nI (hPick f 13 17))), (0, .ref m), (1, .int 18)]) rfl ?_
  refine r_iload_n hC dX9_lowest_31 rfl (j := 2) rfl ?_
  refine r_iconst hC dX9_lowest_32 (v := 5) (by decide) ?_
  refine r_irem hC dX9_lowest_33 (by decide) ?_
  rw [show (18 - 18 / 5 * 5 : Int32) = 3 from by decide]
  refine r_iconst hC dX9_lowest_34 (v := 4) (by decide) ?_
  refine r_icmp_ge hC dX9_lowest_35 (tgt := 47) (by decide) (fun h => absurd h (by decide)) (fun _ => ?_)
  refine r_aload_n hC dX9_lowest_38 rfl (j := 1) rfl ?_
  refine r_iload_n hC dX9_lowest_39 rfl (j := 0) rfl ?_
  refine r_iload_n hC dX9_lowest_40 rfl (j := 2) rfl ?_
  refine r_iconst hC dX9_lowest_41 (v := 1) (by decide) ?_
  refine r_iadd hC dX9_lowest_42 ?_
  rw [show (18 + 1 : Int32) = 19 from by decide]
  refine r_callV hC (vs := [.int (nI (hPick f 13 17)), .int 19]) vX9_lowest_43 (sm_lower (d := d) (a := (hPick f 13 17)) (b := 19) hm hv h25 (hPick_lt (by decide) (by decide)) (by decide)) hm rfl rfl (by omega) (by omega) (by omega) (Nat.le_of_ble_eq_true rfl) (fun v_3 w_3 hP_3 hlen_3 => ?_) (fun _ _ h => h.elim)
  rw [hP_3.1, hP_3.2]
  show Wp X 0 0 w [(2, .int (nI (hPick f 13 17))), (0, .ref m), (1, .int 18)] [.int (nI (hPick f (hPick f 13 17) 19))] 46
  refine r_istore_n hC dX9_lowest_46 rfl (by rw [hnl]; decide) (L' := [(2, .int (nI (hPick f (hPick f 13 17) 19))), (0, .ref m), (1, .int 18)]) rfl ?_
  refine r_iload_n hC dX9_lowest_47 rfl (j := 2) rfl ?_
  refine r_bipush hC dX9_lowest_48 (v := 20) (by decide) ?_
  refine r_icmp_ge hC dX9_lowest_50 (tgt := 62) (by decide) (fun h => absurd h (by decide)) (fun _ => ?_)
  refine r_aload_n hC dX9_lowest_53 rfl (j := 1) rfl ?_
  refine r_iload_n hC dX9_lowest_54 rfl (j := 0) rfl ?_
  refine r_iload_n hC dX9_lowest_55 rfl (j := 2) rfl ?_
  refine r_iconst hC dX9_lowest_56 (v := 5) (by decide) ?_
  refine r_iadd hC dX9_lowest_57 ?_
  rw [show (18 + 5 : Int32) = 23 from by decide]
  refine r_callV hC (vs := [.int (nI (hPick f (hPick f 13 17) 19)), .int 23]) vX9_lowest_58 (sm_lower (d := d) (a := (hPick f (hPick f 13 17) 19)) (b := 23) hm hv h25 (hPick_lt (hPick_lt (by decide) (by decide)) (by decide)) (by decide)) hm rfl rfl (by omega) (by omega) (by omega) (Nat.le_of_ble_eq_true rfl) (fun v_4 w_4 hP_4 hlen_4 => ?_) (fun _ _ h => h.elim)
  rw [hP_4.1, hP_4.2]
  show Wp X 0 0 w [(2, .int (nI (hPick f (hPick f 13 17) 19))), (0, .ref m), (1, .int 18)] [.int (nI (hPick f (hPick f (hPick f 13 17) 19) 23))] 61
  refine r_istore_n hC dX9_lowest_61 rfl (by rw [hnl]; decide) (L' := [(2, .int (nI (hPick f (hPick f (hPick f 13 17) 19) 23))), (0, .ref m), (1, .int 18)]) rfl ?_
  refine r_aload_n hC dX9_lowest_62 rfl (j := 1) rfl ?_
  refine r_get hC gX9_lowest_63 hm (v := .ref (m + 1)) rfl ?_
  refine r_iconst hC dX9_lowest_66 (v := 2) (by decide) ?_
  refine r_iald hC dX9_lowest_67 (j := 2) hv ⟨by decide, by decide, by decide⟩ ?_
  rw [show enc ((f, g, sl, op, lo), hd, rs, np, tp, av, lg, pl, tk) 2 = op from rfl]
  refine r_iconst hC dX9_lowest_68 (v := 1) (by decide) ?_
  refine r_icmp_ne hC dX9_lowest_69 (tgt := 89) (by decide) (fun c69 => ?_) (fun c69 => ?_)
  · refine r_iload_n hC dX9_lowest_89 rfl (j := 0) rfl ?_
    refine r_iret hC hE hR dX9_lowest_90 (by omega) (by omega) (rfl) ?_
    have o9 : op = 0 := hop.resolve_right c69
    have e9 : hLow f op 18 = (hPick f (hPick f (hPick f 13 17) 19) 23) := by
      unfold hLow
      rw [lowStep_in (n := 23) (c := 18) (s := 3) (by decide) (by decide), lowStep_in (n := 19) (c := 18) (s := 2) (by decide) (by decide), lowStep_in (n := 17) (c := 18) (s := 1) (by decide) (by decide)]
      rfl
    exact ⟨by rw [e9], rfl⟩
  · refine r_iload_n hC dX9_lowest_72 rfl (j := 2) rfl ?_
    refine r_callS hC (vs := [.int 18]) vX9_lowest_73 (sm_edge18 (d := d + 1)) rfl (by omega) (by omega) (by omega) (Nat.le_of_ble_eq_true rfl) (fun v_5 w_5 hP_5 hlen_5 => ?_) (fun _ _ h => h.elim)
    rw [hP_5.1, hP_5.2]
    show Wp X 0 0 w [(2, .int (nI (hPick f (hPick f (hPick f 13 17) 19) 23))), (0, .ref m), (1, .int 18)] [.int 0] 76
    refine r_if_eq hC dX9_lowest_76 (tgt := 89) (by decide) (fun _ => ?_) (fun h => absurd (by decide) h)
    refine r_iload_n hC dX9_lowest_89 rfl (j := 0) rfl ?_
    refine r_iret hC hE hR dX9_lowest_90 (by omega) (by omega) (rfl) ?_
    have o9 : op = 1 := c69
    have e9 : hLow f op 18 = (hPick f (hPick f (hPick f 13 17) 19) 23) := by
      unfold hLow
      rw [lowStep_in (n := 23) (c := 18) (s := 3) (by decide) (by decide), lowStep_in (n := 19) (c := 18) (s := 2) (by decide) (by decide), lowStep_in (n := 17) (c := 18) (s := 1) (by decide) (by decide)]
      rfl
    exact ⟨by rw [e9], rfl⟩
set_option maxRecDepth 100000 in
set_option maxHeartbeats 4000000 in
theorem sm_lowest19 {d : Nat} {w : mW} {m : Nat} {th ch ea fa sv0 tn he en ln iw id0 : Int32} {f g : Nat → Int32} {sl op lo : Int32} {hd rs : Nat → Int32} {np : Nat} {tp av lg pl tk : Int32} (hm : w[m]? = some (mO 10 [.int th, .int ch, .int ea, .int fa, .int sv0, .ref (m + 1), .ref (m + 2), .ref (m + 3), .ref (m + 4), .ref (m + 5), .ref (m + 6), .ref (m + 7), .ref (m + 8), .ref (m + 9), .ref (m + 10), .int tn, .int he, .int en, .int ln, .int iw, .int id0])) (hv : w[m + 1]? = some (mI 0 67 (enc ((f, g, sl, op, lo), hd, rs, np, tp, av, lg, pl, tk)))) (h25 : f 25 = 0) (hop : op = 0 ∨ op = 1) : Sp (d + 2) yX9_lowest cX9_lowest 3 (some .int) [.ref m, .int 19] w 0 0 (fun v w' => v = some (.int (nI (hLow f op 19))) ∧ w' = w) noX := by
  refine Sp.of (by decide +kernel) (Nat.le_of_ble_eq_true rfl) (fun X hC hnl hE hR hN => ?_)
  have hC : Cx X RX9 cX9_lowest (d + 2) 0 0 := hC
  show Wp X 0 0 w [(0, .ref m), (1, .int 19)] [] 0
  refine r_iconst hC dX9_lowest_0 (v := (-1)) (by decide) ?_
  refine r_istore_n hC dX9_lowest_1 rfl (by rw [hnl]; decide) (L' := [(2, .int (-1)), (0, .ref m), (1, .int 19)]) rfl ?_
  refine r_iload_n hC dX9_lowest_2 rfl (j := 2) rfl ?_
  refine r_iconst hC dX9_lowest_3 (v := 5) (by decide) ?_
  refine r_icmp_lt hC dX9_lowest_4 (tgt := 16) (by decide) (fun h => absurd h (by decide)) (fun _ => ?_)
  refine r_aload_n hC dX9_lowest_7 rfl (j := 1) rfl ?_
  refine r_iload_n hC dX9_lowest_8 rfl (j := 0) rfl ?_
  refine r_iload_n hC dX9_lowest_9 rfl (j := 2) rfl ?_
  refine r_iconst hC dX9_lowest_10 (v := 5) (by decide) ?_
  refine r_isub hC dX9_lowest_11 ?_
  rw [show (19 - 5 : Int32) = 14 from by decide]
  refine r_callV hC (vs := [.int (-1), .int 14]) vX9_lowest_12 (sm_lower0 (d := d) (b := 14) hm hv) hm rfl rfl (by omega) (by omega) (by omega) (Nat.le_of_ble_eq_true rfl) (fun v_1 w_1 hP_1 hlen_1 => ?_) (fun _ _ h => h.elim)
  rw [hP_1.1, hP_1.2]
  show Wp X 0 0 w [(2, .int (-1)), (0, .ref m), (1, .int 19)] [.int (nI 14)] 15
  refine r_istore_n hC dX9_lowest_15 rfl (by rw [hnl]; decide) (L' := [(2, .int (nI 14)), (0, .ref m), (1, .int 19)]) rfl ?_
  refine r_iload_n hC dX9_lowest_16 rfl (j := 2) rfl ?_
  refine r_iconst hC dX9_lowest_17 (v := 5) (by decide) ?_
  refine r_irem hC dX9_lowest_18 (by decide) ?_
  rw [show (19 - 19 / 5 * 5 : Int32) = 4 from by decide]
  refine r_if_le hC dX9_lowest_19 (tgt := 31) (by decide) (fun h => absurd h (by decide)) (fun _ => ?_)
  refine r_aload_n hC dX9_lowest_22 rfl (j := 1) rfl ?_
  refine r_iload_n hC dX9_lowest_23 rfl (j := 0) rfl ?_
  refine r_iload_n hC dX9_lowest_24 rfl (j := 2) rfl ?_
  refine r_iconst hC dX9_lowest_25 (v := 1) (by decide) ?_
  refine r_isub hC dX9_lowest_26 ?_
  rw [show (19 - 1 : Int32) = 18 from by decide]
  refine r_callV hC (vs := [.int (nI 14), .int 18]) vX9_lowest_27 (sm_lower (d := d) (a := 14) (b := 18) hm hv h25 (by decide) (by decide)) hm rfl rfl (by omega) (by omega) (by omega) (Nat.le_of_ble_eq_true rfl) (fun v_2 w_2 hP_2 hlen_2 => ?_) (fun _ _ h => h.elim)
  rw [hP_2.1, hP_2.2]
  show Wp X 0 0 w [(2, .int (nI 14)), (0, .ref m), (1, .int 19)] [.int (nI (hPick f 14 18))] 30
  refine r_istore_n hC dX9_lowest_30 rfl (by rw [hnl]; decide) (L' := [(2, .int (nI (hPick f 14 18))), (0, .ref m), (1, .int 19)]) rfl ?_
  refine r_iload_n hC dX9_lowest_31 rfl (j := 2) rfl ?_
  refine r_iconst hC dX9_lowest_32 (v := 5) (by decide) ?_
  refine r_irem hC dX9_lowest_33 (by decide) ?_
  rw [show (19 - 19 / 5 * 5 : Int32) = 4 from by decide]
  refine r_iconst hC dX9_lowest_34 (v := 4) (by decide) ?_
  refine r_icmp_ge hC dX9_lowest_35 (tgt := 47) (by decide) (fun _ => ?_) (fun h => absurd (by decide) h)
  refine r_iload_n hC dX9_lowest_47 rfl (j := 2) rfl ?_
  refine r_bipush hC dX9_lowest_48 (v := 20) (by decide) ?_
  refine r_icmp_ge hC dX9_lowest_50 (tgt := 62) (by decide) (fun h => absurd h (by decide)) (fun _ => ?_)
  refine r_aload_n hC dX9_lowest_53 rfl (j := 1) rfl ?_
  refine r_iload_n hC dX9_lowest_54 rfl (j := 0) rfl ?_
  refine r_iload_n hC dX9_lowest_55 rfl (j := 2) rfl ?_
  refine r_iconst hC dX9_lowest_56 (v := 5) (by decide) ?_
  refine r_iadd hC dX9_lowest_57 ?_
  rw [show (19 + 5 : Int32) = 24 from by decide]
  refine r_callV hC (vs := [.int (nI (hPick f 14 18)), .int 24]) vX9_lowest_58 (sm_lower (d := d) (a := (hPick f 14 18)) (b := 24) hm hv h25 (hPick_lt (by decide) (by decide)) (by decide)) hm rfl rfl (by omega) (by omega) (by omega) (Nat.le_of_ble_eq_true rfl) (fun v_3 w_3 hP_3 hlen_3 => ?_) (fun _ _ h => h.elim)
  rw [hP_3.1, hP_3.2]
  show Wp X 0 0 w [(2, .int (nI (hPick f 14 18))), (0, .ref m), (1, .int 19)] [.int (nI (hPick f (hPick f 14 18) 24))] 61
  refine r_istore_n hC dX9_lowest_61 rfl (by rw [hnl]; decide) (L' := [(2, .int (nI (hPick f (hPick f 14 18) 24))), (0, .ref m), (1, .int 19)]) rfl ?_
  refine r_aload_n hC dX9_lowest_62 rfl (j := 1) rfl ?_
  refine r_get hC gX9_lowest_63 hm (v := .ref (m + 1)) rfl ?_
  refine r_iconst hC dX9_lowest_66 (v := 2) (by decide) ?_
  refine r_iald hC dX9_lowest_67 (j := 2) hv ⟨by decide, by decide, by decide⟩ ?_
  rw [show enc ((f, g, sl, op, lo), hd, rs, np, tp, av, lg, pl, tk) 2 = op from rfl]
  refine r_iconst hC dX9_lowest_68 (v := 1) (by decide) ?_
  refine r_icmp_ne hC dX9_lowest_69 (tgt := 89) (by decide) (fun c69 => ?_) (fun c69 => ?_)
  · refine r_iload_n hC dX9_lowest_89 rfl (j := 0) rfl ?_
    refine r_iret hC hE hR dX9_lowest_90 (by omega) (by omega) (rfl) ?_
    have o9 : op = 0 := hop.resolve_right c69
    have e9 : hLow f op 19 = (hPick f (hPick f 14 18) 24) := by
      unfold hLow
      rw [lowStep_o0 (c := 19) (s := 3) (by decide) o9, lowStep_in (n := 24) (c := 19) (s := 2) (by decide) (by decide), lowStep_in (n := 18) (c := 19) (s := 1) (by decide) (by decide)]
      rfl
    exact ⟨by rw [e9], rfl⟩
  · refine r_iload_n hC dX9_lowest_72 rfl (j := 2) rfl ?_
    refine r_callS hC (vs := [.int 19]) vX9_lowest_73 (sm_edge19 (d := d + 1)) rfl (by omega) (by omega) (by omega) (Nat.le_of_ble_eq_true rfl) (fun v_4 w_4 hP_4 hlen_4 => ?_) (fun _ _ h => h.elim)
    rw [hP_4.1, hP_4.2]
    show Wp X 0 0 w [(2, .int (nI (hPick f (hPick f 14 18) 24))), (0, .ref m), (1, .int 19)] [.int 1] 76
    refine r_if_eq hC dX9_lowest_76 (tgt := 89) (by decide) (fun h => absurd h (by decide)) (fun _ => ?_)
    refine r_aload_n hC dX9_lowest_79 rfl (j := 1) rfl ?_
    refine r_iload_n hC dX9_lowest_80 rfl (j := 0) rfl ?_
    refine r_bipush hC dX9_lowest_81 (v := 25) (by decide) ?_
    refine r_callV hC (vs := [.int (nI (hPick f (hPick f 14 18) 24)), .int 25]) vX9_lowest_83 (sm_lower (d := d) (a := (hPick f (hPick f 14 18) 24)) (b := 25) hm hv h25 (hPick_lt (hPick_lt (by decide) (by decide)) (by decide)) (by decide)) hm rfl rfl (by omega) (by omega) (by omega) (Nat.le_of_ble_eq_true rfl) (fun v_5 w_5 hP_5 hlen_5 => ?_) (fun _ _ h => h.elim)
    rw [hP_5.1, hP_5.2]
    show Wp X 0 0 w [(2, .int (nI (hPick f (hPick f 14 18) 24))), (0, .ref m), (1, .int 19)] [.int (nI (hPick f (hPick f (hPick f 14 18) 24) 25))] 86
    refine r_goto hC dX9_lowest_86 (tgt := 90) (by decide) ?_
    refine r_iret hC hE hR dX9_lowest_90 (by omega) (by omega) (rfl) ?_
    have o9 : op = 1 := c69
    have e9 : hLow f op 19 = (hPick f (hPick f (hPick f 14 18) 24) 25) := by
      unfold hLow
      rw [lowStep_o1 (c := 19) (s := 3) (by decide) o9, lowStep_in (n := 24) (c := 19) (s := 2) (by decide) (by decide), lowStep_in (n := 18) (c := 19) (s := 1) (by decide) (by decide)]
      rfl
    exact ⟨by rw [e9], rfl⟩
set_option maxRecDepth 100000 in
set_option maxHeartbeats 4000000 in
theorem sm_lowest20 {d : Nat} {w : mW} {m : Nat} {th ch ea fa sv0 tn he en ln iw id0 : Int32} {f g : Nat → Int32} {sl op lo : Int32} {hd rs : Nat → Int32} {np : Nat} {tp av lg pl tk : Int32} (hm : w[m]? = some (mO 10 [.int th, .int ch, .int ea, .int fa, .int sv0, .ref (m + 1), .ref (m + 2), .ref (m + 3), .ref (m + 4), .ref (m + 5), .ref (m + 6), .ref (m + 7), .ref (m + 8), .ref (m + 9), .ref (m + 10), .int tn, .int he, .int en, .int ln, .int iw, .int id0])) (hv : w[m + 1]? = some (mI 0 67 (enc ((f, g, sl, op, lo), hd, rs, np, tp, av, lg, pl, tk)))) (h25 : f 25 = 0) (hop : op = 0 ∨ op = 1) : Sp (d + 2) yX9_lowest cX9_lowest 3 (some .int) [.ref m, .int 20] w 0 0 (fun v w' => v = some (.int (nI (hLow f op 20))) ∧ w' = w) noX := by
  refine Sp.of (by decide +kernel) (Nat.le_of_ble_eq_true rfl) (fun X hC hnl hE hR hN => ?_)
  have hC : Cx X RX9 cX9_lowest (d + 2) 0 0 := hC
  show Wp X 0 0 w [(0, .ref m), (1, .int 20)] [] 0
  refine r_iconst hC dX9_lowest_0 (v := (-1)) (by decide) ?_
  refine r_istore_n hC dX9_lowest_1 rfl (by rw [hnl]; decide) (L' := [(2, .int (-1)), (0, .ref m), (1, .int 20)]) rfl ?_
  refine r_iload_n hC dX9_lowest_2 rfl (j := 2) rfl ?_
  refine r_iconst hC dX9_lowest_3 (v := 5) (by decide) ?_
  refine r_icmp_lt hC dX9_lowest_4 (tgt := 16) (by decide) (fun h => absurd h (by decide)) (fun _ => ?_)
  refine r_aload_n hC dX9_lowest_7 rfl (j := 1) rfl ?_
  refine r_iload_n hC dX9_lowest_8 rfl (j := 0) rfl ?_
  refine r_iload_n hC dX9_lowest_9 rfl (j := 2) rfl ?_
  refine r_iconst hC dX9_lowest_10 (v := 5) (by decide) ?_
  refine r_isub hC dX9_lowest_11 ?_
  rw [show (20 - 5 : Int32) = 15 from by decide]
  refine r_callV hC (vs := [.int (-1), .int 15]) vX9_lowest_12 (sm_lower0 (d := d) (b := 15) hm hv) hm rfl rfl (by omega) (by omega) (by omega) (Nat.le_of_ble_eq_true rfl) (fun v_1 w_1 hP_1 hlen_1 => ?_) (fun _ _ h => h.elim)
  rw [hP_1.1, hP_1.2]
  show Wp X 0 0 w [(2, .int (-1)), (0, .ref m), (1, .int 20)] [.int (nI 15)] 15
  refine r_istore_n hC dX9_lowest_15 rfl (by rw [hnl]; decide) (L' := [(2, .int (nI 15)), (0, .ref m), (1, .int 20)]) rfl ?_
  refine r_iload_n hC dX9_lowest_16 rfl (j := 2) rfl ?_
  refine r_iconst hC dX9_lowest_17 (v := 5) (by decide) ?_
  refine r_irem hC dX9_lowest_18 (by decide) ?_
  rw [show (20 - 20 / 5 * 5 : Int32) = 0 from by decide]
  refine r_if_le hC dX9_lowest_19 (tgt := 31) (by decide) (fun _ => ?_) (fun h => absurd (by decide) h)
  refine r_iload_n hC dX9_lowest_31 rfl (j := 2) rfl ?_
  refine r_iconst hC dX9_lowest_32 (v := 5) (by decide) ?_
  refine r_irem hC dX9_lowest_33 (by decide) ?_
  rw [show (20 - 20 / 5 * 5 : Int32) = 0 from by decide]
  refine r_iconst hC dX9_lowest_34 (v := 4) (by decide) ?_
  refine r_icmp_ge hC dX9_lowest_35 (tgt := 47) (by decide) (fun h => absurd h (by decide)) (fun _ => ?_)
  refine r_aload_n hC dX9_lowest_38 rfl (j := 1) rfl ?_
  refine r_iload_n hC dX9_lowest_39 rfl (j := 0) rfl ?_
  refine r_iload_n hC dX9_lowest_40 rfl (j := 2) rfl ?_
  refine r_iconst hC dX9_lowest_41 (v := 1) (by decide) ?_
  refine r_iadd hC dX9_lowest_42 ?_
  rw [show (20 + 1 : Int32) = 21 from by decide]
  refine r_callV hC (vs := [.int (nI 15), .int 21]) vX9_lowest_43 (sm_lower (d := d) (a := 15) (b := 21) hm hv h25 (by decide) (by decide)) hm rfl rfl (by omega) (by omega) (by omega) (Nat.le_of_ble_eq_true rfl) (fun v_2 w_2 hP_2 hlen_2 => ?_) (fun _ _ h => h.elim)
  rw [hP_2.1, hP_2.2]
  show Wp X 0 0 w [(2, .int (nI 15)), (0, .ref m), (1, .int 20)] [.int (nI (hPick f 15 21))] 46
  refine r_istore_n hC dX9_lowest_46 rfl (by rw [hnl]; decide) (L' := [(2, .int (nI (hPick f 15 21))), (0, .ref m), (1, .int 20)]) rfl ?_
  refine r_iload_n hC dX9_lowest_47 rfl (j := 2) rfl ?_
  refine r_bipush hC dX9_lowest_48 (v := 20) (by decide) ?_
  refine r_icmp_ge hC dX9_lowest_50 (tgt := 62) (by decide) (fun _ => ?_) (fun h => absurd (by decide) h)
  refine r_aload_n hC dX9_lowest_62 rfl (j := 1) rfl ?_
  refine r_get hC gX9_lowest_63 hm (v := .ref (m + 1)) rfl ?_
  refine r_iconst hC dX9_lowest_66 (v := 2) (by decide) ?_
  refine r_iald hC dX9_lowest_67 (j := 2) hv ⟨by decide, by decide, by decide⟩ ?_
  rw [show enc ((f, g, sl, op, lo), hd, rs, np, tp, av, lg, pl, tk) 2 = op from rfl]
  refine r_iconst hC dX9_lowest_68 (v := 1) (by decide) ?_
  refine r_icmp_ne hC dX9_lowest_69 (tgt := 89) (by decide) (fun c69 => ?_) (fun c69 => ?_)
  · refine r_iload_n hC dX9_lowest_89 rfl (j := 0) rfl ?_
    refine r_iret hC hE hR dX9_lowest_90 (by omega) (by omega) (rfl) ?_
    have o9 : op = 0 := hop.resolve_right c69
    have e9 : hLow f op 20 = (hPick f 15 21) := by
      unfold hLow
      rw [lowStep_o0 (c := 20) (s := 3) (by decide) o9, lowStep_o0 (c := 20) (s := 2) (by decide) o9, lowStep_in (n := 21) (c := 20) (s := 1) (by decide) (by decide)]
      rfl
    exact ⟨by rw [e9], rfl⟩
  · refine r_iload_n hC dX9_lowest_72 rfl (j := 2) rfl ?_
    refine r_callS hC (vs := [.int 20]) vX9_lowest_73 (sm_edge20 (d := d + 1)) rfl (by omega) (by omega) (by omega) (Nat.le_of_ble_eq_true rfl) (fun v_3 w_3 hP_3 hlen_3 => ?_) (fun _ _ h => h.elim)
    rw [hP_3.1, hP_3.2]
    show Wp X 0 0 w [(2, .int (nI (hPick f 15 21))), (0, .ref m), (1, .int 20)] [.int 1] 76
    refine r_if_eq hC dX9_lowest_76 (tgt := 89) (by decide) (fun h => absurd h (by decide)) (fun _ => ?_)
    refine r_aload_n hC dX9_lowest_79 rfl (j := 1) rfl ?_
    refine r_iload_n hC dX9_lowest_80 rfl (j := 0) rfl ?_
    refine r_bipush hC dX9_lowest_81 (v := 25) (by decide) ?_
    refine r_callV hC (vs := [.int (nI (hPick f 15 21)), .int 25]) vX9_lowest_83 (sm_lower (d := d) (a := (hPick f 15 21)) (b := 25) hm hv h25 (hPick_lt (by decide) (by decide)) (by decide)) hm rfl rfl (by omega) (by omega) (by omega) (Nat.le_of_ble_eq_true rfl) (fun v_4 w_4 hP_4 hlen_4 => ?_) (fun _ _ h => h.elim)
    rw [hP_4.1, hP_4.2]
    show Wp X 0 0 w [(2, .int (nI (hPick f 15 21))), (0, .ref m), (1, .int 20)] [.int (nI (hPick f (hPick f 15 21) 25))] 86
    refine r_goto hC dX9_lowest_86 (tgt := 90) (by decide) ?_
    refine r_iret hC hE hR dX9_lowest_90 (by omega) (by omega) (rfl) ?_
    have o9 : op = 1 := c69
    have e9 : hLow f op 20 = (hPick f (hPick f 15 21) 25) := by
      unfold hLow
      rw [lowStep_o1 (c := 20) (s := 3) (by decide) o9, lowStep_o1 (c := 20) (s := 2) (by decide) o9, lowStep_in (n := 21) (c := 20) (s := 1) (by decide) (by decide), hPick_id]
      rfl
    exact ⟨by rw [e9], rfl⟩
set_option maxRecDepth 100000 in
set_option maxHeartbeats 4000000 in
theorem sm_lowest21 {d : Nat} {w : mW} {m : Nat} {th ch ea fa sv0 tn he en ln iw id0 : Int32} {f g : Nat → Int32} {sl op lo : Int32} {hd rs : Nat → Int32} {np : Nat} {tp av lg pl tk : Int32} (hm : w[m]? = some (mO 10 [.int th, .int ch, .int ea, .int fa, .int sv0, .ref (m + 1), .ref (m + 2), .ref (m + 3), .ref (m + 4), .ref (m + 5), .ref (m + 6), .ref (m + 7), .ref (m + 8), .ref (m + 9), .ref (m + 10), .int tn, .int he, .int en, .int ln, .int iw, .int id0])) (hv : w[m + 1]? = some (mI 0 67 (enc ((f, g, sl, op, lo), hd, rs, np, tp, av, lg, pl, tk)))) (h25 : f 25 = 0) (hop : op = 0 ∨ op = 1) : Sp (d + 2) yX9_lowest cX9_lowest 3 (some .int) [.ref m, .int 21] w 0 0 (fun v w' => v = some (.int (nI (hLow f op 21))) ∧ w' = w) noX := by
  refine Sp.of (by decide +kernel) (Nat.le_of_ble_eq_true rfl) (fun X hC hnl hE hR hN => ?_)
  have hC : Cx X RX9 cX9_lowest (d + 2) 0 0 := hC
  show Wp X 0 0 w [(0, .ref m), (1, .int 21)] [] 0
  refine r_iconst hC dX9_lowest_0 (v := (-1)) (by decide) ?_
  refine r_istore_n hC dX9_lowest_1 rfl (by rw [hnl]; decide) (L' := [(2, .int (-1)), (0, .ref m), (1, .int 21)]) rfl ?_
  refine r_iload_n hC dX9_lowest_2 rfl (j := 2) rfl ?_
  refine r_iconst hC dX9_lowest_3 (v := 5) (by decide) ?_
  refine r_icmp_lt hC dX9_lowest_4 (tgt := 16) (by decide) (fun h => absurd h (by decide)) (fun _ => ?_)
  refine r_aload_n hC dX9_lowest_7 rfl (j := 1) rfl ?_
  refine r_iload_n hC dX9_lowest_8 rfl (j := 0) rfl ?_
  refine r_iload_n hC dX9_lowest_9 rfl (j := 2) rfl ?_
  refine r_iconst hC dX9_lowest_10 (v := 5) (by decide) ?_
  refine r_isub hC dX9_lowest_11 ?_
  rw [show (21 - 5 : Int32) = 16 from by decide]
  refine r_callV hC (vs := [.int (-1), .int 16]) vX9_lowest_12 (sm_lower0 (d := d) (b := 16) hm hv) hm rfl rfl (by omega) (by omega) (by omega) (Nat.le_of_ble_eq_true rfl) (fun v_1 w_1 hP_1 hlen_1 => ?_) (fun _ _ h => h.elim)
  rw [hP_1.1, hP_1.2]
  show Wp X 0 0 w [(2, .int (-1)), (0, .ref m), (1, .int 21)] [.int (nI 16)] 15
  refine r_istore_n hC dX9_lowest_15 rfl (by rw [hnl]; decide) (L' := [(2, .int (nI 16)), (0, .ref m), (1, .int 21)]) rfl ?_
  refine r_iload_n hC dX9_lowest_16 rfl (j := 2) rfl ?_
  refine r_iconst hC dX9_lowest_17 (v := 5) (by decide) ?_
  refine r_irem hC dX9_lowest_18 (by decide) ?_
  rw [show (21 - 21 / 5 * 5 : Int32) = 1 from by decide]
  refine r_if_le hC dX9_lowest_19 (tgt := 31) (by decide) (fun h => absurd h (by decide)) (fun _ => ?_)
  refine r_aload_n hC dX9_lowest_22 rfl (j := 1) rfl ?_
  refine r_iload_n hC dX9_lowest_23 rfl (j := 0) rfl ?_
  refine r_iload_n hC dX9_lowest_24 rfl (j := 2) rfl ?_
  refine r_iconst hC dX9_lowest_25 (v := 1) (by decide) ?_
  refine r_isub hC dX9_lowest_26 ?_
  rw [show (21 - 1 : Int32) = 20 from by decide]
  refine r_callV hC (vs := [.int (nI 16), .int 20]) vX9_lowest_27 (sm_lower (d := d) (a := 16) (b := 20) hm hv h25 (by decide) (by decide)) hm rfl rfl (by omega) (by omega) (by omega) (Nat.le_of_ble_eq_true rfl) (fun v_2 w_2 hP_2 hlen_2 => ?_) (fun _ _ h => h.elim)
  rw [hP_2.1, hP_2.2]
  show Wp X 0 0 w [(2, .int (nI 16)), (0, .ref m), (1, .int 21)] [.int (nI (hPick f 16 20))] 30
  refine r_istore_n hC dX9_lowest_30 rfl (by rw [hnl]; decide) (L' := [(2, .int (nI (hPick f 16 20))), (0, .ref m), (1, .int 21)]) rfl ?_
  refine r_iload_n hC dX9_lowest_31 rfl (j := 2) rfl ?_
  refine r_iconst hC dX9_lowest_32 (v := 5) (by decide) ?_
  refine r_irem hC dX9_lowest_33 (by decide) ?_
  rw [show (21 - 21 / 5 * 5 : Int32) = 1 from by decide]
  refine r_iconst hC dX9_lowest_34 (v := 4) (by decide) ?_
  refine r_icmp_ge hC dX9_lowest_35 (tgt := 47) (by decide) (fun h => absurd h (by decide)) (fun _ => ?_)
  refine r_aload_n hC dX9_lowest_38 rfl (j := 1) rfl ?_
  refine r_iload_n hC dX9_lowest_39 rfl (j := 0) rfl ?_
  refine r_iload_n hC dX9_lowest_40 rfl (j := 2) rfl ?_
  refine r_iconst hC dX9_lowest_41 (v := 1) (by decide) ?_
  refine r_iadd hC dX9_lowest_42 ?_
  rw [show (21 + 1 : Int32) = 22 from by decide]
  refine r_callV hC (vs := [.int (nI (hPick f 16 20)), .int 22]) vX9_lowest_43 (sm_lower (d := d) (a := (hPick f 16 20)) (b := 22) hm hv h25 (hPick_lt (by decide) (by decide)) (by decide)) hm rfl rfl (by omega) (by omega) (by omega) (Nat.le_of_ble_eq_true rfl) (fun v_3 w_3 hP_3 hlen_3 => ?_) (fun _ _ h => h.elim)
  rw [hP_3.1, hP_3.2]
  show Wp X 0 0 w [(2, .int (nI (hPick f 16 20))), (0, .ref m), (1, .int 21)] [.int (nI (hPick f (hPick f 16 20) 22))] 46
  refine r_istore_n hC dX9_lowest_46 rfl (by rw [hnl]; decide) (L' := [(2, .int (nI (hPick f (hPick f 16 20) 22))), (0, .ref m), (1, .int 21)]) rfl ?_
  refine r_iload_n hC dX9_lowest_47 rfl (j := 2) rfl ?_
  refine r_bipush hC dX9_lowest_48 (v := 20) (by decide) ?_
  refine r_icmp_ge hC dX9_lowest_50 (tgt := 62) (by decide) (fun _ => ?_) (fun h => absurd (by decide) h)
  refine r_aload_n hC dX9_lowest_62 rfl (j := 1) rfl ?_
  refine r_get hC gX9_lowest_63 hm (v := .ref (m + 1)) rfl ?_
  refine r_iconst hC dX9_lowest_66 (v := 2) (by decide) ?_
  refine r_iald hC dX9_lowest_67 (j := 2) hv ⟨by decide, by decide, by decide⟩ ?_
  rw [show enc ((f, g, sl, op, lo), hd, rs, np, tp, av, lg, pl, tk) 2 = op from rfl]
  refine r_iconst hC dX9_lowest_68 (v := 1) (by decide) ?_
  refine r_icmp_ne hC dX9_lowest_69 (tgt := 89) (by decide) (fun c69 => ?_) (fun c69 => ?_)
  · refine r_iload_n hC dX9_lowest_89 rfl (j := 0) rfl ?_
    refine r_iret hC hE hR dX9_lowest_90 (by omega) (by omega) (rfl) ?_
    have o9 : op = 0 := hop.resolve_right c69
    have e9 : hLow f op 21 = (hPick f (hPick f 16 20) 22) := by
      unfold hLow
      rw [lowStep_o0 (c := 21) (s := 3) (by decide) o9, lowStep_in (n := 22) (c := 21) (s := 2) (by decide) (by decide), lowStep_in (n := 20) (c := 21) (s := 1) (by decide) (by decide)]
      rfl
    exact ⟨by rw [e9], rfl⟩
  · refine r_iload_n hC dX9_lowest_72 rfl (j := 2) rfl ?_
    refine r_callS hC (vs := [.int 21]) vX9_lowest_73 (sm_edge21 (d := d + 1)) rfl (by omega) (by omega) (by omega) (Nat.le_of_ble_eq_true rfl) (fun v_4 w_4 hP_4 hlen_4 => ?_) (fun _ _ h => h.elim)
    rw [hP_4.1, hP_4.2]
    show Wp X 0 0 w [(2, .int (nI (hPick f (hPick f 16 20) 22))), (0, .ref m), (1, .int 21)] [.int 1] 76
    refine r_if_eq hC dX9_lowest_76 (tgt := 89) (by decide) (fun h => absurd h (by decide)) (fun _ => ?_)
    refine r_aload_n hC dX9_lowest_79 rfl (j := 1) rfl ?_
    refine r_iload_n hC dX9_lowest_80 rfl (j := 0) rfl ?_
    refine r_bipush hC dX9_lowest_81 (v := 25) (by decide) ?_
    refine r_callV hC (vs := [.int (nI (hPick f (hPick f 16 20) 22)), .int 25]) vX9_lowest_83 (sm_lower (d := d) (a := (hPick f (hPick f 16 20) 22)) (b := 25) hm hv h25 (hPick_lt (hPick_lt (by decide) (by decide)) (by decide)) (by decide)) hm rfl rfl (by omega) (by omega) (by omega) (Nat.le_of_ble_eq_true rfl) (fun v_5 w_5 hP_5 hlen_5 => ?_) (fun _ _ h => h.elim)
    rw [hP_5.1, hP_5.2]
    show Wp X 0 0 w [(2, .int (nI (hPick f (hPick f 16 20) 22))), (0, .ref m), (1, .int 21)] [.int (nI (hPick f (hPick f (hPick f 16 20) 22) 25))] 86
    refine r_goto hC dX9_lowest_86 (tgt := 90) (by decide) ?_
    refine r_iret hC hE hR dX9_lowest_90 (by omega) (by omega) (rfl) ?_
    have o9 : op = 1 := c69
    have e9 : hLow f op 21 = (hPick f (hPick f (hPick f 16 20) 22) 25) := by
      unfold hLow
      rw [lowStep_o1 (c := 21) (s := 3) (by decide) o9, lowStep_in (n := 22) (c := 21) (s := 2) (by decide) (by decide), lowStep_in (n := 20) (c := 21) (s := 1) (by decide) (by decide)]
      rfl
    exact ⟨by rw [e9], rfl⟩
set_option maxRecDepth 100000 in
set_option maxHeartbeats 4000000 in
theorem sm_lowest22 {d : Nat} {w : mW} {m : Nat} {th ch ea fa sv0 tn he en ln iw id0 : Int32} {f g : Nat → Int32} {sl op lo : Int32} {hd rs : Nat → Int32} {np : Nat} {tp av lg pl tk : Int32} (hm : w[m]? = some (mO 10 [.int th, .int ch, .int ea, .int fa, .int sv0, .ref (m + 1), .ref (m + 2), .ref (m + 3), .ref (m + 4), .ref (m + 5), .ref (m + 6), .ref (m + 7), .ref (m + 8), .ref (m + 9), .ref (m + 10), .int tn, .int he, .int en, .int ln, .int iw, .int id0])) (hv : w[m + 1]? = some (mI 0 67 (enc ((f, g, sl, op, lo), hd, rs, np, tp, av, lg, pl, tk)))) (h25 : f 25 = 0) (hop : op = 0 ∨ op = 1) : Sp (d + 2) yX9_lowest cX9_lowest 3 (some .int) [.ref m, .int 22] w 0 0 (fun v w' => v = some (.int (nI (hLow f op 22))) ∧ w' = w) noX := by
  refine Sp.of (by decide +kernel) (Nat.le_of_ble_eq_true rfl) (fun X hC hnl hE hR hN => ?_)
  have hC : Cx X RX9 cX9_lowest (d + 2) 0 0 := hC
  show Wp X 0 0 w [(0, .ref m), (1, .int 22)] [] 0
  refine r_iconst hC dX9_lowest_0 (v := (-1)) (by decide) ?_
  refine r_istore_n hC dX9_lowest_1 rfl (by rw [hnl]; decide) (L' := [(2, .int (-1)), (0, .ref m), (1, .int 22)]) rfl ?_
  refine r_iload_n hC dX9_lowest_2 rfl (j := 2) rfl ?_
  refine r_iconst hC dX9_lowest_3 (v := 5) (by decide) ?_
  refine r_icmp_lt hC dX9_lowest_4 (tgt := 16) (by decide) (fun h => absurd h (by decide)) (fun _ => ?_)
  refine r_aload_n hC dX9_lowest_7 rfl (j := 1) rfl ?_
  refine r_iload_n hC dX9_lowest_8 rfl (j := 0) rfl ?_
  refine r_iload_n hC dX9_lowest_9 rfl (j := 2) rfl ?_
  refine r_iconst hC dX9_lowest_10 (v := 5) (by decide) ?_
  refine r_isub hC dX9_lowest_11 ?_
  rw [show (22 - 5 : Int32) = 17 from by decide]
  refine r_callV hC (vs := [.int (-1), .int 17]) vX9_lowest_12 (sm_lower0 (d := d) (b := 17) hm hv) hm rfl rfl (by omega) (by omega) (by omega) (Nat.le_of_ble_eq_true rfl) (fun v_1 w_1 hP_1 hlen_1 => ?_) (fun _ _ h => h.elim)
  rw [hP_1.1, hP_1.2]
  show Wp X 0 0 w [(2, .int (-1)), (0, .ref m), (1, .int 22)] [.int (nI 17)] 15
  refine r_istore_n hC dX9_lowest_15 rfl (by rw [hnl]; decide) (L' := [(2, .int (nI 17)), (0, .ref m), (1, .int 22)]) rfl ?_
  refine r_iload_n hC dX9_lowest_16 rfl (j := 2) rfl ?_
  refine r_iconst hC dX9_lowest_17 (v := 5) (by decide) ?_
  refine r_irem hC dX9_lowest_18 (by decide) ?_
  rw [show (22 - 22 / 5 * 5 : Int32) = 2 from by decide]
  refine r_if_le hC dX9_lowest_19 (tgt := 31) (by decide) (fun h => absurd h (by decide)) (fun _ => ?_)
  refine r_aload_n hC dX9_lowest_22 rfl (j := 1) rfl ?_
  refine r_iload_n hC dX9_lowest_23 rfl (j := 0) rfl ?_
  refine r_iload_n hC dX9_lowest_24 rfl (j := 2) rfl ?_
  refine r_iconst hC dX9_lowest_25 (v := 1) (by decide) ?_
  refine r_isub hC dX9_lowest_26 ?_
  rw [show (22 - 1 : Int32) = 21 from by decide]
  refine r_callV hC (vs := [.int (nI 17), .int 21]) vX9_lowest_27 (sm_lower (d := d) (a := 17) (b := 21) hm hv h25 (by decide) (by decide)) hm rfl rfl (by omega) (by omega) (by omega) (Nat.le_of_ble_eq_true rfl) (fun v_2 w_2 hP_2 hlen_2 => ?_) (fun _ _ h => h.elim)
  rw [hP_2.1, hP_2.2]
  show Wp X 0 0 w [(2, .int (nI 17)), (0, .ref m), (1, .int 22)] [.int (nI (hPick f 17 21))] 30
  refine r_istore_n hC dX9_lowest_30 rfl (by rw [hnl]; decide) (L' := [(2, .int (nI (hPick f 17 21))), (0, .ref m), (1, .int 22)]) rfl ?_
  refine r_iload_n hC dX9_lowest_31 rfl (j := 2) rfl ?_
  refine r_iconst hC dX9_lowest_32 (v := 5) (by decide) ?_
  refine r_irem hC dX9_lowest_33 (by decide) ?_
  rw [show (22 - 22 / 5 * 5 : Int32) = 2 from by decide]
  refine r_iconst hC dX9_lowest_34 (v := 4) (by decide) ?_
  refine r_icmp_ge hC dX9_lowest_35 (tgt := 47) (by decide) (fun h => absurd h (by decide)) (fun _ => ?_)
  refine r_aload_n hC dX9_lowest_38 rfl (j := 1) rfl ?_
  refine r_iload_n hC dX9_lowest_39 rfl (j := 0) rfl ?_
  refine r_iload_n hC dX9_lowest_40 rfl (j := 2) rfl ?_
  refine r_iconst hC dX9_lowest_41 (v := 1) (by decide) ?_
  refine r_iadd hC dX9_lowest_42 ?_
  rw [show (22 + 1 : Int32) = 23 from by decide]
  refine r_callV hC (vs := [.int (nI (hPick f 17 21)), .int 23]) vX9_lowest_43 (sm_lower (d := d) (a := (hPick f 17 21)) (b := 23) hm hv h25 (hPick_lt (by decide) (by decide)) (by decide)) hm rfl rfl (by omega) (by omega) (by omega) (Nat.le_of_ble_eq_true rfl) (fun v_3 w_3 hP_3 hlen_3 => ?_) (fun _ _ h => h.elim)
  rw [hP_3.1, hP_3.2]
  show Wp X 0 0 w [(2, .int (nI (hPick f 17 21))), (0, .ref m), (1, .int 22)] [.int (nI (hPick f (hPick f 17 21) 23))] 46
  refine r_istore_n hC dX9_lowest_46 rfl (by rw [hnl]; decide) (L' := [(2, .int (nI (hPick f (hPick f 17 21) 23))), (0, .ref m), (1, .int 22)]) rfl ?_
  refine r_iload_n hC dX9_lowest_47 rfl (j := 2) rfl ?_
  refine r_bipush hC dX9_lowest_48 (v := 20) (by decide) ?_
  refine r_icmp_ge hC dX9_lowest_50 (tgt := 62) (by decide) (fun _ => ?_) (fun h => absurd (by decide) h)
  refine r_aload_n hC dX9_lowest_62 rfl (j := 1) rfl ?_
  refine r_get hC gX9_lowest_63 hm (v := .ref (m + 1)) rfl ?_
  refine r_iconst hC dX9_lowest_66 (v := 2) (by decide) ?_
  refine r_iald hC dX9_lowest_67 (j := 2) hv ⟨by decide, by decide, by decide⟩ ?_
  rw [show enc ((f, g, sl, op, lo), hd, rs, np, tp, av, lg, pl, tk) 2 = op from rfl]
  refine r_iconst hC dX9_lowest_68 (v := 1) (by decide) ?_
  refine r_icmp_ne hC dX9_lowest_69 (tgt := 89) (by decide) (fun c69 => ?_) (fun c69 => ?_)
  · refine r_iload_n hC dX9_lowest_89 rfl (j := 0) rfl ?_
    refine r_iret hC hE hR dX9_lowest_90 (by omega) (by omega) (rfl) ?_
    have o9 : op = 0 := hop.resolve_right c69
    have e9 : hLow f op 22 = (hPick f (hPick f 17 21) 23) := by
      unfold hLow
      rw [lowStep_o0 (c := 22) (s := 3) (by decide) o9, lowStep_in (n := 23) (c := 22) (s := 2) (by decide) (by decide), lowStep_in (n := 21) (c := 22) (s := 1) (by decide) (by decide)]
      rfl
    exact ⟨by rw [e9], rfl⟩
  · refine r_iload_n hC dX9_lowest_72 rfl (j := 2) rfl ?_
    refine r_callS hC (vs := [.int 22]) vX9_lowest_73 (sm_edge22 (d := d + 1)) rfl (by omega) (by omega) (by omega) (Nat.le_of_ble_eq_true rfl) (fun v_4 w_4 hP_4 hlen_4 => ?_) (fun _ _ h => h.elim)
    rw [hP_4.1, hP_4.2]
    show Wp X 0 0 w [(2, .int (nI (hPick f (hPick f 17 21) 23))), (0, .ref m), (1, .int 22)] [.int 1] 76
    refine r_if_eq hC dX9_lowest_76 (tgt := 89) (by decide) (fun h => absurd h (by decide)) (fun _ => ?_)
    refine r_aload_n hC dX9_lowest_79 rfl (j := 1) rfl ?_
    refine r_iload_n hC dX9_lowest_80 rfl (j := 0) rfl ?_
    refine r_bipush hC dX9_lowest_81 (v := 25) (by decide) ?_
    refine r_callV hC (vs := [.int (nI (hPick f (hPick f 17 21) 23)), .int 25]) vX9_lowest_83 (sm_lower (d := d) (a := (hPick f (hPick f 17 21) 23)) (b := 25) hm hv h25 (hPick_lt (hPick_lt (by decide) (by decide)) (by decide)) (by decide)) hm rfl rfl (by omega) (by omega) (by omega) (Nat.le_of_ble_eq_true rfl) (fun v_5 w_5 hP_5 hlen_5 => ?_) (fun _ _ h => h.elim)
    rw [hP_5.1, hP_5.2]
    show Wp X 0 0 w [(2, .int (nI (hPick f (hPick f 17 21) 23))), (0, .ref m), (1, .int 22)] [.int (nI (hPick f (hPick f (hPick f 17 21) 23) 25))] 86
    refine r_goto hC dX9_lowest_86 (tgt := 90) (by decide) ?_
    refine r_iret hC hE hR dX9_lowest_90 (by omega) (by omega) (rfl) ?_
    have o9 : op = 1 := c69
    have e9 : hLow f op 22 = (hPick f (hPick f (hPick f 17 21) 23) 25) := by
      unfold hLow
      rw [lowStep_o1 (c := 22) (s := 3) (by decide) o9, lowStep_in (n := 23) (c := 22) (s := 2) (by decide) (by decide), lowStep_in (n := 21) (c := 22) (s := 1) (by decide) (by decide)]
      rfl
    exact ⟨by rw [e9], rfl⟩
set_option maxRecDepth 100000 in
set_option maxHeartbeats 4000000 in
theorem sm_lowest23 {d : Nat} {w : mW} {m : Nat} {th ch ea fa sv0 tn he en ln iw id0 : Int32} {f g : Nat → Int32} {sl op lo : Int32} {hd rs : Nat → Int32} {np : Nat} {tp av lg pl tk : Int32} (hm : w[m]? = some (mO 10 [.int th, .int ch, .int ea, .int fa, .int sv0, .ref (m + 1), .ref (m + 2), .ref (m + 3), .ref (m + 4), .ref (m + 5), .ref (m + 6), .ref (m + 7), .ref (m + 8), .ref (m + 9), .ref (m + 10), .int tn, .int he, .int en, .int ln, .int iw, .int id0])) (hv : w[m + 1]? = some (mI 0 67 (enc ((f, g, sl, op, lo), hd, rs, np, tp, av, lg, pl, tk)))) (h25 : f 25 = 0) (hop : op = 0 ∨ op = 1) : Sp (d + 2) yX9_lowest cX9_lowest 3 (some .int) [.ref m, .int 23] w 0 0 (fun v w' => v = some (.int (nI (hLow f op 23))) ∧ w' = w) noX := by
  refine Sp.of (by decide +kernel) (Nat.le_of_ble_eq_true rfl) (fun X hC hnl hE hR hN => ?_)
  have hC : Cx X RX9 cX9_lowest (d + 2) 0 0 := hC
  show Wp X 0 0 w [(0, .ref m), (1, .int 23)] [] 0
  refine r_iconst hC dX9_lowest_0 (v := (-1)) (by decide) ?_
  refine r_istore_n hC dX9_lowest_1 rfl (by rw [hnl]; decide) (L' := [(2, .int (-1)), (0, .ref m), (1, .int 23)]) rfl ?_
  refine r_iload_n hC dX9_lowest_2 rfl (j := 2) rfl ?_
  refine r_iconst hC dX9_lowest_3 (v := 5) (by decide) ?_
  refine r_icmp_lt hC dX9_lowest_4 (tgt := 16) (by decide) (fun h => absurd h (by decide)) (fun _ => ?_)
  refine r_aload_n hC dX9_lowest_7 rfl (j := 1) rfl ?_
  refine r_iload_n hC dX9_lowest_8 rfl (j := 0) rfl ?_
  refine r_iload_n hC dX9_lowest_9 rfl (j := 2) rfl ?_
  refine r_iconst hC dX9_lowest_10 (v := 5) (by decide) ?_
  refine r_isub hC dX9_lowest_11 ?_
  rw [show (23 - 5 : Int32) = 18 from by decide]
  refine r_callV hC (vs := [.int (-1), .int 18]) vX9_lowest_12 (sm_lower0 (d := d) (b := 18) hm hv) hm rfl rfl (by omega) (by omega) (by omega) (Nat.le_of_ble_eq_true rfl) (fun v_1 w_1 hP_1 hlen_1 => ?_) (fun _ _ h => h.elim)
  rw [hP_1.1, hP_1.2]
  show Wp X 0 0 w [(2, .int (-1)), (0, .ref m), (1, .int 23)] [.int (nI 18)] 15
  refine r_istore_n hC dX9_lowest_15 rfl (by rw [hnl]; decide) (L' := [(2, .int (nI 18)), (0, .ref m), (1, .int 23)]) rfl ?_
  refine r_iload_n hC dX9_lowest_16 rfl (j := 2) rfl ?_
  refine r_iconst hC dX9_lowest_17 (v := 5) (by decide) ?_
  refine r_irem hC dX9_lowest_18 (by decide) ?_
  rw [show (23 - 23 / 5 * 5 : Int32) = 3 from by decide]
  refine r_if_le hC dX9_lowest_19 (tgt := 31) (by decide) (fun h => absurd h (by decide)) (fun _ => ?_)
  refine r_aload_n hC dX9_lowest_22 rfl (j := 1) rfl ?_
  refine r_iload_n hC dX9_lowest_23 rfl (j := 0) rfl ?_
  refine r_iload_n hC dX9_lowest_24 rfl (j := 2) rfl ?_
  refine r_iconst hC dX9_lowest_25 (v := 1) (by decide) ?_
  refine r_isub hC dX9_lowest_26 ?_
  rw [show (23 - 1 : Int32) = 22 from by decide]
  refine r_callV hC (vs := [.int (nI 18), .int 22]) vX9_lowest_27 (sm_lower (d := d) (a := 18) (b := 22) hm hv h25 (by decide) (by decide)) hm rfl rfl (by omega) (by omega) (by omega) (Nat.le_of_ble_eq_true rfl) (fun v_2 w_2 hP_2 hlen_2 => ?_) (fun _ _ h => h.elim)
  rw [hP_2.1, hP_2.2]
  show Wp X 0 0 w [(2, .int (nI 18)), (0, .ref m), (1, .int 23)] [.int (nI (hPick f 18 22))] 30
  refine r_istore_n hC dX9_lowest_30 rfl (by rw [hnl]; decide) (L' := [(2, .int (nI (hPick f 18 22))), (0, .ref m), (1, .int 23)]) rfl ?_
  refine r_iload_n hC dX9_lowest_31 rfl (j := 2) rfl ?_
  refine r_iconst hC dX9_lowest_32 (v := 5) (by decide) ?_
  refine r_irem hC dX9_lowest_33 (by decide) ?_
  rw [show (23 - 23 / 5 * 5 : Int32) = 3 from by decide]
  refine r_iconst hC dX9_lowest_34 (v := 4) (by decide) ?_
  refine r_icmp_ge hC dX9_lowest_35 (tgt := 47) (by decide) (fun h => absurd h (by decide)) (fun _ => ?_)
  refine r_aload_n hC dX9_lowest_38 rfl (j := 1) rfl ?_
  refine r_iload_n hC dX9_lowest_39 rfl (j := 0) rfl ?_
  refine r_iload_n hC dX9_lowest_40 rfl (j := 2) rfl ?_
  refine r_iconst hC dX9_lowest_41 (v := 1) (by decide) ?_
  refine r_iadd hC dX9_lowest_42 ?_
  rw [show (23 + 1 : Int32) = 24 from by decide]
  refine r_callV hC (vs := [.int (nI (hPick f 18 22)), .int 24]) vX9_lowest_43 (sm_lower (d := d) (a := (hPick f 18 22)) (b := 24) hm hv h25 (hPick_lt (by decide) (by decide)) (by decide)) hm rfl rfl (by omega) (by omega) (by omega) (Nat.le_of_ble_eq_true rfl) (fun v_3 w_3 hP_3 hlen_3 => ?_) (fun _ _ h => h.elim)
  rw [hP_3.1, hP_3.2]
  show Wp X 0 0 w [(2, .int (nI (hPick f 18 22))), (0, .ref m), (1, .int 23)] [.int (nI (hPick f (hPick f 18 22) 24))] 46
  refine r_istore_n hC dX9_lowest_46 rfl (by rw [hnl]; decide) (L' := [(2, .int (nI (hPick f (hPick f 18 22) 24))), (0, .ref m), (1, .int 23)]) rfl ?_
  refine r_iload_n hC dX9_lowest_47 rfl (j := 2) rfl ?_
  refine r_bipush hC dX9_lowest_48 (v := 20) (by decide) ?_
  refine r_icmp_ge hC dX9_lowest_50 (tgt := 62) (by decide) (fun _ => ?_) (fun h => absurd (by decide) h)
  refine r_aload_n hC dX9_lowest_62 rfl (j := 1) rfl ?_
  refine r_get hC gX9_lowest_63 hm (v := .ref (m + 1)) rfl ?_
  refine r_iconst hC dX9_lowest_66 (v := 2) (by decide) ?_
  refine r_iald hC dX9_lowest_67 (j := 2) hv ⟨by decide, by decide, by decide⟩ ?_
  rw [show enc ((f, g, sl, op, lo), hd, rs, np, tp, av, lg, pl, tk) 2 = op from rfl]
  refine r_iconst hC dX9_lowest_68 (v := 1) (by decide) ?_
  refine r_icmp_ne hC dX9_lowest_69 (tgt := 89) (by decide) (fun c69 => ?_) (fun c69 => ?_)
  · refine r_iload_n hC dX9_lowest_89 rfl (j := 0) rfl ?_
    refine r_iret hC hE hR dX9_lowest_90 (by omega) (by omega) (rfl) ?_
    have o9 : op = 0 := hop.resolve_right c69
    have e9 : hLow f op 23 = (hPick f (hPick f 18 22) 24) := by
      unfold hLow
      rw [lowStep_o0 (c := 23) (s := 3) (by decide) o9, lowStep_in (n := 24) (c := 23) (s := 2) (by decide) (by decide), lowStep_in (n := 22) (c := 23) (s := 1) (by decide) (by decide)]
      rfl
    exact ⟨by rw [e9], rfl⟩
  · refine r_iload_n hC dX9_lowest_72 rfl (j := 2) rfl ?_
    refine r_callS hC (vs := [.int 23]) vX9_lowest_73 (sm_edge23 (d := d + 1)) rfl (by omega) (by omega) (by omega) (Nat.le_of_ble_eq_true rfl) (fun v_4 w_4 hP_4 hlen_4 => ?_) (fun _ _ h => h.elim)
    rw [hP_4.1, hP_4.2]
    show Wp X 0 0 w [(2, .int (nI (hPick f (hPick f 18 22) 24))), (0, .ref m), (1, .int 23)] [.int 1] 76
    refine r_if_eq hC dX9_lowest_76 (tgt := 89) (by decide) (fun h => absurd h (by decide)) (fun _ => ?_)
    refine r_aload_n hC dX9_lowest_79 rfl (j := 1) rfl ?_
    refine r_iload_n hC dX9_lowest_80 rfl (j := 0) rfl ?_
    refine r_bipush hC dX9_lowest_81 (v := 25) (by decide) ?_
    refine r_callV hC (vs := [.int (nI (hPick f (hPick f 18 22) 24)), .int 25]) vX9_lowest_83 (sm_lower (d := d) (a := (hPick f (hPick f 18 22) 24)) (b := 25) hm hv h25 (hPick_lt (hPick_lt (by decide) (by decide)) (by decide)) (by decide)) hm rfl rfl (by omega) (by omega) (by omega) (Nat.le_of_ble_eq_true rfl) (fun v_5 w_5 hP_5 hlen_5 => ?_) (fun _ _ h => h.elim)
    rw [hP_5.1, hP_5.2]
    show Wp X 0 0 w [(2, .int (nI (hPick f (hPick f 18 22) 24))), (0, .ref m), (1, .int 23)] [.int (nI (hPick f (hPick f (hPick f 18 22) 24) 25))] 86
    refine r_goto hC dX9_lowest_86 (tgt := 90) (by decide) ?_
    refine r_iret hC hE hR dX9_lowest_90 (by omega) (by omega) (rfl) ?_
    have o9 : op = 1 := c69
    have e9 : hLow f op 23 = (hPick f (hPick f (hPick f 18 22) 24) 25) := by
      unfold hLow
      rw [lowStep_o1 (c := 23) (s := 3) (by decide) o9, lowStep_in (n := 24) (c := 23) (s := 2) (by decide) (by decide), lowStep_in (n := 22) (c := 23) (s := 1) (by decide) (by decide)]
      rfl
    exact ⟨by rw [e9], rfl⟩
set_option maxRecDepth 100000 in
set_option maxHeartbeats 4000000 in
theorem sm_lowest24 {d : Nat} {w : mW} {m : Nat} {th ch ea fa sv0 tn he en ln iw id0 : Int32} {f g : Nat → Int32} {sl op lo : Int32} {hd rs : Nat → Int32} {np : Nat} {tp av lg pl tk : Int32} (hm : w[m]? = some (mO 10 [.int th, .int ch, .int ea, .int fa, .int sv0, .ref (m + 1), .ref (m + 2), .ref (m + 3), .ref (m + 4), .ref (m + 5), .ref (m + 6), .ref (m + 7), .ref (m + 8), .ref (m + 9), .ref (m + 10), .int tn, .int he, .int en, .int ln, .int iw, .int id0])) (hv : w[m + 1]? = some (mI 0 67 (enc ((f, g, sl, op, lo), hd, rs, np, tp, av, lg, pl, tk)))) (h25 : f 25 = 0) (hop : op = 0 ∨ op = 1) : Sp (d + 2) yX9_lowest cX9_lowest 3 (some .int) [.ref m, .int 24] w 0 0 (fun v w' => v = some (.int (nI (hLow f op 24))) ∧ w' = w) noX := by
  refine Sp.of (by decide +kernel) (Nat.le_of_ble_eq_true rfl) (fun X hC hnl hE hR hN => ?_)
  have hC : Cx X RX9 cX9_lowest (d + 2) 0 0 := hC
  show Wp X 0 0 w [(0, .ref m), (1, .int 24)] [] 0
  refine r_iconst hC dX9_lowest_0 (v := (-1)) (by decide) ?_
  refine r_istore_n hC dX9_lowest_1 rfl (by rw [hnl]; decide) (L' := [(2, .int (-1)), (0, .ref m), (1, .int 24)]) rfl ?_
  refine r_iload_n hC dX9_lowest_2 rfl (j := 2) rfl ?_
  refine r_iconst hC dX9_lowest_3 (v := 5) (by decide) ?_
  refine r_icmp_lt hC dX9_lowest_4 (tgt := 16) (by decide) (fun h => absurd h (by decide)) (fun _ => ?_)
  refine r_aload_n hC dX9_lowest_7 rfl (j := 1) rfl ?_
  refine r_iload_n hC dX9_lowest_8 rfl (j := 0) rfl ?_
  refine r_iload_n hC dX9_lowest_9 rfl (j := 2) rfl ?_
  refine r_iconst hC dX9_lowest_10 (v := 5) (by decide) ?_
  refine r_isub hC dX9_lowest_11 ?_
  rw [show (24 - 5 : Int32) = 19 from by decide]
  refine r_callV hC (vs := [.int (-1), .int 19]) vX9_lowest_12 (sm_lower0 (d := d) (b := 19) hm hv) hm rfl rfl (by omega) (by omega) (by omega) (Nat.le_of_ble_eq_true rfl) (fun v_1 w_1 hP_1 hlen_1 => ?_) (fun _ _ h => h.elim)
  rw [hP_1.1, hP_1.2]
  show Wp X 0 0 w [(2, .int (-1)), (0, .ref m), (1, .int 24)] [.int (nI 19)] 15
  refine r_istore_n hC dX9_lowest_15 rfl (by rw [hnl]; decide) (L' := [(2, .int (nI 19)), (0, .ref m), (1, .int 24)]) rfl ?_
  refine r_iload_n hC dX9_lowest_16 rfl (j := 2) rfl ?_
  refine r_iconst hC dX9_lowest_17 (v := 5) (by decide) ?_
  refine r_irem hC dX9_lowest_18 (by decide) ?_
  rw [show (24 - 24 / 5 * 5 : Int32) = 4 from by decide]
  refine r_if_le hC dX9_lowest_19 (tgt := 31) (by decide) (fun h => absurd h (by decide)) (fun _ => ?_)
  refine r_aload_n hC dX9_lowest_22 rfl (j := 1) rfl ?_
  refine r_iload_n hC dX9_lowest_23 rfl (j := 0) rfl ?_
  refine r_iload_n hC dX9_lowest_24 rfl (j := 2) rfl ?_
  refine r_iconst hC dX9_lowest_25 (v := 1) (by decide) ?_
  refine r_isub hC dX9_lowest_26 ?_
  rw [show (24 - 1 : Int32) = 23 from by decide]
  refine r_callV hC (vs := [.int (nI 19), .int 23]) vX9_lowest_27 (sm_lower (d := d) (a := 19) (b := 23) hm hv h25 (by decide) (by decide)) hm rfl rfl (by omega) (by omega) (by omega) (Nat.le_of_ble_eq_true rfl) (fun v_2 w_2 hP_2 hlen_2 => ?_) (fun _ _ h => h.elim)
  rw [hP_2.1, hP_2.2]
  show Wp X 0 0 w [(2, .int (nI 19)), (0, .ref m), (1, .int 24)] [.int (nI (hPick f 19 23))] 30
  refine r_istore_n hC dX9_lowest_30 rfl (by rw [hnl]; decide) (L' := [(2, .int (nI (hPick f 19 23))), (0, .ref m), (1, .int 24)]) rfl ?_
  refine r_iload_n hC dX9_lowest_31 rfl (j := 2) rfl ?_
  refine r_iconst hC dX9_lowest_32 (v := 5) (by decide) ?_
  refine r_irem hC dX9_lowest_33 (by decide) ?_
  rw [show (24 - 24 / 5 * 5 : Int32) = 4 from by decide]
  refine r_iconst hC dX9_lowest_34 (v := 4) (by decide) ?_
  refine r_icmp_ge hC dX9_lowest_35 (tgt := 47) (by decide) (fun _ => ?_) (fun h => absurd (by decide) h)
  refine r_iload_n hC dX9_lowest_47 rfl (j := 2) rfl ?_
  refine r_bipush hC dX9_lowest_48 (v := 20) (by decide) ?_
  refine r_icmp_ge hC dX9_lowest_50 (tgt := 62) (by decide) (fun _ => ?_) (fun h => absurd (by decide) h)
  refine r_aload_n hC dX9_lowest_62 rfl (j := 1) rfl ?_
  refine r_get hC gX9_lowest_63 hm (v := .ref (m + 1)) rfl ?_
  refine r_iconst hC dX9_lowest_66 (v := 2) (by decide) ?_
  refine r_iald hC dX9_lowest_67 (j := 2) hv ⟨by decide, by decide, by decide⟩ ?_
  rw [show enc ((f, g, sl, op, lo), hd, rs, np, tp, av, lg, pl, tk) 2 = op from rfl]
  refine r_iconst hC dX9_lowest_68 (v := 1) (by decide) ?_
  refine r_icmp_ne hC dX9_lowest_69 (tgt := 89) (by decide) (fun c69 => ?_) (fun c69 => ?_)
  · refine r_iload_n hC dX9_lowest_89 rfl (j := 0) rfl ?_
    refine r_iret hC hE hR dX9_lowest_90 (by omega) (by omega) (rfl) ?_
    have o9 : op = 0 := hop.resolve_right c69
    have e9 : hLow f op 24 = (hPick f 19 23) := by
      unfold hLow
      rw [lowStep_o0 (c := 24) (s := 3) (by decide) o9, lowStep_o0 (c := 24) (s := 2) (by decide) o9, lowStep_in (n := 23) (c := 24) (s := 1) (by decide) (by decide)]
      rfl
    exact ⟨by rw [e9], rfl⟩
  · refine r_iload_n hC dX9_lowest_72 rfl (j := 2) rfl ?_
    refine r_callS hC (vs := [.int 24]) vX9_lowest_73 (sm_edge24 (d := d + 1)) rfl (by omega) (by omega) (by omega) (Nat.le_of_ble_eq_true rfl) (fun v_3 w_3 hP_3 hlen_3 => ?_) (fun _ _ h => h.elim)
    rw [hP_3.1, hP_3.2]
    show Wp X 0 0 w [(2, .int (nI (hPick f 19 23))), (0, .ref m), (1, .int 24)] [.int 1] 76
    refine r_if_eq hC dX9_lowest_76 (tgt := 89) (by decide) (fun h => absurd h (by decide)) (fun _ => ?_)
    refine r_aload_n hC dX9_lowest_79 rfl (j := 1) rfl ?_
    refine r_iload_n hC dX9_lowest_80 rfl (j := 0) rfl ?_
    refine r_bipush hC dX9_lowest_81 (v := 25) (by decide) ?_
    refine r_callV hC (vs := [.int (nI (hPick f 19 23)), .int 25]) vX9_lowest_83 (sm_lower (d := d) (a := (hPick f 19 23)) (b := 25) hm hv h25 (hPick_lt (by decide) (by decide)) (by decide)) hm rfl rfl (by omega) (by omega) (by omega) (Nat.le_of_ble_eq_true rfl) (fun v_4 w_4 hP_4 hlen_4 => ?_) (fun _ _ h => h.elim)
    rw [hP_4.1, hP_4.2]
    show Wp X 0 0 w [(2, .int (nI (hPick f 19 23))), (0, .ref m), (1, .int 24)] [.int (nI (hPick f (hPick f 19 23) 25))] 86
    refine r_goto hC dX9_lowest_86 (tgt := 90) (by decide) ?_
    refine r_iret hC hE hR dX9_lowest_90 (by omega) (by omega) (rfl) ?_
    have o9 : op = 1 := c69
    have e9 : hLow f op 24 = (hPick f (hPick f 19 23) 25) := by
      unfold hLow
      rw [lowStep_o1 (c := 24) (s := 3) (by decide) o9, lowStep_o1 (c := 24) (s := 2) (by decide) o9, lowStep_in (n := 23) (c := 24) (s := 1) (by decide) (by decide), hPick_id]
      rfl
    exact ⟨by rw [e9], rfl⟩
theorem sm_lowest {d c : Nat} {w : mW} {m : Nat} {th ch ea fa sv0 tn he en ln iw id0 : Int32} {f g : Nat → Int32} {sl op lo : Int32} {hd rs : Nat → Int32} {np : Nat} {tp av lg pl tk : Int32} (hm : w[m]? = some (mO 10 [.int th, .int ch, .int ea, .int fa, .int sv0, .ref (m + 1), .ref (m + 2), .ref (m + 3), .ref (m + 4), .ref (m + 5), .ref (m + 6), .ref (m + 7), .ref (m + 8), .ref (m + 9), .ref (m + 10), .int tn, .int he, .int en, .int ln, .int iw, .int id0])) (hv : w[m + 1]? = some (mI 0 67 (enc ((f, g, sl, op, lo), hd, rs, np, tp, av, lg, pl, tk)))) (h25 : f 25 = 0) (hop : op = 0 ∨ op = 1) (hc : c < 25) : Sp (d + 2) yX9_lowest cX9_lowest 3 (some .int) [.ref m, .int (nI c)] w 0 0 (fun v w' => v = some (.int (nI (hLow f op c))) ∧ w' = w) noX := by
  match c, hc with
  | 0, _ => exact sm_lowest0 hm hv h25 hop
  | 1, _ => exact sm_lowest1 hm hv h25 hop
  | 2, _ => exact sm_lowest2 hm hv h25 hop
  | 3, _ => exact sm_lowest3 hm hv h25 hop
  | 4, _ => exact sm_lowest4 hm hv h25 hop
  | 5, _ => exact sm_lowest5 hm hv h25 hop
  | 6, _ => exact sm_lowest6 hm hv h25 hop
  | 7, _ => exact sm_lowest7 hm hv h25 hop
  | 8, _ => exact sm_lowest8 hm hv h25 hop
  | 9, _ => exact sm_lowest9 hm hv h25 hop
  | 10, _ => exact sm_lowest10 hm hv h25 hop
  | 11, _ => exact sm_lowest11 hm hv h25 hop
  | 12, _ => exact sm_lowest12 hm hv h25 hop
  | 13, _ => exact sm_lowest13 hm hv h25 hop
  | 14, _ => exact sm_lowest14 hm hv h25 hop
  | 15, _ => exact sm_lowest15 hm hv h25 hop
  | 16, _ => exact sm_lowest16 hm hv h25 hop
  | 17, _ => exact sm_lowest17 hm hv h25 hop
  | 18, _ => exact sm_lowest18 hm hv h25 hop
  | 19, _ => exact sm_lowest19 hm hv h25 hop
  | 20, _ => exact sm_lowest20 hm hv h25 hop
  | 21, _ => exact sm_lowest21 hm hv h25 hop
  | 22, _ => exact sm_lowest22 hm hv h25 hop
  | 23, _ => exact sm_lowest23 hm hv h25 hop
  | 24, _ => exact sm_lowest24 hm hv h25 hop
  | n + 25, h => exact absurd h (by omega)
set_option maxRecDepth 100000 in
set_option maxHeartbeats 4000000 in
theorem sm_steep {d c : Nat} {w : mW} {m : Nat} {th ch ea fa sv0 tn he en ln iw id0 : Int32} {f g : Nat → Int32} {sl op lo : Int32} {hd rs : Nat → Int32} {np : Nat} {tp av lg pl tk : Int32} (hm : w[m]? = some (mO 10 [.int th, .int ch, .int ea, .int fa, .int sv0, .ref (m + 1), .ref (m + 2), .ref (m + 3), .ref (m + 4), .ref (m + 5), .ref (m + 6), .ref (m + 7), .ref (m + 8), .ref (m + 9), .ref (m + 10), .int tn, .int he, .int en, .int ln, .int iw, .int id0])) (hv : w[m + 1]? = some (mI 0 67 (enc ((f, g, sl, op, lo), hd, rs, np, tp, av, lg, pl, tk)))) (h25 : f 25 = 0) (hop : op = 0 ∨ op = 1) (hc : c < 25) : Sp (d + 3) yX9_steep cX9_steep 2 (some .int) [.ref m, .int (nI c)] w 0 0 (fun v w' => v = some (.int (hSteep f op c)) ∧ w' = w) noX := by
  refine Sp.of (by decide +kernel) (Nat.le_of_ble_eq_true rfl) (fun X hC hnl hE hR hN => ?_)
  have hC : Cx X RX9 cX9_steep (d + 3) 0 0 := hC
  show Wp X 0 0 w [(0, .ref m), (1, .int (nI c))] [] 0
  refine r_aload_n hC dX9_steep_0 rfl (j := 0) rfl ?_
  refine r_get hC gX9_steep_1 hm (v := .ref (m + 1)) rfl ?_
  refine r_bipush hC dX9_steep_4 (v := 17) (by decide) ?_
  refine r_iload_n hC dX9_steep_6 rfl (j := 1) rfl ?_
  refine r_iadd hC dX9_steep_7 ?_
  refine r_iald hC dX9_steep_8 (j := (17 + c)) hv (ix17 (c := c) (by omega)) ?_
  rw [enc_hi (c := c) (by omega)]
  refine r_aload_n hC dX9_steep_9 rfl (j := 0) rfl ?_
  refine r_aload_n hC dX9_steep_10 rfl (j := 0) rfl ?_
  refine r_iload_n hC dX9_steep_11 rfl (j := 1) rfl ?_
  refine r_callV hC (vs := [.int (nI c)]) vX9_steep_12 (sm_lowest (d := d) hm hv h25 hop hc) hm rfl rfl (by omega) (by omega) (by omega) (Nat.le_of_ble_eq_true rfl) (fun v_1 w_1 hP_1 hlen_1 => ?_) (fun _ _ h => h.elim)
  rw [hP_1.1, hP_1.2]
  show Wp X 0 0 w [(0, .ref m), (1, .int (nI c))] [.int (nI (hLow f op c)), .ref m, .int (f c)] 15
  refine r_callV hC (vs := [.int (nI (hLow f op c))]) vX9_steep_15 (sm_high (d := d + 2) (c := hLow f op c) hm hv h25 (hLow_lt hc)) hm rfl rfl (by omega) (by omega) (by omega) (Nat.le_of_ble_eq_true rfl) (fun v_2 w_2 hP_2 hlen_2 => ?_) (fun _ _ h => h.elim)
  rw [hP_2.1, hP_2.2]
  show Wp X 0 0 w [(0, .ref m), (1, .int (nI c))] [.int (f (hLow f op c)), .int (f c)] 18
  refine r_isub hC dX9_steep_18 ?_
  refine r_iret hC hE hR dX9_steep_19 (by omega) (by omega) (rfl) ?_
  exact ⟨rfl, rfl⟩
theorem oI_lt0 {o : Option Nat} {N : Nat} (ho : ∀ k, o = some k → k < N) (hN : N < 2 ^ 31) : oI o < 0 ↔ o = none := by
  cases o with
  | none => exact ⟨fun _ => rfl, fun _ => by decide⟩
  | some k => exact ⟨fun h => absurd h (nI_pos (by have := ho k rfl; omega)), fun h => by cases h⟩
set_option maxRecDepth 100000 in
set_option maxHeartbeats 4000000 in
theorem nx_it {X : mC} {d : Nat} {c : Nat} {w : mW} {m : Nat} {th ch ea fa sv0 tn he en ln iw id0 : Int32} {f g : Nat → Int32} {sl op lo : Int32} {hd rs : Nat → Int32} {np : Nat} {tp av lg pl tk : Int32} (hC : Cx X RX9 cX9_next (d + 4) 0 0) (hnl : mNL X = 3) (hm : w[m]? = some (mO 10 [.int th, .int ch, .int ea, .int fa, .int sv0, .ref (m + 1), .ref (m + 2), .ref (m + 3), .ref (m + 4), .ref (m + 5), .ref (m + 6), .ref (m + 7), .ref (m + 8), .ref (m + 9), .ref (m + 10), .int tn, .int he, .int en, .int ln, .int iw, .int id0])) (hv : w[m + 1]? = some (mI 0 67 (enc ((f, g, sl, op, lo), hd, rs, np, tp, av, lg, pl, tk)))) (h25 : f 25 = 0) (hop : op = 0 ∨ op = 1) (hc : c < 25) (kk : Wp X 0 0 w [(0, .ref m), (1, .int (oI (hNext f op sl (c + 1)))), (2, .int (nI (c + 1)))] [] 4) : Wp X 0 0 w [(0, .ref m), (1, .int (oI (hNext f op sl c))), (2, .int (nI c))] [] 4 := by
  have hlt := fun k => hNext_lt (f := f) (op := op) (sl := sl) (c := c) (k := k)
  refine r_iload_n hC dX9_next_4 rfl (j := 2) rfl ?_
  refine r_bipush hC dX9_next_5 (v := 25) (by decide) ?_
  refine r_icmp_ge hC dX9_next_7 (tgt := 61) (by decide) (fun h => absurd h (lit_ge rfl hc (by decide))) (fun _ => ?_)
  refine r_aload_n hC dX9_next_10 rfl (j := 0) rfl ?_
  refine r_iload_n hC dX9_next_11 rfl (j := 2) rfl ?_
  refine r_callV hC (vs := [.int (nI c)]) vX9_next_12 (sm_steep (d := d) hm hv h25 hop hc) hm rfl rfl (by omega) (by omega) (by omega) (Nat.le_of_ble_eq_true rfl) (fun v_1 w_1 hP_1 hlen_1 => ?_) (fun _ _ h => h.elim)
  rw [hP_1.1, hP_1.2]
  show Wp X 0 0 w [(0, .ref m), (1, .int (oI (hNext f op sl c))), (2, .int (nI c))] [.int (hSteep f op c)] 15
  refine r_aload_n hC dX9_next_15 rfl (j := 0) rfl ?_
  refine r_get hC gX9_next_16 hm (v := .ref (m + 1)) rfl ?_
  refine r_iconst hC dX9_next_19 (v := 1) (by decide) ?_
  refine r_iald hC dX9_next_20 (j := 1) hv ⟨by decide, by decide, by decide⟩ ?_
  rw [show enc ((f, g, sl, op, lo), hd, rs, np, tp, av, lg, pl, tk) 1 = sl from rfl]
  refine r_icmp_lt hC dX9_next_21 (tgt := 53) (by decide) (fun c21 => ?_) (fun c21 => ?_)
  · refine r_iload_n hC dX9_next_53 rfl (j := 1) rfl ?_
    refine r_istore_n hC dX9_next_54 rfl (by rw [hnl]; decide) (L' := [(1, .int (oI (hNext f op sl c))), (0, .ref m), (2, .int (nI c))]) rfl ?_
    refine r_iinc hC dX9_next_55 (j := 2) rfl (v := nI (c + 1)) (nI_succ c).symm (by rw [hnl]; decide) (L' := [(2, .int (nI (c + 1))), (1, .int (oI (hNext f op sl c))), (0, .ref m)]) rfl ?_
    refine r_goto hC dX9_next_58 (tgt := 4) (by decide) ?_
    refine r_locals [2, 1, 0] (L' := [(0, .ref m), (1, .int (oI (hNext f op sl c))), (2, .int (nI (c + 1)))]) rfl ?_
    have e9 : hNext f op sl (c + 1) = hNext f op sl c := if_neg (fun q => q.2 c21)
    rw [e9] at kk
    exact kk
  · refine r_iload_n hC dX9_next_24 rfl (j := 1) rfl ?_
    refine r_if_lt hC dX9_next_25 (tgt := 49) (by decide) (fun c25 => ?_) (fun c25 => ?_)
    · refine r_iload_n hC dX9_next_49 rfl (j := 2) rfl ?_
      refine r_goto hC dX9_next_50 (tgt := 54) (by decide) ?_
      refine r_istore_n hC dX9_next_54 rfl (by rw [hnl]; decide) (L' := [(1, .int (nI c)), (0, .ref m), (2, .int (nI c))]) rfl ?_
      refine r_iinc hC dX9_next_55 (j := 2) rfl (v := nI (c + 1)) (nI_succ c).symm (by rw [hnl]; decide) (L' := [(2, .int (nI (c + 1))), (1, .int (nI c)), (0, .ref m)]) rfl ?_
      refine r_goto hC dX9_next_58 (tgt := 4) (by decide) ?_
      refine r_locals [2, 1, 0] (L' := [(0, .ref m), (1, .int (nI c)), (2, .int (nI (c + 1)))]) rfl ?_
      have e9 : hNext f op sl (c + 1) = some c := if_pos ⟨Or.inl ((oI_lt0 (N := 25) (fun k h => by have := hlt k h; omega) (by decide)).mp c25), c21⟩
      rw [e9] at kk
      exact kk
    · obtain ⟨k9, hk9⟩ : ∃ k, hNext f op sl c = some k := by
        cases hq9 : hNext f op sl c with
        | none => exact absurd (by rw [hq9]; decide) c25
        | some k => exact ⟨k, rfl⟩
      have hkl := hlt k9 hk9
      have ho1 : oI (hNext f op sl c) = nI k9 := by rw [hk9]; rfl
      have ho2 : f k9 = oAt f (hNext f op sl c) := by rw [hk9]; rfl
      rw [ho1]
      refine r_aload_n hC dX9_next_28 rfl (j := 0) rfl ?_
      refine r_get hC gX9_next_29 hm (v := .ref (m + 1)) rfl ?_
      refine r_bipush hC dX9_next_32 (v := 17) (by decide) ?_
      refine r_iload_n hC dX9_next_34 rfl (j := 2) rfl ?_
      refine r_iadd hC dX9_next_35 ?_
      refine r_iald hC dX9_next_36 (j := (17 + c)) hv (ix17 (c := c) (by omega)) ?_
      rw [enc_hi (c := c) (by omega)]
      refine r_aload_n hC dX9_next_37 rfl (j := 0) rfl ?_
      refine r_get hC gX9_next_38 hm (v := .ref (m + 1)) rfl ?_
      refine r_bipush hC dX9_next_41 (v := 17) (by decide) ?_
      refine r_iload_n hC dX9_next_43 rfl (j := 1) rfl ?_
      refine r_iadd hC dX9_next_44 ?_
      refine r_iald hC dX9_next_45 (j := (17 + k9)) hv (ix17 (c := k9) (by omega)) ?_
      rw [enc_hi (c := k9) (by omega)]
      refine r_icmp_le hC dX9_next_46 (tgt := 53) (by decide) (fun c46 => ?_) (fun c46 => ?_)
      · refine r_iload_n hC dX9_next_53 rfl (j := 1) rfl ?_
        refine r_istore_n hC dX9_next_54 rfl (by rw [hnl]; decide) (L' := [(1, .int (nI k9)), (0, .ref m), (2, .int (nI c))]) rfl ?_
        refine r_iinc hC dX9_next_55 (j := 2) rfl (v := nI (c + 1)) (nI_succ c).symm (by rw [hnl]; decide) (L' := [(2, .int (nI (c + 1))), (1, .int (nI k9)), (0, .ref m)]) rfl ?_
        refine r_goto hC dX9_next_58 (tgt := 4) (by decide) ?_
        refine r_locals [2, 1, 0] (L' := [(0, .ref m), (1, .int (nI k9)), (2, .int (nI (c + 1)))]) rfl ?_
        have e9 : hNext f op sl (c + 1) = hNext f op sl c := if_neg (fun q => q.1.elim (fun h => c25 ((oI_lt0 (N := 25) (fun k h => by have := hlt k h; omega) (by decide)).mpr h)) (fun h => h (by rw [← ho2]; exact c46)))
        rw [e9, ho1] at kk
        exact kk
      · refine r_iload_n hC dX9_next_49 rfl (j := 2) rfl ?_
        refine r_goto hC dX9_next_50 (tgt := 54) (by decide) ?_
        refine r_istore_n hC dX9_next_54 rfl (by rw [hnl]; decide) (L' := [(1, .int (nI c)), (0, .ref m), (2, .int (nI c))]) rfl ?_
        refine r_iinc hC dX9_next_55 (j := 2) rfl (v := nI (c + 1)) (nI_succ c).symm (by rw [hnl]; decide) (L' := [(2, .int (nI (c + 1))), (1, .int (nI c)), (0, .ref m)]) rfl ?_
        refine r_goto hC dX9_next_58 (tgt := 4) (by decide) ?_
        refine r_locals [2, 1, 0] (L' := [(0, .ref m), (1, .int (nI c)), (2, .int (nI (c + 1)))]) rfl ?_
        have e9 : hNext f op sl (c + 1) = some c := if_pos ⟨Or.inr (by rw [← ho2]; exact c46), c21⟩
        rw [e9] at kk
        exact kk
set_option maxRecDepth 100000 in
theorem nx_all {X : mC} {d : Nat} {w : mW} {m : Nat} {th ch ea fa sv0 tn he en ln iw id0 : Int32} {f g : Nat → Int32} {sl op lo : Int32} {hd rs : Nat → Int32} {np : Nat} {tp av lg pl tk : Int32} (hC : Cx X RX9 cX9_next (d + 4) 0 0) (hnl : mNL X = 3) (hm : w[m]? = some (mO 10 [.int th, .int ch, .int ea, .int fa, .int sv0, .ref (m + 1), .ref (m + 2), .ref (m + 3), .ref (m + 4), .ref (m + 5), .ref (m + 6), .ref (m + 7), .ref (m + 8), .ref (m + 9), .ref (m + 10), .int tn, .int he, .int en, .int ln, .int iw, .int id0])) (hv : w[m + 1]? = some (mI 0 67 (enc ((f, g, sl, op, lo), hd, rs, np, tp, av, lg, pl, tk)))) (h25 : f 25 = 0) (hop : op = 0 ∨ op = 1) (kk : Wp X 0 0 w [(0, .ref m), (1, .int (oI (hNext f op sl 25))), (2, .int (nI 25))] [] 4) : ∀ n c : Nat, c + n = 25 → Wp X 0 0 w [(0, .ref m), (1, .int (oI (hNext f op sl c))), (2, .int (nI c))] [] 4 := by
  intro n
  induction n with
  | zero =>
    intro c h9
    obtain rfl : c = 25 := by omega
    exact kk
  | succ n ih =>
    intro c h9
    exact nx_it hC hnl hm hv h25 hop (by omega) (ih (c + 1) (by omega))
set_option maxRecDepth 100000 in
set_option maxHeartbeats 4000000 in
theorem sm_next {d : Nat} {w : mW} {m : Nat} {th ch ea fa sv0 tn he en ln iw id0 : Int32} {f g : Nat → Int32} {sl op lo : Int32} {hd rs : Nat → Int32} {np : Nat} {tp av lg pl tk : Int32} (hm : w[m]? = some (mO 10 [.int th, .int ch, .int ea, .int fa, .int sv0, .ref (m + 1), .ref (m + 2), .ref (m + 3), .ref (m + 4), .ref (m + 5), .ref (m + 6), .ref (m + 7), .ref (m + 8), .ref (m + 9), .ref (m + 10), .int tn, .int he, .int en, .int ln, .int iw, .int id0])) (hv : w[m + 1]? = some (mI 0 67 (enc ((f, g, sl, op, lo), hd, rs, np, tp, av, lg, pl, tk)))) (h25 : f 25 = 0) (hop : op = 0 ∨ op = 1) : Sp (d + 4) yX9_next cX9_next 3 (some .int) [.ref m] w 0 0 (fun v w' => v = some (.int (oI (hNext f op sl 25))) ∧ w' = w) noX := by
  refine Sp.of (by decide +kernel) (Nat.le_of_ble_eq_true rfl) (fun X hC hnl hE hR hN => ?_)
  have hC : Cx X RX9 cX9_next (d + 4) 0 0 := hC
  show Wp X 0 0 w [(0, .ref m)] [] 0
  refine r_iconst hC dX9_next_0 (v := (-1)) (by decide) ?_
  refine r_istore_n hC dX9_next_1 rfl (by rw [hnl]; decide) (L' := [(1, .int (-1)), (0, .ref m)]) rfl ?_
  refine r_iconst hC dX9_next_2 (v := 0) (by decide) ?_
  refine r_istore_n hC dX9_next_3 rfl (by rw [hnl]; decide) (L' := [(2, .int 0), (1, .int (-1)), (0, .ref m)]) rfl ?_
  refine r_locals [2, 1, 0] (L' := [(0, .ref m), (1, .int (-1)), (2, .int 0)]) rfl ?_
  refine nx_all hC hnl hm hv h25 hop ?_ 25 0 rfl
  refine r_iload_n hC dX9_next_4 rfl (j := 2) rfl ?_
  refine r_bipush hC dX9_next_5 (v := 25) (by decide) ?_
  refine r_icmp_ge hC dX9_next_7 (tgt := 61) (by decide) (fun _ => ?_) (fun h => absurd (lit_le rfl (Nat.le_refl 25) (by decide)) h)
  refine r_iload_n hC dX9_next_61 rfl (j := 1) rfl ?_
  refine r_iret hC hE hR dX9_next_62 (by omega) (by omega) (rfl) ?_
  exact ⟨rfl, rfl⟩
set_option maxRecDepth 100000 in
set_option maxHeartbeats 4000000 in
theorem st_it {X : mC} {d : Nat} {c : Nat} {w : mW} {m : Nat} {th ch ea fa sv0 tn he en ln iw id0 : Int32} {f g : Nat → Int32} {sl op lo : Int32} {hd rs : Nat → Int32} {np : Nat} {tp av lg pl tk : Int32} (hC : Cx X RX9 cX9_stones d 0 0) (hnl : mNL X = 3) (hm : w[m]? = some (mO 10 [.int th, .int ch, .int ea, .int fa, .int sv0, .ref (m + 1), .ref (m + 2), .ref (m + 3), .ref (m + 4), .ref (m + 5), .ref (m + 6), .ref (m + 7), .ref (m + 8), .ref (m + 9), .ref (m + 10), .int tn, .int he, .int en, .int ln, .int iw, .int id0])) (hv : w[m + 1]? = some (mI 0 67 (enc ((f, g, sl, op, lo), hd, rs, np, tp, av, lg, pl, tk)))) (hc : c < 25) (kk : Wp X 0 0 w [(0, .ref m), (1, .int (hSum f (c + 1))), (2, .int (nI (c + 1)))] [] 4) : Wp X 0 0 w [(0, .ref m), (1, .int (hSum f c)), (2, .int (nI c))] [] 4 := by
  refine r_iload_n hC dX9_stones_4 rfl (j := 2) rfl ?_
  refine r_bipush hC dX9_stones_5 (v := 25) (by decide) ?_
  refine r_icmp_ge hC dX9_stones_7 (tgt := 28) (by decide) (fun h => absurd h (lit_ge rfl hc (by decide))) (fun _ => ?_)
  refine r_iload_n hC dX9_stones_10 rfl (j := 1) rfl ?_
  refine r_aload_n hC dX9_stones_11 rfl (j := 0) rfl ?_
  refine r_get hC gX9_stones_12 hm (v := .ref (m + 1)) rfl ?_
  refine r_bipush hC dX9_stones_15 (v := 17) (by decide) ?_
  refine r_iload_n hC dX9_stones_17 rfl (j := 2) rfl ?_
  refine r_iadd hC dX9_stones_18 ?_
  refine r_iald hC dX9_stones_19 (j := (17 + c)) hv (ix17 (c := c) (by omega)) ?_
  rw [enc_hi (c := c) (by omega)]
  refine r_iadd hC dX9_stones_20 ?_
  refine r_istore_n hC dX9_stones_21 rfl (by rw [hnl]; decide) (L' := [(1, .int ((hSum f c) + (f c))), (0, .ref m), (2, .int (nI c))]) rfl ?_
  refine r_iinc hC dX9_stones_22 (j := 2) rfl (v := nI (c + 1)) (nI_succ c).symm (by rw [hnl]; decide) (L' := [(2, .int (nI (c + 1))), (1, .int ((hSum f c) + (f c))), (0, .ref m)]) rfl ?_
  refine r_goto hC dX9_stones_25 (tgt := 4) (by decide) ?_
  refine r_locals [2, 1, 0] (L' := [(0, .ref m), (1, .int ((hSum f c) + (f c))), (2, .int (nI (c + 1)))]) rfl ?_
  exact kk
set_option maxRecDepth 100000 in
theorem st_all {X : mC} {d : Nat} {w : mW} {m : Nat} {th ch ea fa sv0 tn he en ln iw id0 : Int32} {f g : Nat → Int32} {sl op lo : Int32} {hd rs : Nat → Int32} {np : Nat} {tp av lg pl tk : Int32} (hC : Cx X RX9 cX9_stones d 0 0) (hnl : mNL X = 3) (hm : w[m]? = some (mO 10 [.int th, .int ch, .int ea, .int fa, .int sv0, .ref (m + 1), .ref (m + 2), .ref (m + 3), .ref (m + 4), .ref (m + 5), .ref (m + 6), .ref (m + 7), .ref (m + 8), .ref (m + 9), .ref (m + 10), .int tn, .int he, .int en, .int ln, .int iw, .int id0])) (hv : w[m + 1]? = some (mI 0 67 (enc ((f, g, sl, op, lo), hd, rs, np, tp, av, lg, pl, tk)))) (kk : Wp X 0 0 w [(0, .ref m), (1, .int (hSum f 25)), (2, .int (nI 25))] [] 4) : ∀ n c : Nat, c + n = 25 → Wp X 0 0 w [(0, .ref m), (1, .int (hSum f c)), (2, .int (nI c))] [] 4 := by
  intro n
  induction n with
  | zero =>
    intro c h9
    obtain rfl : c = 25 := by omega
    exact kk
  | succ n ih =>
    intro c h9
    exact st_it hC hnl hm hv (by omega) (ih (c + 1) (by omega))
set_option maxRecDepth 100000 in
set_option maxHeartbeats 4000000 in
theorem sm_stones {d : Nat} {w : mW} {m : Nat} {th ch ea fa sv0 tn he en ln iw id0 : Int32} {f g : Nat → Int32} {sl op lo : Int32} {hd rs : Nat → Int32} {np : Nat} {tp av lg pl tk : Int32} (hm : w[m]? = some (mO 10 [.int th, .int ch, .int ea, .int fa, .int sv0, .ref (m + 1), .ref (m + 2), .ref (m + 3), .ref (m + 4), .ref (m + 5), .ref (m + 6), .ref (m + 7), .ref (m + 8), .ref (m + 9), .ref (m + 10), .int tn, .int he, .int en, .int ln, .int iw, .int id0])) (hv : w[m + 1]? = some (mI 0 67 (enc ((f, g, sl, op, lo), hd, rs, np, tp, av, lg, pl, tk)))) : Sp d yX9_stones cX9_stones 3 (some .int) [.ref m] w 0 0 (fun v w' => v = some (.int (hSum f 25)) ∧ w' = w) noX := by
  refine Sp.of (by decide +kernel) (Nat.le_of_ble_eq_true rfl) (fun X hC hnl hE hR hN => ?_)
  have hC : Cx X RX9 cX9_stones d 0 0 := hC
  show Wp X 0 0 w [(0, .ref m)] [] 0
  refine r_iconst hC dX9_stones_0 (v := 0) (by decide) ?_
  refine r_istore_n hC dX9_stones_1 rfl (by rw [hnl]; decide) (L' := [(1, .int 0), (0, .ref m)]) rfl ?_
  refine r_iconst hC dX9_stones_2 (v := 0) (by decide) ?_
  refine r_istore_n hC dX9_stones_3 rfl (by rw [hnl]; decide) (L' := [(2, .int 0), (1, .int 0), (0, .ref m)]) rfl ?_
  refine r_locals [2, 1, 0] (L' := [(0, .ref m), (1, .int 0), (2, .int 0)]) rfl ?_
  refine st_all hC hnl hm hv ?_ 25 0 rfl
  refine r_iload_n hC dX9_stones_4 rfl (j := 2) rfl ?_
  refine r_bipush hC dX9_stones_5 (v := 25) (by decide) ?_
  refine r_icmp_ge hC dX9_stones_7 (tgt := 28) (by decide) (fun _ => ?_) (fun h => absurd (lit_le rfl (Nat.le_refl 25) (by decide)) h)
  refine r_iload_n hC dX9_stones_28 rfl (j := 1) rfl ?_
  refine r_iret hC hE hR dX9_stones_29 (by omega) (by omega) (rfl) ?_
  exact ⟨rfl, rfl⟩
end MD2
