section JD2
set_option maxRecDepth 100000 in
set_option maxHeartbeats 4000000 in
theorem sj_app5_0 {c mc ms : Nat} {d n cap : Nat} {ml : Int32} {a : Nat → Int32} (hn : n ≤ cap) (hc : c < 256) (hb : cap ≤ 65536) (hq : n + 1 ≤ cap) : SpN (d + 1) yJ5_append_3fe6f cJ5_append_3fe6f 2 (some (.object "java/lang/AbstractStringBuilder")) [.ref 0, .int (nI c)] [(mO 1 [.ref 1, .int 0, .int ml, .int (nI n)]), (mI 5 cap a)] mc ms (fun v w' => v = some (.ref 0) ∧ w' = [(mO 1 [.ref 1, .int 0, .int ml, .int (nI (n + 1))]), (mI 5 cap (upd a n (sb_b c)))]) := by
  refine SpN.of (by decide +kernel) (Nat.le_of_ble_eq_true rfl) (fun X hC hnl hE hR hN hNm => ?_)
  have hC : Cx X RJ5 cJ5_append_3fe6f (d + 1) mc ms := hC
  show Wp X 0 0 [(mO 1 [.ref 1, .int 0, .int ml, .int (nI n)]), (mI 5 cap a)] [(0, .ref 0), (1, .int (nI c))] [] 0
  refine r_aload_n hC dJ5_append_3fe6f_0 rfl (j := 0) rfl ?_
  refine r_aload_n hC dJ5_append_3fe6f_1 rfl (j := 0) rfl ?_
  refine r_get hC gJ5_append_3fe6f_2 (show _ = some (mO 1 [.ref 1, .int 0, .int ml, .int (nI n)]) from rfl) (v := .int (nI n)) rfl ?_
  refine r_iconst hC dJ5_append_3fe6f_5 (v := 1) (by decide) ?_
  refine r_iadd hC dJ5_append_3fe6f_6 ?_
  rw [show nI n + 1 = nI (n + 1) from (nI_succ n).symm]
  refine r_callX hC (vs := [.int (nI (n + 1))]) vJ5_append_3fe6f_7 (sj_ens0 (d := d) (q := n + 1) hq hb) (show _ = some (mO 1 [.ref 1, .int 0, .int ml, .int (nI n)]) from rfl) rfl rfl (by omega) (by omega) (by omega) (Nat.le_of_ble_eq_true rfl) (fun v_1 w_1 hP_1 hlen_1 => ?_)
  obtain ⟨rfl, rfl⟩ := hP_1
  show Wp X 0 0 [(mO 1 [.ref 1, .int 0, .int ml, .int (nI n)]), (mI 5 cap a)] [(0, .ref 0), (1, .int (nI c))] [] 10
  refine r_aload_n hC dJ5_append_3fe6f_10 rfl (j := 0) rfl ?_
  refine r_callX hC (vs := []) vJ5_append_3fe6f_11 (sj_lat (d := d) (n := n)) (show _ = some (mO 1 [.ref 1, .int 0, .int ml, .int (nI n)]) from rfl) rfl rfl (by omega) (by omega) (by omega) (Nat.le_of_ble_eq_true rfl) (fun v_2 w_2 hP_2 hlen_2 => ?_)
  obtain ⟨rfl, rfl⟩ := hP_2
  show Wp X 0 0 [(mO 1 [.ref 1, .int 0, .int ml, .int (nI n)]), (mI 5 cap a)] [(0, .ref 0), (1, .int (nI c))] [.int 1] 14
  refine r_if_eq hC dJ5_append_3fe6f_14 (tgt := 45) (by decide) (fun h => absurd h (by decide)) (fun _ => ?_)
  refine r_iload_n hC dJ5_append_3fe6f_17 rfl (j := 1) rfl ?_
  refine r_callS hC (vs := [.int (nI c)]) vJ5_append_3fe6f_18 (sj_enc (d := d) hc) rfl (by omega) (by omega) (by omega) (Nat.le_of_ble_eq_true rfl) (fun v_3 w_3 hP_3 hlen_3 => ?_) (fun _ _ h => h.elim)
  obtain ⟨rfl, rfl⟩ := hP_3
  show Wp X 0 0 [(mO 1 [.ref 1, .int 0, .int ml, .int (nI n)]), (mI 5 cap a)] [(0, .ref 0), (1, .int (nI c))] [.int 1] 21
  refine r_if_eq hC dJ5_append_3fe6f_21 (tgt := 45) (by decide) (fun h => absurd h (by decide)) (fun _ => ?_)
  refine r_aload_n hC dJ5_append_3fe6f_24 rfl (j := 0) rfl ?_
  refine r_get hC gJ5_append_3fe6f_25 (show _ = some (mO 1 [.ref 1, .int 0, .int ml, .int (nI n)]) from rfl) (v := .ref 1) rfl ?_
  refine r_aload_n hC dJ5_append_3fe6f_28 rfl (j := 0) rfl ?_
  refine r_dup hC dJ5_append_3fe6f_29 rfl ?_
  refine r_get hC gJ5_append_3fe6f_30 (show _ = some (mO 1 [.ref 1, .int 0, .int ml, .int (nI n)]) from rfl) (v := .int (nI n)) rfl ?_
  refine r_dup_x1 hC dJ5_append_3fe6f_33 rfl rfl ?_
  refine r_iconst hC dJ5_append_3fe6f_34 (v := 1) (by decide) ?_
  refine r_iadd hC dJ5_append_3fe6f_35 ?_
  rw [show nI n + 1 = nI (n + 1) from (nI_succ n).symm]
  refine r_put' hC pJ5_append_3fe6f_36 (show _ = some (mO 1 [.ref 1, .int 0, .int ml, .int (nI n)]) from rfl) (Nat.le_of_ble_eq_true rfl) (fun _ => rfl) (fun _ => rfl) (fun w_4 ew_4 => ?_)
  subst ew_4
  show Wp X 0 0 [(mO 1 [.ref 1, .int 0, .int ml, .int (nI (n + 1))]), (mI 5 cap a)] [(0, .ref 0), (1, .int (nI c))] [.int (nI n), .ref 1] _
  refine r_iload_n hC dJ5_append_3fe6f_39 rfl (j := 1) rfl ?_
  refine r_i2b hC dJ5_append_3fe6f_40 (v := (sb_b c)) rfl ?_
  refine r_bast hC dJ5_append_3fe6f_41 (j := n) (show _ = some (mI 5 cap a) from rfl) (mIx_nI (by omega) (by omega)) (fun w_5 ew_5 => ?_)
  rw [nar_b c hc] at ew_5
  subst ew_5
  show Wp X 0 0 [(mO 1 [.ref 1, .int 0, .int ml, .int (nI (n + 1))]), (mI 5 cap (upd a n (sb_b c)))] [(0, .ref 0), (1, .int (nI c))] [] _
  refine r_goto hC dJ5_append_3fe6f_42 (tgt := 75) (by decide) ?_
  refine r_aload_n hC dJ5_append_3fe6f_75 rfl (j := 0) rfl ?_
  refine n_aret hC hE (Or.inl ⟨_, rfl⟩) hR dJ5_append_3fe6f_76 (by omega) (by omega) (Nat.le_of_ble_eq_true rfl) ?_
  exact ⟨rfl, rfl⟩
set_option maxRecDepth 100000 in
set_option maxHeartbeats 4000000 in
theorem sj_app4_0 {c mc ms : Nat} {d n cap : Nat} {ml : Int32} {a : Nat → Int32} (hn : n ≤ cap) (hc : c < 256) (hb : cap ≤ 65536) (hq : n + 1 ≤ cap) : SpN (d + 2) yJ4_append_cf468 cJ4_append_cf468 2 (some (.object "java/lang/StringBuilder")) [.ref 0, .int (nI c)] [(mO 1 [.ref 1, .int 0, .int ml, .int (nI n)]), (mI 5 cap a)] mc ms (fun v w' => v = some (.ref 0) ∧ w' = [(mO 1 [.ref 1, .int 0, .int ml, .int (nI (n + 1))]), (mI 5 cap (upd a n (sb_b c)))]) := by
  refine SpN.of (by decide +kernel) (Nat.le_of_ble_eq_true rfl) (fun X hC hnl hE hR hN hNm => ?_)
  have hC : Cx X RJ4 cJ4_append_cf468 (d + 2) mc ms := hC
  show Wp X 0 0 [(mO 1 [.ref 1, .int 0, .int ml, .int (nI n)]), (mI 5 cap a)] [(0, .ref 0), (1, .int (nI c))] [] 0
  refine r_aload_n hC dJ4_append_cf468_0 rfl (j := 0) rfl ?_
  refine r_iload_n hC dJ4_append_cf468_1 rfl (j := 1) rfl ?_
  refine n_callSU hC (vs := [.int (nI c)]) vJ4_append_cf468_2 (sj_app5_0 (d := d) (mc := mc) (ms := ms) hn hc hb hq) (show _ = some (mO 1 [.ref 1, .int 0, .int ml, .int (nI n)]) from rfl) rfl rfl (by omega) (by omega) (by omega) (Nat.le_of_ble_eq_true rfl) ⟨(Or.inl (Nat.le_of_ble_eq_true rfl)), trivial, trivial⟩ trivial (fun v_1 w_1 X hT hP_1 hlen_1 => ?_)
  have hC := Cx.tie hT hC
  have hnl := (mNL.tie hT).trans hnl
  have hE := mEndN.tie hT (Nat.le_of_ble_eq_true rfl) hE
  have hR := mRet.tie hT hR
  have hN := mNoTab.tie hT hN
  have hNm := mNam.tie hT hNm
  clear hT
  obtain ⟨rfl, rfl⟩ := hP_1
  show Wp X (0 + mc) (0 + ms) [(mO 1 [.ref 1, .int 0, .int ml, .int (nI (n + 1))]), (mI 5 cap (upd a n (sb_b c)))] [(0, .ref 0), (1, .int (nI c))] [.ref 0] 5
  refine r_pop hC dJ4_append_cf468_5 rfl ?_
  refine r_aload_n hC dJ4_append_cf468_6 rfl (j := 0) rfl ?_
  refine n_aret hC hE (Or.inl ⟨_, rfl⟩) hR dJ4_append_cf468_7 (by omega) (by omega) (Nat.le_of_ble_eq_true rfl) ?_
  exact ⟨rfl, rfl⟩
set_option maxRecDepth 100000 in
set_option maxHeartbeats 4000000 in
theorem sj_lat2 {d n cap cp : Nat} {ml : Int32} {a b : Nat → Int32}  : Sp d yJ5_isLatin1_aae02 cJ5_isLatin1_aae02 1 (some .boolean) [.ref 0] [(mO 1 [.ref 2, .int 0, .int ml, .int (nI n)]), (mI 5 cap a), (mI 5 cp b)] 0 0 (fun v w' => v = some (.int 1) ∧ w' = [(mO 1 [.ref 2, .int 0, .int ml, .int (nI n)]), (mI 5 cap a), (mI 5 cp b)]) noX := by
  refine Sp.of (by decide +kernel) (Nat.le_of_ble_eq_true rfl) (fun X hC hnl hE hR hN => ?_)
  have hC : Cx X RJ5 cJ5_isLatin1_aae02 d 0 0 := hC
  show Wp X 0 0 [(mO 1 [.ref 2, .int 0, .int ml, .int (nI n)]), (mI 5 cap a), (mI 5 cp b)] [(0, .ref 0)] [] 0
  refine r_gets hC sJ5_isLatin1_aae02_0 (v := .int 1) gZ_cs ?_
  refine r_if_eq hC dJ5_isLatin1_aae02_3 (tgt := 17) (by decide) (fun h => absurd h (by decide)) (fun _ => ?_)
  refine r_aload_n hC dJ5_isLatin1_aae02_6 rfl (j := 0) rfl ?_
  refine r_get hC gJ5_isLatin1_aae02_7 (show _ = some (mO 1 [.ref 2, .int 0, .int ml, .int (nI n)]) from rfl) (v := .int 0) rfl ?_
  refine r_if_ne hC dJ5_isLatin1_aae02_10 (tgt := 17) (by decide) (fun h => absurd (by decide) h) (fun _ => ?_)
  refine r_iconst hC dJ5_isLatin1_aae02_13 (v := 1) (by decide) ?_
  refine r_goto hC dJ5_isLatin1_aae02_14 (tgt := 18) (by decide) ?_
  refine r_nret hC hE hR dJ5_isLatin1_aae02_18 (by decide) (by omega) (by omega) rfl ?_
  exact ⟨rfl, rfl⟩
set_option maxRecDepth 100000 in
set_option maxHeartbeats 4000000 in
theorem sj_app5_1 {c mc ms : Nat} {d n cap : Nat} {ml : Int32} {a : Nat → Int32} (hn : n ≤ cap) (hc : c < 256) (hb : (capN cap (n + 1)) ≤ 65536) (hq : cap < n + 1) (hf : sb_Fit a) (hmc : 1 ≤ mc) (hms : (capN cap (n + 1)) ≤ ms) : SpN (d + 4) yJ5_append_3fe6f cJ5_append_3fe6f 2 (some (.object "java/lang/AbstractStringBuilder")) [.ref 0, .int (nI c)] [(mO 1 [.ref 1, .int 0, .int ml, .int (nI n)]), (mI 5 cap a)] mc ms (fun v w' => v = some (.ref 0) ∧ w' = [(mO 1 [.ref 2, .int 0, .int ml, .int (nI (n + 1))]), (mI 5 cap a), (mI 5 (capN cap (n + 1)) (upd (va_cpy a (fun _ => 0) 0 0 cap) n (sb_b c)))]) := by
  refine SpN.of (by decide +kernel) (Nat.le_of_ble_eq_true rfl) (fun X hC hnl hE hR hN hNm => ?_)
  have hC : Cx X RJ5 cJ5_append_3fe6f (d + 4) mc ms := hC
  show Wp X 0 0 [(mO 1 [.ref 1, .int 0, .int ml, .int (nI n)]), (mI 5 cap a)] [(0, .ref 0), (1, .int (nI c))] [] 0
  have hcq : cap + 1 ≤ capN cap (n + 1) := by
    unfold capN
    have := Nat.le_max_right (n + 1 - cap) (cap + 2)
    omega
  refine r_aload_n hC dJ5_append_3fe6f_0 rfl (j := 0) rfl ?_
  refine r_aload_n hC dJ5_append_3fe6f_1 rfl (j := 0) rfl ?_
  refine r_get hC gJ5_append_3fe6f_2 (show _ = some (mO 1 [.ref 1, .int 0, .int ml, .int (nI n)]) from rfl) (v := .int (nI n)) rfl ?_
  refine r_iconst hC dJ5_append_3fe6f_5 (v := 1) (by decide) ?_
  refine r_iadd hC dJ5_append_3fe6f_6 ?_
  rw [show nI n + 1 = nI (n + 1) from (nI_succ n).symm]
  refine n_callX hC (vs := [.int (nI (n + 1))]) vJ5_append_3fe6f_7 (sj_ens1 (d := d) (q := n + 1) hq hb hf) (show _ = some (mO 1 [.ref 1, .int 0, .int ml, .int (nI n)]) from rfl) rfl rfl (by omega) (by omega) (by omega) (Nat.le_of_ble_eq_true rfl) ⟨(Or.inl (Nat.le_of_ble_eq_true rfl)), trivial, trivial⟩ trivial (fun v_1 w_1 X hT hP_1 hlen_1 => ?_)
  have hC := Cx.tie hT hC
  have hnl := (mNL.tie hT).trans hnl
  have hE := mEndN.tie hT (Nat.le_of_ble_eq_true rfl) hE
  have hR := mRet.tie hT hR
  have hN := mNoTab.tie hT hN
  have hNm := mNam.tie hT hNm
  clear hT
  obtain ⟨rfl, rfl⟩ := hP_1
  show Wp X (0 + 1) (0 + (capN cap (n + 1))) [(mO 1 [.ref 2, .int 0, .int ml, .int (nI n)]), (mI 5 cap a), (mI 5 (capN cap (n + 1)) (va_cpy a (fun _ => 0) 0 0 cap))] [(0, .ref 0), (1, .int (nI c))] [] 10
  refine r_aload_n hC dJ5_append_3fe6f_10 rfl (j := 0) rfl ?_
  refine r_callX hC (vs := []) vJ5_append_3fe6f_11 (sj_lat2 (d := d + 2) (n := n)) (show _ = some (mO 1 [.ref 2, .int 0, .int ml, .int (nI n)]) from rfl) rfl rfl (by omega) (by omega) (by omega) (Nat.le_of_ble_eq_true rfl) (fun v_2 w_2 hP_2 hlen_2 => ?_)
  obtain ⟨rfl, rfl⟩ := hP_2
  show Wp X (0 + 1) (0 + (capN cap (n + 1))) [(mO 1 [.ref 2, .int 0, .int ml, .int (nI n)]), (mI 5 cap a), (mI 5 (capN cap (n + 1)) (va_cpy a (fun _ => 0) 0 0 cap))] [(0, .ref 0), (1, .int (nI c))] [.int 1] 14
  refine r_if_eq hC dJ5_append_3fe6f_14 (tgt := 45) (by decide) (fun h => absurd h (by decide)) (fun _ => ?_)
  refine r_iload_n hC dJ5_append_3fe6f_17 rfl (j := 1) rfl ?_
  refine r_callS hC (vs := [.int (nI c)]) vJ5_append_3fe6f_18 (sj_enc (d := d + 2) hc) rfl (by omega) (by omega) (by omega) (Nat.le_of_ble_eq_true rfl) (fun v_3 w_3 hP_3 hlen_3 => ?_) (fun _ _ h => h.elim)
  obtain ⟨rfl, rfl⟩ := hP_3
  show Wp X (0 + 1) (0 + (capN cap (n + 1))) [(mO 1 [.ref 2, .int 0, .int ml, .int (nI n)]), (mI 5 cap a), (mI 5 (capN cap (n + 1)) (va_cpy a (fun _ => 0) 0 0 cap))] [(0, .ref 0), (1, .int (nI c))] [.int 1] 21
  refine r_if_eq hC dJ5_append_3fe6f_21 (tgt := 45) (by decide) (fun h => absurd h (by decide)) (fun _ => ?_)
  refine r_aload_n hC dJ5_append_3fe6f_24 rfl (j := 0) rfl ?_
  refine r_get hC gJ5_append_3fe6f_25 (show _ = some (mO 1 [.ref 2, .int 0, .int ml, .int (nI n)]) from rfl) (v := .ref 2) rfl ?_
  refine r_aload_n hC dJ5_append_3fe6f_28 rfl (j := 0) rfl ?_
  refine r_dup hC dJ5_append_3fe6f_29 rfl ?_
  refine r_get hC gJ5_append_3fe6f_30 (show _ = some (mO 1 [.ref 2, .int 0, .int ml, .int (nI n)]) from rfl) (v := .int (nI n)) rfl ?_
  refine r_dup_x1 hC dJ5_append_3fe6f_33 rfl rfl ?_
  refine r_iconst hC dJ5_append_3fe6f_34 (v := 1) (by decide) ?_
  refine r_iadd hC dJ5_append_3fe6f_35 ?_
  rw [show nI n + 1 = nI (n + 1) from (nI_succ n).symm]
  refine r_put' hC pJ5_append_3fe6f_36 (show _ = some (mO 1 [.ref 2, .int 0, .int ml, .int (nI n)]) from rfl) (Nat.le_of_ble_eq_true rfl) (fun _ => rfl) (fun _ => rfl) (fun w_4 ew_4 => ?_)
  subst ew_4
  show Wp X (0 + 1) (0 + (capN cap (n + 1))) [(mO 1 [.ref 2, .int 0, .int ml, .int (nI (n + 1))]), (mI 5 cap a), (mI 5 (capN cap (n + 1)) (va_cpy a (fun _ => 0) 0 0 cap))] [(0, .ref 0), (1, .int (nI c))] [.int (nI n), .ref 2] _
  refine r_iload_n hC dJ5_append_3fe6f_39 rfl (j := 1) rfl ?_
  refine r_i2b hC dJ5_append_3fe6f_40 (v := (sb_b c)) rfl ?_
  refine r_bast hC dJ5_append_3fe6f_41 (j := n) (show _ = some (mI 5 (capN cap (n + 1)) (va_cpy a (fun _ => 0) 0 0 cap)) from rfl) (mIx_nI (by omega) (by omega)) (fun w_5 ew_5 => ?_)
  rw [nar_b c hc] at ew_5
  subst ew_5
  show Wp X (0 + 1) (0 + (capN cap (n + 1))) [(mO 1 [.ref 2, .int 0, .int ml, .int (nI (n + 1))]), (mI 5 cap a), (mI 5 (capN cap (n + 1)) (upd (va_cpy a (fun _ => 0) 0 0 cap) n (sb_b c)))] [(0, .ref 0), (1, .int (nI c))] [] _
  refine r_goto hC dJ5_append_3fe6f_42 (tgt := 75) (by decide) ?_
  refine r_aload_n hC dJ5_append_3fe6f_75 rfl (j := 0) rfl ?_
  refine n_aret hC hE (Or.inl ⟨_, rfl⟩) hR dJ5_append_3fe6f_76 (by omega) (by omega) (Nat.le_of_ble_eq_true rfl) ?_
  exact ⟨rfl, rfl⟩
set_option maxRecDepth 100000 in
set_option maxHeartbeats 4000000 in
theorem sj_app4_1 {c mc ms : Nat} {d n cap : Nat} {ml : Int32} {a : Nat → Int32} (hn : n ≤ cap) (hc : c < 256) (hb : (capN cap (n + 1)) ≤ 65536) (hq : cap < n + 1) (hf : sb_Fit a) (hmc : 1 ≤ mc) (hms : (capN cap (n + 1)) ≤ ms) : SpN (d + 5) yJ4_append_cf468 cJ4_append_cf468 2 (some (.object "java/lang/StringBuilder")) [.ref 0, .int (nI c)] [(mO 1 [.ref 1, .int 0, .int ml, .int (nI n)]), (mI 5 cap a)] mc ms (fun v w' => v = some (.ref 0) ∧ w' = [(mO 1 [.ref 2, .int 0, .int ml, .int (nI (n + 1))]), (mI 5 cap a), (mI 5 (capN cap (n + 1)) (upd (va_cpy a (fun _ => 0) 0 0 cap) n (sb_b c)))]) := by
  refine SpN.of (by decide +kernel) (Nat.le_of_ble_eq_true rfl) (fun X hC hnl hE hR hN hNm => ?_)
  have hC : Cx X RJ4 cJ4_append_cf468 (d + 5) mc ms := hC
  show Wp X 0 0 [(mO 1 [.ref 1, .int 0, .int ml, .int (nI n)]), (mI 5 cap a)] [(0, .ref 0), (1, .int (nI c))] [] 0
  refine r_aload_n hC dJ4_append_cf468_0 rfl (j := 0) rfl ?_
  refine r_iload_n hC dJ4_append_cf468_1 rfl (j := 1) rfl ?_
  refine n_callSU hC (vs := [.int (nI c)]) vJ4_append_cf468_2 (sj_app5_1 (d := d) (mc := mc) (ms := ms) hn hc hb hq hf hmc hms) (show _ = some (mO 1 [.ref 1, .int 0, .int ml, .int (nI n)]) from rfl) rfl rfl (by omega) (by omega) (by omega) (Nat.le_of_ble_eq_true rfl) ⟨(Or.inl (Nat.le_of_ble_eq_true rfl)), trivial, trivial⟩ trivial (fun v_1 w_1 X hT hP_1 hlen_1 => ?_)
  have hC := Cx.tie hT hC
  have hnl := (mNL.tie hT).trans hnl
  have hE := mEndN.tie hT (Nat.le_of_ble_eq_true rfl) hE
  have hR := mRet.tie hT hR
  have hN := mNoTab.tie hT hN
  have hNm := mNam.tie hT hNm
  clear hT
  obtain ⟨rfl, rfl⟩ := hP_1
  show Wp X (0 + mc) (0 + ms) [(mO 1 [.ref 2, .int 0, .int ml, .int (nI (n + 1))]), (mI 5 cap a), (mI 5 (capN cap (n + 1)) (upd (va_cpy a (fun _ => 0) 0 0 cap) n (sb_b c)))] [(0, .ref 0), (1, .int (nI c))] [.ref 0] 5
  refine r_pop hC dJ4_append_cf468_5 rfl ?_
  refine r_aload_n hC dJ4_append_cf468_6 rfl (j := 0) rfl ?_
  refine n_aret hC hE (Or.inl ⟨_, rfl⟩) hR dJ4_append_cf468_7 (by omega) (by omega) (Nat.le_of_ble_eq_true rfl) ?_
  exact ⟨rfl, rfl⟩
set_option maxRecDepth 100000 in
set_option maxHeartbeats 4000000 in
theorem sj_chk3 {d i n : Nat} {w : mW} (hi : i < n) (hn : n < 2 ^ 31) : Sp d yJ3_checkIndex_8e157 cJ3_checkIndex_8e157 3 (some .int) [.int (nI i), .int (nI n), .ref 1000070] w 0 0 (fun v w' => v = some (.int (nI i)) ∧ w' = w) noX := by
  refine Sp.of (by decide +kernel) (Nat.le_of_ble_eq_true rfl) (fun X hC hnl hE hR hN => ?_)
  have hC : Cx X RJ3 cJ3_checkIndex_8e157 d 0 0 := hC
  show Wp X 0 0 w [(0, .int (nI i)), (1, .int (nI n)), (2, .ref 1000070)] [] 0
  refine r_iload_n hC dJ3_checkIndex_8e157_0 rfl (j := 0) rfl ?_
  refine r_if_lt hC dJ3_checkIndex_8e157_1 (tgt := 9) (by decide) (fun h => absurd h (nI_pos (by omega))) (fun _ => ?_)
  refine r_iload_n hC dJ3_checkIndex_8e157_4 rfl (j := 0) rfl ?_
  refine r_iload_n hC dJ3_checkIndex_8e157_5 rfl (j := 1) rfl ?_
  refine r_icmp_lt hC dJ3_checkIndex_8e157_6 (tgt := 16) (by decide) (fun _ => ?_) (fun h => absurd (Int32.not_le.mp (nI_ge hi hn)) h)
  refine r_iload_n hC dJ3_checkIndex_8e157_16 rfl (j := 0) rfl ?_
  refine r_iret hC hE hR dJ3_checkIndex_8e157_17 (by omega) (by omega) (rfl) ?_
  exact ⟨rfl, rfl⟩
set_option maxRecDepth 100000 in
set_option maxHeartbeats 4000000 in
theorem sj_chk3n {d i n : Nat} {w : mW} (hi : i < n) (hn : n < 2 ^ 31) : Sp d yJ3_checkIndex_8e157 cJ3_checkIndex_8e157 3 (some .int) [.int (nI i), .int (nI n), .null] w 0 0 (fun v w' => v = some (.int (nI i)) ∧ w' = w) noX := by
  refine Sp.of (by decide +kernel) (Nat.le_of_ble_eq_true rfl) (fun X hC hnl hE hR hN => ?_)
  have hC : Cx X RJ3 cJ3_checkIndex_8e157 d 0 0 := hC
  show Wp X 0 0 w [(0, .int (nI i)), (1, .int (nI n)), (2, .null)] [] 0
  refine r_iload_n hC dJ3_checkIndex_8e157_0 rfl (j := 0) rfl ?_
  refine r_if_lt hC dJ3_checkIndex_8e157_1 (tgt := 9) (by decide) (fun h => absurd h (nI_pos (by omega))) (fun _ => ?_)
  refine r_iload_n hC dJ3_checkIndex_8e157_4 rfl (j := 0) rfl ?_
  refine r_iload_n hC dJ3_checkIndex_8e157_5 rfl (j := 1) rfl ?_
  refine r_icmp_lt hC dJ3_checkIndex_8e157_6 (tgt := 16) (by decide) (fun _ => ?_) (fun h => absurd (Int32.not_le.mp (nI_ge hi hn)) h)
  refine r_iload_n hC dJ3_checkIndex_8e157_16 rfl (j := 0) rfl ?_
  refine r_iret hC hE hR dJ3_checkIndex_8e157_17 (by omega) (by omega) (rfl) ?_
  exact ⟨rfl, rfl⟩
set_option maxRecDepth 100000 in
set_option maxHeartbeats 4000000 in
theorem sj_chk {d i n : Nat} {w : mW} (hi : i < n) (hn : n < 2 ^ 31) : Sp (d + 1) yJ0_checkIndex_df160 cJ0_checkIndex_df160 2 none [.int (nI i), .int (nI n)] w 0 0 (fun v w' => v = none ∧ w' = w) noX := by
  refine Sp.of (by decide +kernel) (Nat.le_of_ble_eq_true rfl) (fun X hC hnl hE hR hN => ?_)
  have hC : Cx X RJ0 cJ0_checkIndex_df160 (d + 1) 0 0 := hC
  show Wp X 0 0 w [(0, .int (nI i)), (1, .int (nI n))] [] 0
  refine r_iload_n hC dJ0_checkIndex_df160_0 rfl (j := 0) rfl ?_
  refine r_iload_n hC dJ0_checkIndex_df160_1 rfl (j := 1) rfl ?_
  refine r_getSf hC sJ0_checkIndex_df160_2 ?_ ?_
  · refine r_callS hC (vs := [.int (nI i), .int (nI n), .null]) vJ0_checkIndex_df160_5 (sj_chk3n (d := d) hi hn) rfl (by omega) (by omega) (by omega) (Nat.le_of_ble_eq_true rfl) (fun v_1 w_1 hP_1 hlen_1 => ?_) (fun _ _ h => h.elim)
    rw [hP_1.1, hP_1.2]
    show Wp X 0 0 w [(0, .int (nI i)), (1, .int (nI n))] [.int (nI i)] 8
    refine r_pop hC dJ0_checkIndex_df160_8 rfl ?_
    refine r_vret hC hE hR dJ0_checkIndex_df160_9 (by omega) (by omega) (rfl) ?_
    exact ⟨rfl, rfl⟩
  · refine r_callS hC (vs := [.int (nI i), .int (nI n), .ref 1000070]) vJ0_checkIndex_df160_5 (sj_chk3 (d := d) hi hn) rfl (by omega) (by omega) (by omega) (Nat.le_of_ble_eq_true rfl) (fun v_1 w_1 hP_1 hlen_1 => ?_) (fun _ _ h => h.elim)
    rw [hP_1.1, hP_1.2]
    show Wp X 0 0 w [(0, .int (nI i)), (1, .int (nI n))] [.int (nI i)] 8
    refine r_pop hC dJ0_checkIndex_df160_8 rfl ?_
    refine r_vret hC hE hR dJ0_checkIndex_df160_9 (by omega) (by omega) (rfl) ?_
    exact ⟨rfl, rfl⟩
set_option maxRecDepth 100000 in
set_option maxHeartbeats 4000000 in
theorem sj_chr5 {i : Nat} {t : Nat → Nat} {d n cap : Nat} {ml : Int32} {a : Nat → Int32} (hn : n ≤ cap) (hb : cap ≤ 65536) (hL : sb_Lat t n a) (hi : i < n) : Sp (d + 2) yJ5_charAt_5068e cJ5_charAt_5068e 5 (some .char) [.ref 0, .int (nI i)] [(mO 1 [.ref 1, .int 0, .int ml, .int (nI n)]), (mI 5 cap a)] 0 0 (fun v w' => v = some (.int (nI (t i))) ∧ w' = [mO 1 [.ref 1, .int 0, .int ml, .int (nI n)], mI 5 cap a]) noX := by
  refine Sp.of (by decide +kernel) (Nat.le_of_ble_eq_true rfl) (fun X hC hnl hE hR hN => ?_)
  have hC : Cx X RJ5 cJ5_charAt_5068e (d + 2) 0 0 := hC
  show Wp X 0 0 [(mO 1 [.ref 1, .int 0, .int ml, .int (nI n)]), (mI 5 cap a)] [(0, .ref 0), (1, .int (nI i))] [] 0
  have ht := (hL i hi).1
  refine r_aload_n hC dJ5_charAt_5068e_0 rfl (j := 0) rfl ?_
  refine r_get hC gJ5_charAt_5068e_1 (show _ = some (mO 1 [.ref 1, .int 0, .int ml, .int (nI n)]) from rfl) (v := .int 0) rfl ?_
  refine r_istore_n hC dJ5_charAt_5068e_4 rfl (by rw [hnl]; decide) (L' := [(2, .int 0), (0, .ref 0), (1, .int (nI i))]) rfl ?_
  refine r_aload_n hC dJ5_charAt_5068e_5 rfl (j := 1) rfl ?_
  refine r_get hC gJ5_charAt_5068e_6 (show _ = some (mO 1 [.ref 1, .int 0, .int ml, .int (nI n)]) from rfl) (v := .ref 1) rfl ?_
  refine r_astore_n hC dJ5_charAt_5068e_9 rfl (by rw [hnl]; decide) (L' := [(3, .ref 1), (2, .int 0), (0, .ref 0), (1, .int (nI i))]) rfl ?_
  refine r_aload_n hC dJ5_charAt_5068e_10 rfl (j := 2) rfl ?_
  refine r_get hC gJ5_charAt_5068e_11 (show _ = some (mO 1 [.ref 1, .int 0, .int ml, .int (nI n)]) from rfl) (v := .int (nI n)) rfl ?_
  refine r_aload_n hC dJ5_charAt_5068e_14 rfl (j := 0) rfl ?_
  refine r_alen hC (t := 5) (v := nI cap) (fun dt => ⟨_, rfl⟩) dJ5_charAt_5068e_15 (show _ = some (mI 5 cap a) from rfl) rfl ?_
  refine r_iload_n hC dJ5_charAt_5068e_16 rfl (j := 1) rfl ?_
  refine r_ishr0 hC dJ5_charAt_5068e_17 ?_
  refine r_min hC vJ5_charAt_5068e_18 (Nat.le_of_ble_eq_true rfl) (by omega) (by omega) (by omega) ?_
  rw [nI_min hn (by omega)]
  refine r_istore hC dJ5_charAt_5068e_21 (by rw [hnl]; decide) (L' := [(4, .int (nI n)), (3, .ref 1), (2, .int 0), (0, .ref 0), (1, .int (nI i))]) rfl ?_
  refine r_iload_n hC dJ5_charAt_5068e_23 rfl (j := 4) rfl ?_
  refine r_iload hC dJ5_charAt_5068e_24 (j := 0) rfl ?_
  refine r_callS hC (vs := [.int (nI i), .int (nI n)]) vJ5_charAt_5068e_26 (sj_chk (d := d) hi (by omega)) rfl (by omega) (by omega) (by omega) (Nat.le_of_ble_eq_true rfl) (fun v_2 w_2 hP_2 hlen_2 => ?_) (fun _ _ h => h.elim)
  obtain ⟨rfl, rfl⟩ := hP_2
  show Wp X 0 0 [(mO 1 [.ref 1, .int 0, .int ml, .int (nI n)]), (mI 5 cap a)] [(4, .int (nI n)), (3, .ref 1), (2, .int 0), (0, .ref 0), (1, .int (nI i))] [] 29
  refine r_iload_n hC dJ5_charAt_5068e_29 rfl (j := 2) rfl ?_
  refine r_if_ne hC dJ5_charAt_5068e_30 (tgt := 42) (by decide) (fun h => absurd (by decide) h) (fun _ => ?_)
  refine r_aload_n hC dJ5_charAt_5068e_33 rfl (j := 1) rfl ?_
  refine r_iload_n hC dJ5_charAt_5068e_34 rfl (j := 4) rfl ?_
  refine r_bald hC dJ5_charAt_5068e_35 (j := i) (show _ = some (mI 5 cap a) from rfl) (mIx_nI (by omega) (by omega)) ?_
  rw [(hL i hi).2]
  refine r_sipush hC dJ5_charAt_5068e_36 (v := 255) (by decide) ?_
  refine r_iand hC dJ5_charAt_5068e_39 ?_
  rw [(sb_byte _ ht).1]
  refine r_i2c hC dJ5_charAt_5068e_40 rfl ?_
  rw [(sb_byte _ ht).2.1]
  refine r_nret hC hE hR dJ5_charAt_5068e_41 (nar_c _ ht) (by omega) (by omega) rfl ?_
  exact ⟨rfl, rfl⟩
set_option maxRecDepth 100000 in
set_option maxHeartbeats 4000000 in
theorem sj_chr {i : Nat} {t : Nat → Nat} {d n cap : Nat} {ml : Int32} {a : Nat → Int32} (hn : n ≤ cap) (hb : cap ≤ 65536) (hL : sb_Lat t n a) (hi : i < n) : Sp (d + 3) yJ4_charAt_5068e cJ4_charAt_5068e 2 (some .char) [.ref 0, .int (nI i)] [(mO 1 [.ref 1, .int 0, .int ml, .int (nI n)]), (mI 5 cap a)] 0 0 (fun v w' => v = some (.int (nI (t i))) ∧ w' = [mO 1 [.ref 1, .int 0, .int ml, .int (nI n)], mI 5 cap a]) noX := by
  refine Sp.of (by decide +kernel) (Nat.le_of_ble_eq_true rfl) (fun X hC hnl hE hR hN => ?_)
  have hC : Cx X RJ4 cJ4_charAt_5068e (d + 3) 0 0 := hC
  show Wp X 0 0 [(mO 1 [.ref 1, .int 0, .int ml, .int (nI n)]), (mI 5 cap a)] [(0, .ref 0), (1, .int (nI i))] [] 0
  have ht := (hL i hi).1
  refine r_aload_n hC dJ4_charAt_5068e_0 rfl (j := 0) rfl ?_
  refine r_iload_n hC dJ4_charAt_5068e_1 rfl (j := 1) rfl ?_
  refine r_callSU hC (vs := [.int (nI i)]) vJ4_charAt_5068e_2 (sj_chr5 (d := d) hn hb hL hi) (show _ = some (mO 1 [.ref 1, .int 0, .int ml, .int (nI n)]) from rfl) rfl rfl (by omega) (by omega) (by omega) (Nat.le_of_ble_eq_true rfl) (fun v_1 w_1 hP_1 hlen_1 => ?_)
  obtain ⟨rfl, rfl⟩ := hP_1
  show Wp X 0 0 [(mO 1 [.ref 1, .int 0, .int ml, .int (nI n)]), (mI 5 cap a)] [(0, .ref 0), (1, .int (nI i))] [.int (nI (t i))] 5
  refine r_nret hC hE hR dJ4_charAt_5068e_5 (nar_c _ ht) (by omega) (by omega) rfl ?_
  exact ⟨rfl, rfl⟩
set_option maxRecDepth 100000 in
set_option maxHeartbeats 4000000 in
theorem sj_set5 {d n cap : Nat} {ml : Int32} {a : Nat → Int32} (hn : n ≤ cap) (hb : cap ≤ 65536) : Sp (d + 1) yJ5_setLength_d00df cJ5_setLength_d00df 2 none [.ref 0, .int 0] [(mO 1 [.ref 1, .int 0, .int ml, .int (nI n)]), (mI 5 cap a)] 0 0 (fun v w' => v = none ∧ ∃ ml', w' = [mO 1 [.ref 1, .int 0, .int ml', .int (nI 0)], mI 5 cap a]) noX := by
  refine Sp.of (by decide +kernel) (Nat.le_of_ble_eq_true rfl) (fun X hC hnl hE hR hN => ?_)
  have hC : Cx X RJ5 cJ5_setLength_d00df (d + 1) 0 0 := hC
  show Wp X 0 0 [(mO 1 [.ref 1, .int 0, .int ml, .int (nI n)]), (mI 5 cap a)] [(0, .ref 0), (1, .int 0)] [] 0
  refine r_iload_n hC dJ5_setLength_d00df_0 rfl (j := 1) rfl ?_
  refine r_if_ge hC dJ5_setLength_d00df_1 (tgt := 13) (by decide) (fun _ => ?_) (fun h => absurd (by decide) h)
  refine r_aload_n hC dJ5_setLength_d00df_13 rfl (j := 0) rfl ?_
  refine r_iload_n hC dJ5_setLength_d00df_14 rfl (j := 1) rfl ?_
  refine r_callX hC (vs := [.int 0]) vJ5_setLength_d00df_15 (sj_ens0 (d := d) (q := 0) (Nat.zero_le _) hb) (show _ = some (mO 1 [.ref 1, .int 0, .int ml, .int (nI n)]) from rfl) rfl rfl (by omega) (by omega) (by omega) (Nat.le_of_ble_eq_true rfl) (fun v_1 w_1 hP_1 hlen_1 => ?_)
  obtain ⟨rfl, rfl⟩ := hP_1
  show Wp X 0 0 [(mO 1 [.ref 1, .int 0, .int ml, .int (nI n)]), (mI 5 cap a)] [(0, .ref 0), (1, .int 0)] [] 18
  refine r_aload_n hC dJ5_setLength_d00df_18 rfl (j := 0) rfl ?_
  refine r_get hC gJ5_setLength_d00df_19 (show _ = some (mO 1 [.ref 1, .int 0, .int ml, .int (nI n)]) from rfl) (v := .int (nI n)) rfl ?_
  refine r_iload_n hC dJ5_setLength_d00df_22 rfl (j := 1) rfl ?_
  refine r_icmp_ge hC dJ5_setLength_d00df_23 (tgt := 63) (by decide) (fun _ => ?_) (fun h => absurd (nI_pos' (by omega)) h)
  refine r_aload_n hC dJ5_setLength_d00df_63 rfl (j := 0) rfl ?_
  refine r_get hC gJ5_setLength_d00df_64 (show _ = some (mO 1 [.ref 1, .int 0, .int ml, .int (nI n)]) from rfl) (v := .int (nI n)) rfl ?_
  refine r_iload_n hC dJ5_setLength_d00df_67 rfl (j := 1) rfl ?_
  refine r_icmp_le hC dJ5_setLength_d00df_68 (tgt := 76) (by decide) (fun c68 => ?_) (fun c68 => ?_)
  · refine r_aload_n hC dJ5_setLength_d00df_76 rfl (j := 0) rfl ?_
    refine r_iload_n hC dJ5_setLength_d00df_77 rfl (j := 1) rfl ?_
    refine r_put' hC pJ5_setLength_d00df_78 (show _ = some (mO 1 [.ref 1, .int 0, .int ml, .int (nI n)]) from rfl) (Nat.le_of_ble_eq_true rfl) (fun _ => rfl) (fun _ => rfl) (fun w_2 ew_2 => ?_)
    subst ew_2
    show Wp X 0 0 [(mO 1 [.ref 1, .int 0, .int ml, .int 0]), (mI 5 cap a)] [(0, .ref 0), (1, .int 0)] [] _
    refine r_vret hC hE hR dJ5_setLength_d00df_81 (by omega) (by omega) rfl ?_
    exact ⟨rfl, _, rfl⟩
  · refine r_aload_n hC dJ5_setLength_d00df_71 rfl (j := 0) rfl ?_
    refine r_iconst hC dJ5_setLength_d00df_72 (v := 1) (by decide) ?_
    refine r_put' hC pJ5_setLength_d00df_73 (show _ = some (mO 1 [.ref 1, .int 0, .int ml, .int (nI n)]) from rfl) (Nat.le_of_ble_eq_true rfl) (fun _ => rfl) (fun _ => rfl) (fun w_3 ew_3 => ?_)
    subst ew_3
    show Wp X 0 0 [(mO 1 [.ref 1, .int 0, .int 1, .int (nI n)]), (mI 5 cap a)] [(0, .ref 0), (1, .int 0)] [] _
    refine r_aload_n hC dJ5_setLength_d00df_76 rfl (j := 0) rfl ?_
    refine r_iload_n hC dJ5_setLength_d00df_77 rfl (j := 1) rfl ?_
    refine r_put' hC pJ5_setLength_d00df_78 (show _ = some (mO 1 [.ref 1, .int 0, .int 1, .int (nI n)]) from rfl) (Nat.le_of_ble_eq_true rfl) (fun _ => rfl) (fun _ => rfl) (fun w_4 ew_4 => ?_)
    subst ew_4
    show Wp X 0 0 [(mO 1 [.ref 1, .int 0, .int 1, .int 0]), (mI 5 cap a)] [(0, .ref 0), (1, .int 0)] [] _
    refine r_vret hC hE hR dJ5_setLength_d00df_81 (by omega) (by omega) rfl ?_
    exact ⟨rfl, _, rfl⟩
set_option maxRecDepth 100000 in
set_option maxHeartbeats 4000000 in
theorem sj_set {d n cap : Nat} {ml : Int32} {a : Nat → Int32} (hn : n ≤ cap) (hb : cap ≤ 65536) : Sp (d + 2) yJ4_setLength_d00df cJ4_setLength_d00df 2 none [.ref 0, .int 0] [(mO 1 [.ref 1, .int 0, .int ml, .int (nI n)]), (mI 5 cap a)] 0 0 (fun v w' => v = none ∧ ∃ ml', w' = [mO 1 [.ref 1, .int 0, .int ml', .int (nI 0)], mI 5 cap a]) noX := by
  refine Sp.of (by decide +kernel) (Nat.le_of_ble_eq_true rfl) (fun X hC hnl hE hR hN => ?_)
  have hC : Cx X RJ4 cJ4_setLength_d00df (d + 2) 0 0 := hC
  show Wp X 0 0 [(mO 1 [.ref 1, .int 0, .int ml, .int (nI n)]), (mI 5 cap a)] [(0, .ref 0), (1, .int 0)] [] 0
  refine r_aload_n hC dJ4_setLength_d00df_0 rfl (j := 0) rfl ?_
  refine r_iload_n hC dJ4_setLength_d00df_1 rfl (j := 1) rfl ?_
  refine r_callSU hC (vs := [.int 0]) vJ4_setLength_d00df_2 (sj_set5 (d := d) hn hb) (show _ = some (mO 1 [.ref 1, .int 0, .int ml, .int (nI n)]) from rfl) rfl rfl (by omega) (by omega) (by omega) (Nat.le_of_ble_eq_true rfl) (fun v_1 w_1 hP_1 hlen_1 => ?_)
  obtain ⟨rfl, ml2, rfl⟩ := hP_1
  show Wp X 0 0 [(mO 1 [.ref 1, .int 0, .int ml2, .int (nI 0)]), (mI 5 cap a)] [(0, .ref 0), (1, .int 0)] [] 5
  refine r_vret hC hE hR dJ4_setLength_d00df_5 (by omega) (by omega) rfl ?_
  exact ⟨rfl, _, rfl⟩
end JD2
