section TR2
/-- how an insertion stands: what is left of the place k stays, what is right of it has moved on -/
def InsAt (q : Nat → Int32) (l : List Nat) (k : Nat) : Prop := (∀ j, j < k → q j = nI (l.getD j 0)) ∧ ∀ j, k ≤ j → j < l.length → q (j + 1) = nI (l.getD j 0)
theorem InsAt.done {f q : Nat → Int32} {l : List Nat} {c k : Nat} (h : InsAt q l k) (hk : k ≤ l.length) (hb : ∀ z ∈ l.drop k, qBef f c z = true) (hz : k = 0 ∨ qBef f c (l.getD (k - 1) 0) = false) : QL (upd q k (nI c)) (qIns f c l) := by
  have e1 : qIns f c l = qIns f c (l.take k) ++ l.drop k := by
    have := qIns_app (f := f) (c := c) (l.take k) (l.drop k) hb
    rw [List.take_append_drop] at this
    exact this
  have e2 : qIns f c (l.take k) = l.take k ++ [c] := by
    rcases Nat.eq_zero_or_pos k with rfl | hk0
    · rfl
    · have hz : qBef f c (l.getD (k - 1) 0) = false := hz.resolve_left (by omega)
      have hi : k - 1 < l.length := by omega
      have e3 : l.take k = l.take (k - 1) ++ [l.getD (k - 1) 0] := by
        have e4 : k = k - 1 + 1 := by omega
        rw [e4, List.take_succ, List.getElem?_eq_getElem hi, List.getD_eq_getElem?_getD]
        show l.take (k - 1) ++ [l[k - 1]] = _
        rw [show k - 1 + 1 - 1 = k - 1 by omega, List.getElem?_eq_getElem hi]
        rfl
      rw [e3, qIns_last _ hz]
  have hlt : (l.take k).length = k := by rw [List.length_take]; omega
  intro j hj
  rw [qIns_len] at hj
  rw [e1, e2]
  rcases Nat.lt_trichotomy j k with g | g | g
  · rw [pk_un (by omega), h.1 j g, List.append_assoc, getD_app_l (by omega), List.getD_eq_getElem?_getD, List.getD_eq_getElem?_getD, List.getElem?_take_of_lt g]
  · subst g
    rw [pk_us, List.append_assoc, getD_app_r (by omega), hlt, Nat.sub_self]
    rfl
  · rw [pk_un (by omega)]
    obtain ⟨i, rfl⟩ : ∃ i, j = i + 1 := ⟨j - 1, by omega⟩
    rw [h.2 i (by omega) (by omega), getD_app_r (by rw [List.length_append, hlt]; show k + 1 ≤ i + 1; omega), List.length_append, hlt, List.getD_eq_getElem?_getD, List.getD_eq_getElem?_getD, List.getElem?_drop]
    congr 4
    show i = k + (i + 1 - (k + 1))
    omega
set_option maxRecDepth 100000 in
set_option maxHeartbeats 4000000 in
theorem ins_loop {X : mC} {d : Nat} {w0 : mW} {t c : Nat} {f g : Nat → Int32} {sl op lo : Int32} {l : List Nat} (hl : ∀ z ∈ l, z < 25) (hn : l.length < 25) (hc : c < 25) (hC : Cx X RX7 cX7_insert (d + 1) 0 0) (hnl : mNL X = 3)
    (kk : ∀ (w : mW) (q : Nat → Int32) (k : Nat), k ≤ l.length → w.length = w0.length → TrAt w t (f, g, sl, op, lo) q l.length → InsAt q l k → (∀ z ∈ l.drop k, qBef f c z = true) → (k = 0 ∨ qBef f c (l.getD (k - 1) 0) = false) → (∀ k, (k < t ∨ t + 4 < k) → w[k]? = w0[k]?) → Wp X 0 0 w [(0, .ref t), (1, .int (nI c)), (2, .int (nI k))] [] 45) :
    ∀ (k : Nat) (w : mW) (q : Nat → Int32), k ≤ l.length → w.length = w0.length → TrAt w t (f, g, sl, op, lo) q l.length → InsAt q l k → (∀ z ∈ l.drop k, qBef f c z = true) → (∀ k, (k < t ∨ t + 4 < k) → w[k]? = w0[k]?) → Wp X 0 0 w [(0, .ref t), (1, .int (nI c)), (2, .int (nI k))] [] 5 := by
  intro k
  induction k with
  | zero =>
    intro w q h9 hlen H0 hI hB hO
    refine r_iload_n hC dX7_insert_5 rfl (j := 2) rfl ?_
    refine r_if_le hC dX7_insert_6 (tgt := 45) (by decide) (fun _ => ?_) (fun h => absurd (by decide) h)
    exact kk w q 0 h9 hlen H0 hI hB (Or.inl rfl) hO
  | succ k ih =>
    intro w q h9 hlen H0 hI hB hO
    have hqk : q k = nI (l.getD k 0) := hI.1 k (by omega)
    have hlk : l.getD k 0 < 25 := hl _ (by rw [List.getD_eq_getElem?_getD, List.getElem?_eq_getElem (by omega : k < l.length)]; exact List.getElem_mem _)
    have ht : w[t]? = some (mO 8 [.ref (t + 1), .ref (t + 4), .int (nI l.length)]) := H0.1
    have H : HillAt w (t + 1) (t + 2) (t + 3) (f, g, sl, op, lo) := H0.2.1
    have hh : w[t + 1]? = some (mO 6 [.ref (t + 2), .ref (t + 3), .int sl, .int op, .int lo]) := H.1
    have ha : w[t + 2]? = some (mI 0 26 f) := H.2.1
    have hb : w[t + 3]? = some (mI 0 25 g) := H.2.2
    have hq : w[t + 4]? = some (mI 0 25 q) := H0.2.2
    refine r_iload_n hC dX7_insert_5 rfl (j := 2) rfl ?_
    refine r_if_le hC dX7_insert_6 (tgt := 45) (by decide) (fun h => absurd h (nI_nle (Nat.succ_pos k) (by omega))) (fun _ => ?_)
    refine r_aload_n hC dX7_insert_9 rfl (j := 0) rfl ?_
    refine r_iload_n hC dX7_insert_10 rfl (j := 1) rfl ?_
    refine r_aload_n hC dX7_insert_11 rfl (j := 0) rfl ?_
    refine r_get hC gX7_insert_12 ht (v := .ref (t + 4)) rfl ?_
    refine r_iload_n hC dX7_insert_15 rfl (j := 2) rfl ?_
    refine r_iconst hC dX7_insert_16 (v := 1) (by decide) ?_
    refine r_isub hC dX7_insert_17 ?_
    rw [nI_pred]
    refine r_iald hC dX7_insert_18 (j := k) hq (mIx_nI (by omega) (by decide)) ?_
    rw [hqk]
    refine r_callV hC (vs := [.int (nI c), .int (nI (l.getD k 0))]) vX7_insert_19 (sp_bef (d := d) H0 (by omega) (by omega)) ht rfl rfl (by omega) (by omega) (by omega) (Nat.le_of_ble_eq_true rfl) (fun v_1 w_1 hP_1 hlen_1 => ?_) (fun _ _ h => h.elim)
    rw [hP_1.1, hP_1.2]
    show Wp X 0 0 w [(0, .ref t), (1, .int (nI c)), (2, .int (nI (k + 1)))] [.int (bI (qBef f c (l.getD k 0)))] 22
    refine r_if_eq hC dX7_insert_22 (tgt := 45) (by decide) (fun c22 => ?_) (fun c22 => ?_)
    · exact kk w q (k + 1) h9 hlen H0 hI hB (Or.inr (bI_0.mp c22)) hO
    · refine r_aload_n hC dX7_insert_25 rfl (j := 0) rfl ?_
      refine r_get hC gX7_insert_26 ht (v := .ref (t + 4)) rfl ?_
      refine r_iload_n hC dX7_insert_29 rfl (j := 2) rfl ?_
      refine r_aload_n hC dX7_insert_30 rfl (j := 0) rfl ?_
      refine r_get hC gX7_insert_31 ht (v := .ref (t + 4)) rfl ?_
      refine r_iload_n hC dX7_insert_34 rfl (j := 2) rfl ?_
      refine r_iconst hC dX7_insert_35 (v := 1) (by decide) ?_
      refine r_isub hC dX7_insert_36 ?_
      rw [nI_pred]
      refine r_iald hC dX7_insert_37 (j := k) hq (mIx_nI (by omega) (by decide)) ?_
      rw [hqk]
      refine r_iast' hC dX7_insert_38 (j := (k + 1)) hq (mIx_nI (by omega) (by decide)) (fun w_2 ew_2 => ?_)
      have hf2_t : w_2[t]? = some (mO 8 [.ref (t + 1), .ref (t + 4), .int (nI l.length)]) := by rw [ew_2, List.getElem?_set_ne (by omega)]; exact ht
      have hf2__t___1_ : w_2[(t + 1)]? = some (mO 6 [.ref (t + 2), .ref (t + 3), .int sl, .int op, .int lo]) := by rw [ew_2, List.getElem?_set_ne (by omega)]; exact hh
      have hf2__t___2_ : w_2[(t + 2)]? = some (mI 0 26 f) := by rw [ew_2, List.getElem?_set_ne (by omega)]; exact ha
      have hf2__t___3_ : w_2[(t + 3)]? = some (mI 0 25 g) := by rw [ew_2, List.getElem?_set_ne (by omega)]; exact hb
      have hf2__t___4_ : w_2[(t + 4)]? = some (mI 0 25 (upd q (k + 1) (nI (l.getD k 0)))) := by rw [ew_2]; exact List.getElem?_set_self (lt_of_get hq)
      refine r_iinc hC dX7_insert_39 (j := 2) rfl (v := nI k) (by show nI (k + 1) + (-1) = nI k; exact sb_m1 (Nat.succ_pos k)) (by rw [hnl]; decide) (L' := [(2, .int (nI k)), (0, .ref t), (1, .int (nI c))]) rfl ?_
      refine r_goto hC dX7_insert_42 (tgt := 5) (by decide) ?_
      refine r_locals [1, 2, 0] (L' := [(0, .ref t), (1, .int (nI c)), (2, .int (nI k))]) rfl ?_
      refine ih w_2 (upd q (k + 1) (nI (l.getD k 0))) (by omega) (by rw [ew_2, List.length_set]; exact hlen) ⟨hf2_t, ⟨hf2__t___1_, hf2__t___2_, hf2__t___3_⟩, hf2__t___4_⟩ ⟨fun j hj => ?_, fun j h1 h2 => ?_⟩ (fun z hz => ?_) (fun k hk => by rw [ew_2, List.getElem?_set_ne (by omega)]; exact hO k hk)
      · rw [pk_un (by omega)]
        exact hI.1 j (by omega)
      · rcases Nat.lt_or_ge k j with h | h
        · rw [pk_un (by omega)]
          exact hI.2 j (by omega) h2
        · obtain rfl : j = k := by omega
          rw [pk_us]
      · have hkl : k < l.length := by omega
        have e : l.drop k = l.getD k 0 :: l.drop (k + 1) := by
          rw [List.drop_eq_getElem_cons hkl, List.getD_eq_getElem?_getD, List.getElem?_eq_getElem hkl]
          rfl
        rw [e] at hz
        rcases List.mem_cons.mp hz with rfl | hz
        · exact bI_ne.mp c22
        · exact hB z hz
set_option maxRecDepth 100000 in
set_option maxHeartbeats 4000000 in
theorem sp_qins {d c : Nat} {l : List Nat} {w : mW} {t : Nat} {f g : Nat → Int32} {sl op lo : Int32} {q : Nat → Int32} (H0 : TrAt w t (f, g, sl, op, lo) q l.length) (hl : ∀ z ∈ l, z < 25) (hn : l.length < 25) (hQ : QL q l) (hc : c < 25) : Sp (d + 1) yX7_insert cX7_insert 3 none [.ref t, .int (nI c)] w 0 0 (fun v w' => v = none ∧ TrTo w t (f, g, sl, op, lo) (qIns f c l) w') noX := by
  refine Sp.of (by decide +kernel) (Nat.le_of_ble_eq_true rfl) (fun X hC hnl hE hR hN => ?_)
  have hC : Cx X RX7 cX7_insert (d + 1) 0 0 := hC
  show Wp X 0 0 w [(0, .ref t), (1, .int (nI c))] [] 0
  have ht : w[t]? = some (mO 8 [.ref (t + 1), .ref (t + 4), .int (nI l.length)]) := H0.1
  have H : HillAt w (t + 1) (t + 2) (t + 3) (f, g, sl, op, lo) := H0.2.1
  have hh : w[t + 1]? = some (mO 6 [.ref (t + 2), .ref (t + 3), .int sl, .int op, .int lo]) := H.1
  have ha : w[t + 2]? = some (mI 0 26 f) := H.2.1
  have hb : w[t + 3]? = some (mI 0 25 g) := H.2.2
  have hq : w[t + 4]? = some (mI 0 25 q) := H0.2.2
  refine r_aload_n hC dX7_insert_0 rfl (j := 0) rfl ?_
  refine r_get hC gX7_insert_1 ht (v := .int (nI l.length)) rfl ?_
  refine r_istore_n hC dX7_insert_4 rfl (by rw [hnl]; decide) (L' := [(2, .int (nI l.length)), (0, .ref t), (1, .int (nI c))]) rfl ?_
  refine r_locals [1, 2, 0] (L' := [(0, .ref t), (1, .int (nI c)), (2, .int (nI l.length))]) rfl ?_
  refine ins_loop hl hn hc hC hnl (fun w2 q2 k hk hlen2 hT2 hI2 hB2 hz2 hO2 => ?_) l.length w q (Nat.le_refl _) rfl H0 ⟨hQ, fun j h1 h2 => absurd h1 (Nat.not_le.mpr h2)⟩ (fun z hz => by rw [List.drop_length] at hz; cases hz) (fun _ _ => rfl)
  have ht2 : w2[t]? = some (mO 8 [.ref (t + 1), .ref (t + 4), .int (nI l.length)]) := hT2.1
  have H2 := hT2.2.1
  have hq2 : w2[t + 4]? = some (mI 0 25 q2) := hT2.2.2
  refine r_aload_n hC dX7_insert_45 rfl (j := 0) rfl ?_
  refine r_get hC gX7_insert_46 ht2 (v := .ref (t + 4)) rfl ?_
  refine r_iload_n hC dX7_insert_49 rfl (j := 2) rfl ?_
  refine r_iload_n hC dX7_insert_50 rfl (j := 1) rfl ?_
  refine r_iast' hC dX7_insert_51 (j := k) hq2 (mIx_nI (by omega) (by decide)) (fun w_1 ew_1 => ?_)
  have hf1_t : w_1[t]? = some (mO 8 [.ref (t + 1), .ref (t + 4), .int (nI l.length)]) := by rw [ew_1, List.getElem?_set_ne (by omega)]; exact ht2
  have hf1__t___4_ : w_1[(t + 4)]? = some (mI 0 25 (upd q2 k (nI c))) := by rw [ew_1]; exact List.getElem?_set_self (lt_of_get hq2)
  refine r_aload_n hC dX7_insert_52 rfl (j := 0) rfl ?_
  refine r_dup hC dX7_insert_53 rfl ?_
  refine r_get hC gX7_insert_54 hf1_t (v := .int (nI l.length)) rfl ?_
  refine r_iconst hC dX7_insert_57 (v := 1) (by decide) ?_
  refine r_iadd hC dX7_insert_58 ?_
  rw [nI_1]
  refine r_put' hC pX7_insert_59 hf1_t (Nat.le_of_ble_eq_true rfl) (fun _ => rfl) (fun _ => rfl) (fun w_2 ew_2 => ?_)
  have hf2_t : w_2[t]? = some (mO 8 [.ref (t + 1), .ref (t + 4), .int (nI (l.length + 1))]) := by rw [ew_2]; exact List.getElem?_set_self (lt_of_get hf1_t)
  have hf2__t___4_ : w_2[(t + 4)]? = some (mI 0 25 (upd q2 k (nI c))) := by rw [ew_2, List.getElem?_set_ne (by omega)]; exact hf1__t___4_
  refine r_vret hC hE hR dX7_insert_62 (by omega) (by omega) (by rw [ew_2, List.length_set, ew_1, List.length_set]; exact hlen2) ?_
  refine ⟨rfl, upd q2 k (nI c), ⟨by rw [qIns_len]; exact hf2_t, ⟨?_, ?_, ?_⟩, hf2__t___4_⟩, hI2.done hk hB2 hz2, fun k hk => ?_⟩
  · rw [ew_2, List.getElem?_set_ne (by omega), ew_1, List.getElem?_set_ne (by omega)]
    exact H2.1
  · rw [ew_2, List.getElem?_set_ne (by omega), ew_1, List.getElem?_set_ne (by omega)]
    exact H2.2.1
  · rw [ew_2, List.getElem?_set_ne (by omega), ew_1, List.getElem?_set_ne (by omega)]
    exact H2.2.2
  · rw [ew_2, List.getElem?_set_ne (by omega), ew_1, List.getElem?_set_ne (by omega)]
    exact hO2 k hk
set_option maxRecDepth 100000 in
set_option maxHeartbeats 4000000 in
theorem sp_qref {d c : Nat} {l : List Nat} {w : mW} {t : Nat} {f g : Nat → Int32} {sl op lo : Int32} {q : Nat → Int32} (H0 : TrAt w t (f, g, sl, op, lo) q l.length) (hl : QOK l) (hQ : QL q l) (hc : c < 25) : Sp (d + 2) yX7_refresh cX7_refresh 2 none [.ref t, .int (nI c)] w 0 0 (fun v w' => v = none ∧ TrTo w t (f, g, sl, op, lo) (qRef f op sl c l) w') noX := by
  refine Sp.of (by decide +kernel) (Nat.le_of_ble_eq_true rfl) (fun X hC hnl hE hR hN => ?_)
  have hC : Cx X RX7 cX7_refresh (d + 2) 0 0 := hC
  show Wp X 0 0 w [(0, .ref t), (1, .int (nI c))] [] 0
  have ht : w[t]? = some (mO 8 [.ref (t + 1), .ref (t + 4), .int (nI l.length)]) := H0.1
  have H : HillAt w (t + 1) (t + 2) (t + 3) (f, g, sl, op, lo) := H0.2.1
  have hh : w[t + 1]? = some (mO 6 [.ref (t + 2), .ref (t + 3), .int sl, .int op, .int lo]) := H.1
  have ha : w[t + 2]? = some (mI 0 26 f) := H.2.1
  have hb : w[t + 3]? = some (mI 0 25 g) := H.2.2
  have hq : w[t + 4]? = some (mI 0 25 q) := H0.2.2
  refine r_aload_n hC dX7_refresh_0 rfl (j := 0) rfl ?_
  refine r_iload_n hC dX7_refresh_1 rfl (j := 1) rfl ?_
  refine r_callV hC (vs := [.int (nI c)]) vX7_refresh_2 (sp_qrem (d := d) H0 hl hQ hc) ht rfl rfl (by omega) (by omega) (by omega) (Nat.le_of_ble_eq_true rfl) (fun v_1 w_1 hP_1 hlen_1 => ?_) (fun _ _ h => h.elim)
  obtain ⟨hv_1, q_1, hT_1, hQ_1, hO_1⟩ := hP_1
  have ht_1 : w_1[t]? = some (mO 8 [.ref (t + 1), .ref (t + 4), .int (nI (qRem c l).length)]) := hT_1.1
  have hh_1 : w_1[(t + 1)]? = some (mO 6 [.ref (t + 2), .ref (t + 3), .int sl, .int op, .int lo]) := hT_1.2.1.1
  have ha_1 : w_1[(t + 2)]? = some (mI 0 26 f) := hT_1.2.1.2.1
  have hb_1 : w_1[(t + 3)]? = some (mI 0 25 g) := hT_1.2.1.2.2
  have hq_1 : w_1[(t + 4)]? = some (mI 0 25 q_1) := hT_1.2.2
  rw [hv_1]
  show Wp X 0 0 w_1 [(0, .ref t), (1, .int (nI c))] [] 5
  refine r_aload_n hC dX7_refresh_5 rfl (j := 0) rfl ?_
  refine r_get hC gX7_refresh_6 ht_1 (v := .ref (t + 1)) rfl ?_
  refine r_iload_n hC dX7_refresh_9 rfl (j := 1) rfl ?_
  refine r_callV hC (vs := [.int (nI c)]) vX7_refresh_10 (sp_steep (d := d) hT_1.2.1 hc) hh_1 rfl rfl (by omega) (by omega) (by omega) (Nat.le_of_ble_eq_true rfl) (fun v_2 w_2 hP_2 hlen_2 => ?_) (fun _ _ h => h.elim)
  rw [hP_2.1, hP_2.2]
  show Wp X 0 0 w_1 [(0, .ref t), (1, .int (nI c))] [.int (hSteep f op c)] 13
  refine r_aload_n hC dX7_refresh_13 rfl (j := 0) rfl ?_
  refine r_get hC gX7_refresh_14 ht_1 (v := .ref (t + 1)) rfl ?_
  refine r_get hC gX7_refresh_17 hh_1 (v := .int sl) rfl ?_
  refine r_icmp_lt hC dX7_refresh_20 (tgt := 28) (by decide) (fun c20 => ?_) (fun c20 => ?_)
  · refine r_vret hC hE hR dX7_refresh_28 (by omega) (by omega) (by rw [hlen_1]) ?_
    have e9 : qRef f op sl c l = qRem c l := if_pos c20
    rw [e9]
    exact ⟨rfl, q_1, hT_1, hQ_1, fun k hk => by rw [hO_1 k (by omega)]⟩
  · refine r_aload_n hC dX7_refresh_23 rfl (j := 0) rfl ?_
    refine r_iload_n hC dX7_refresh_24 rfl (j := 1) rfl ?_
    refine r_callV hC (vs := [.int (nI c)]) vX7_refresh_25 (sp_qins (d := d) hT_1 (fun z hz => (qRem_ok hl).2 z hz) ((qRem_ok hl).lt hc (qRem_not c l)) hQ_1 hc) ht_1 rfl rfl (by omega) (by omega) (by omega) (Nat.le_of_ble_eq_true rfl) (fun v_3 w_3 hP_3 hlen_3 => ?_) (fun _ _ h => h.elim)
    obtain ⟨hv_3, q_3, hT_3, hQ_3, hO_3⟩ := hP_3
    have ht_3 : w_3[t]? = some (mO 8 [.ref (t + 1), .ref (t + 4), .int (nI (qIns f c (qRem c l)).length)]) := hT_3.1
    have hh_3 : w_3[(t + 1)]? = some (mO 6 [.ref (t + 2), .ref (t + 3), .int sl, .int op, .int lo]) := hT_3.2.1.1
    have ha_3 : w_3[(t + 2)]? = some (mI 0 26 f) := hT_3.2.1.2.1
    have hb_3 : w_3[(t + 3)]? = some (mI 0 25 g) := hT_3.2.1.2.2
    have hq_3 : w_3[(t + 4)]? = some (mI 0 25 q_3) := hT_3.2.2
    rw [hv_3]
    show Wp X 0 0 w_3 [(0, .ref t), (1, .int (nI c))] [] 28
    refine r_vret hC hE hR dX7_refresh_28 (by omega) (by omega) (by rw [hlen_3, hlen_1]) ?_
    have e9 : qRef f op sl c l = qIns f c (qRem c l) := if_neg c20
    rw [e9]
    exact ⟨rfl, q_3, hT_3, hQ_3, fun k hk => by rw [hO_3 k (by omega), hO_1 k (by omega)]⟩
end TR2
