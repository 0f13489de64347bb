section TR3
set_option maxRecDepth 100000 in
set_option maxHeartbeats 4000000 in
theorem ra_it {X : mC} {d : Nat} {s : Nat} {c : Nat} {l : List Nat} {w : mW} {t : Nat} {f g : Nat → Int32} {sl op lo : Int32} {q : Nat → Int32} (hC : Cx X RX7 cX7_refreshAround (d + 3) 0 0) (hnl : mNL X = 4) (H0 : TrAt w t (f, g, sl, op, lo) q l.length) (hl : QOK l) (hQ : QL q l) (hc : c < 25) (hs : s < 4) (kk : ∀ (w' : mW) (q' : Nat → Int32), w'.length = w.length → TrAt w' t (f, g, sl, op, lo) q' (qNb f op sl c s l).length → QL q' (qNb f op sl c s l) → (∀ k, (k < t ∨ t + 4 < k) → w'[k]? = w[k]?) → Wp X 0 0 w' [(0, .ref t), (1, .int (nI c)), (2, .int (nI (s + 1)))] [] 7) : Wp X 0 0 w [(0, .ref t), (1, .int (nI c)), (2, .int (nI s))] [] 7 := by
  have ht : w[t]? = some (mO 8 [.ref (t + 1), .ref (t + 4), .int (nI l.length)]) := H0.1
  have H : HillAt w (t + 1) (t + 2) (t + 3) (f, g, sl, op, lo) := H0.2.1
  have hh : w[t + 1]? = some (mO 6 [.ref (t + 2), .ref (t + 3), .int sl, .int op, .int lo]) := H.1
  have ha : w[t + 2]? = some (mI 0 26 f) := H.2.1
  have hb : w[t + 3]? = some (mI 0 25 g) := H.2.2
  have hq : w[t + 4]? = some (mI 0 25 q) := H0.2.2
  have hb9 := hNb_lt c hc s hs
  refine r_iload_n hC dX7_refreshAround_7 rfl (j := 2) rfl ?_
  refine r_iconst hC dX7_refreshAround_8 (v := 4) (by decide) ?_
  refine r_icmp_ge hC dX7_refreshAround_9 (tgt := 39) (by decide) (fun h => absurd h (lit_ge rfl hs (by decide))) (fun _ => ?_)
  refine r_gets hC sX7_refreshAround_12 (v := .ref 1000000) gZ_nb ?_
  refine r_iload_n hC dX7_refreshAround_15 rfl (j := 1) rfl ?_
  refine r_iconst hC dX7_refreshAround_16 (v := 4) (by decide) ?_
  refine r_imul hC dX7_refreshAround_17 ?_
  refine r_iload_n hC dX7_refreshAround_18 rfl (j := 2) rfl ?_
  refine r_iadd hC dX7_refreshAround_19 ?_
  refine r_ialdS hC dX7_refreshAround_20 (j := c * 4 + s) gT_nb (mIx4 hc hs) ?_
  rw [tNb hc hs]
  refine r_istore_n hC dX7_refreshAround_21 rfl (by rw [hnl]; decide) (L' := [(3, .int (nI (hNb c s))), (0, .ref t), (1, .int (nI c)), (2, .int (nI s))]) rfl ?_
  refine r_iload_n hC dX7_refreshAround_22 rfl (j := 0) rfl ?_
  refine r_bipush hC dX7_refreshAround_23 (v := 25) (by decide) ?_
  refine r_icmp_eq hC dX7_refreshAround_25 (tgt := 33) (by decide) (fun c25 => ?_) (fun c25 => ?_)
  · refine r_iinc hC dX7_refreshAround_33 (j := 3) rfl (v := nI (s + 1)) (nI_succ s).symm (by rw [hnl]; decide) (L' := [(2, .int (nI (s + 1))), (3, .int (nI (hNb c s))), (0, .ref t), (1, .int (nI c))]) rfl ?_
    refine r_goto hC dX7_refreshAround_36 (tgt := 7) (by decide) ?_
    refine r_locals [2, 3, 0] (L' := [(0, .ref t), (1, .int (nI c)), (2, .int (nI (s + 1)))]) rfl ?_
    have e9 : qNb f op sl c s l = l := if_pos ((lit_eq rfl (by omega) (by decide)).mp c25)
    rw [e9] at kk
    exact kk w q rfl H0 hQ (fun _ _ => rfl)
  · refine r_aload_n hC dX7_refreshAround_28 rfl (j := 1) rfl ?_
    refine r_iload_n hC dX7_refreshAround_29 rfl (j := 0) rfl ?_
    refine r_callV hC (vs := [.int (nI (hNb c s))]) vX7_refreshAround_30 (sp_qref (d := d) (c := hNb c s) H0 hl hQ (by have : ¬ hNb c s = 25 := fun q => c25 (by rw [q]; rfl); omega)) ht rfl rfl (by omega) (by omega) (by omega) (Nat.le_of_ble_eq_true rfl) (fun v_1 w_1 hP_1 hlen_1 => ?_) (fun _ _ h => h.elim)
    obtain ⟨hv_1, q_1, hT_1, hQ_1, hO_1⟩ := hP_1
    have ht_1 : w_1[t]? = some (mO 8 [.ref (t + 1), .ref (t + 4), .int (nI (qRef f op sl (hNb c s) l).length)]) := hT_1.1
    have hh_1 : w_1[(t + 1)]? = some (mO 6 [.ref (t + 2), .ref (t + 3), .int sl, .int op, .int lo]) := hT_1.2.1.1
    have ha_1 : w_1[(t + 2)]? = some (mI 0 26 f) := hT_1.2.1.2.1
    have hb_1 : w_1[(t + 3)]? = some (mI 0 25 g) := hT_1.2.1.2.2
    have hq_1 : w_1[(t + 4)]? = some (mI 0 25 q_1) := hT_1.2.2
    rw [hv_1]
    show Wp X 0 0 w_1 [(3, .int (nI (hNb c s))), (0, .ref t), (1, .int (nI c)), (2, .int (nI s))] [] 33
    refine r_iinc hC dX7_refreshAround_33 (j := 3) rfl (v := nI (s + 1)) (nI_succ s).symm (by rw [hnl]; decide) (L' := [(2, .int (nI (s + 1))), (3, .int (nI (hNb c s))), (0, .ref t), (1, .int (nI c))]) rfl ?_
    refine r_goto hC dX7_refreshAround_36 (tgt := 7) (by decide) ?_
    refine r_locals [2, 3, 0] (L' := [(0, .ref t), (1, .int (nI c)), (2, .int (nI (s + 1)))]) rfl ?_
    have e9 : qNb f op sl c s l = qRef f op sl (hNb c s) l := if_neg (fun q => c25 (by rw [q]; rfl))
    rw [e9] at kk
    exact kk w_1 q_1 hlen_1 hT_1 hQ_1 hO_1
set_option maxRecDepth 100000 in
set_option maxHeartbeats 4000000 in
theorem sp_qra {d c : Nat} {l : List Nat} {w : mW} {t : Nat} {f g : Nat → Int32} {sl op lo : Int32} {q : Nat → Int32} (H0 : TrAt w t (f, g, sl, op, lo) q l.length) (hl : QOK l) (hQ : QL q l) (hc : c < 25) : Sp (d + 3) yX7_refreshAround cX7_refreshAround 4 none [.ref t, .int (nI c)] w 0 0 (fun v w' => v = none ∧ TrTo w t (f, g, sl, op, lo) (qRA f op sl c l) w') noX := by
  refine Sp.of (by decide +kernel) (Nat.le_of_ble_eq_true rfl) (fun X hC hnl hE hR hN => ?_)
  have hC : Cx X RX7 cX7_refreshAround (d + 3) 0 0 := hC
  show Wp X 0 0 w [(0, .ref t), (1, .int (nI c))] [] 0
  have ht : w[t]? = some (mO 8 [.ref (t + 1), .ref (t + 4), .int (nI l.length)]) := H0.1
  have H : HillAt w (t + 1) (t + 2) (t + 3) (f, g, sl, op, lo) := H0.2.1
  have hh : w[t + 1]? = some (mO 6 [.ref (t + 2), .ref (t + 3), .int sl, .int op, .int lo]) := H.1
  have ha : w[t + 2]? = some (mI 0 26 f) := H.2.1
  have hb : w[t + 3]? = some (mI 0 25 g) := H.2.2
  have hq : w[t + 4]? = some (mI 0 25 q) := H0.2.2
  refine r_aload_n hC dX7_refreshAround_0 rfl (j := 0) rfl ?_
  refine r_iload_n hC dX7_refreshAround_1 rfl (j := 1) rfl ?_
  refine r_callV hC (vs := [.int (nI c)]) vX7_refreshAround_2 (sp_qref (d := d) H0 hl hQ hc) ht rfl rfl (by omega) (by omega) (by omega) (Nat.le_of_ble_eq_true rfl) (fun v_1 w_1 hP_1 hlen_1 => ?_) (fun _ _ h => h.elim)
  obtain ⟨hv_1, q_1, hT_1, hQ_1, hO_1⟩ := hP_1
  have ht_1 : w_1[t]? = some (mO 8 [.ref (t + 1), .ref (t + 4), .int (nI (qRef f op sl c l).length)]) := hT_1.1
  have hh_1 : w_1[(t + 1)]? = some (mO 6 [.ref (t + 2), .ref (t + 3), .int sl, .int op, .int lo]) := hT_1.2.1.1
  have ha_1 : w_1[(t + 2)]? = some (mI 0 26 f) := hT_1.2.1.2.1
  have hb_1 : w_1[(t + 3)]? = some (mI 0 25 g) := hT_1.2.1.2.2
  have hq_1 : w_1[(t + 4)]? = some (mI 0 25 q_1) := hT_1.2.2
  rw [hv_1]
  show Wp X 0 0 w_1 [(0, .ref t), (1, .int (nI c))] [] 5
  refine r_iconst hC dX7_refreshAround_5 (v := 0) (by decide) ?_
  refine r_istore_n hC dX7_refreshAround_6 rfl (by rw [hnl]; decide) (L' := [(2, .int 0), (0, .ref t), (1, .int (nI c))]) rfl ?_
  refine r_locals [1, 2, 0] (L' := [(0, .ref t), (1, .int (nI c)), (2, .int 0)]) rfl ?_
  have ok0 := qRef_ok (f := f) (op := op) (sl := sl) hl hc
  refine ra_it (s := 0) hC hnl hT_1 ok0 hQ_1 hc (by decide) (fun v0 r0 len0 T0 Q0 O0 => ?_)
  have ok1 := qNb_ok (f := f) (op := op) (sl := sl) (s := 0) ok0 hc (by decide)
  refine ra_it (s := 1) hC hnl T0 ok1 Q0 hc (by decide) (fun v1 r1 len1 T1 Q1 O1 => ?_)
  have ok2 := qNb_ok (f := f) (op := op) (sl := sl) (s := 1) ok1 hc (by decide)
  refine ra_it (s := 2) hC hnl T1 ok2 Q1 hc (by decide) (fun v2 r2 len2 T2 Q2 O2 => ?_)
  have ok3 := qNb_ok (f := f) (op := op) (sl := sl) (s := 2) ok2 hc (by decide)
  refine ra_it (s := 3) hC hnl T2 ok3 Q2 hc (by decide) (fun v3 r3 len3 T3 Q3 O3 => ?_)
  have ok4 := qNb_ok (f := f) (op := op) (sl := sl) (s := 3) ok3 hc (by decide)
  refine r_iload_n hC dX7_refreshAround_7 rfl (j := 2) rfl ?_
  refine r_iconst hC dX7_refreshAround_8 (v := 4) (by decide) ?_
  refine r_icmp_ge hC dX7_refreshAround_9 (tgt := 39) (by decide) (fun _ => ?_) (fun h => absurd (by decide) h)
  refine r_vret hC hE hR dX7_refreshAround_39 (by omega) (by omega) (len3.trans (len2.trans (len1.trans (len0.trans hlen_1)))) ?_
  exact ⟨rfl, r3, T3, Q3, fun k hk => (O3 k hk).trans ((O2 k hk).trans ((O1 k hk).trans ((O0 k hk).trans (hO_1 k hk))))⟩
set_option maxRecDepth 100000 in
set_option maxHeartbeats 4000000 in
theorem fq_loop {X : mC} {d : Nat} {w0 : mW} {t : Nat} {f g : Nat → Int32} {sl op lo : Int32} (hC : Cx X RX7 cX7_fillQueue (d + 3) 0 0) (hnl : mNL X = 2)
    (kk : ∀ (w : mW) (q : Nat → Int32), w.length = w0.length → TrAt w t (f, g, sl, op, lo) q (qFill f op sl 25).length → QL q (qFill f op sl 25) → (∀ k, (k < t ∨ t + 4 < k) → w[k]? = w0[k]?) → Wp X 0 0 w [(0, .ref t), (1, .int (nI 25))] [] 7) :
    ∀ (m c : Nat) (w : mW) (q : Nat → Int32), c + m = 25 → w.length = w0.length → TrAt w t (f, g, sl, op, lo) q (qFill f op sl c).length → QL q (qFill f op sl c) → (∀ k, (k < t ∨ t + 4 < k) → w[k]? = w0[k]?) → Wp X 0 0 w [(0, .ref t), (1, .int (nI c))] [] 7 := by
  intro m
  induction m with
  | zero =>
    intro c w q h9 hlen H0 hQ hO
    obtain rfl : c = 25 := by omega
    exact kk w q hlen H0 hQ hO
  | succ m ih =>
    intro c w q h9 hlen H0 hQ hO
    have hc : c < 25 := by omega
    have hl := qFill_ok (f := f) (op := op) (sl := sl) (c := c) (by omega)
    refine r_iload_n hC dX7_fillQueue_7 rfl (j := 1) rfl ?_
    refine r_bipush hC dX7_fillQueue_8 (v := 25) (by decide) ?_
    refine r_icmp_ge hC dX7_fillQueue_10 (tgt := 24) (by decide) (fun h => absurd h (lit_ge rfl hc (by decide))) (fun _ => ?_)
    refine r_aload_n hC dX7_fillQueue_13 rfl (j := 0) rfl ?_
    refine r_iload_n hC dX7_fillQueue_14 rfl (j := 1) rfl ?_
    refine r_callV hC (vs := [.int (nI c)]) vX7_fillQueue_15 (sp_qref (d := d) H0 hl hQ hc) H0.1 rfl rfl (by omega) (by omega) (by omega) (Nat.le_of_ble_eq_true rfl) (fun v_1 w_1 hP_1 hlen_1 => ?_) (fun _ _ h => h.elim)
    obtain ⟨hv_1, q_1, hT_1, hQ_1, hO_1⟩ := hP_1
    have ht_1 : w_1[t]? = some (mO 8 [.ref (t + 1), .ref (t + 4), .int (nI (qRef f op sl c (qFill f op sl c)).length)]) := hT_1.1
    have hh_1 : w_1[(t + 1)]? = some (mO 6 [.ref (t + 2), .ref (t + 3), .int sl, .int op, .int lo]) := hT_1.2.1.1
    have ha_1 : w_1[(t + 2)]? = some (mI 0 26 f) := hT_1.2.1.2.1
    have hb_1 : w_1[(t + 3)]? = some (mI 0 25 g) := hT_1.2.1.2.2
    have hq_1 : w_1[(t + 4)]? = some (mI 0 25 q_1) := hT_1.2.2
    rw [hv_1]
    show Wp X 0 0 w_1 [(0, .ref t), (1, .int (nI c))] [] 18
    refine r_iinc hC dX7_fillQueue_18 (j := 1) rfl (v := nI (c + 1)) (nI_succ c).symm (by rw [hnl]; decide) (L' := [(1, .int (nI (c + 1))), (0, .ref t)]) rfl ?_
    refine r_goto hC dX7_fillQueue_21 (tgt := 7) (by decide) ?_
    refine r_locals [1, 0] (L' := [(0, .ref t), (1, .int (nI (c + 1)))]) rfl ?_
    exact ih (c + 1) w_1 q_1 (by omega) (hlen_1.trans hlen) hT_1 hQ_1 (fun k hk => (hO_1 k hk).trans (hO k hk))
set_option maxRecDepth 100000 in
set_option maxHeartbeats 4000000 in
theorem sp_fill {d : Nat} {w : mW} {t : Nat} {f g : Nat → Int32} {sl op lo : Int32} {q : Nat → Int32} {n : Nat} (H0 : TrAt w t (f, g, sl, op, lo) q n) : Sp (d + 3) yX7_fillQueue cX7_fillQueue 2 none [.ref t] w 0 0 (fun v w' => v = none ∧ TrTo w t (f, g, sl, op, lo) (qFill f op sl 25) w') noX := by
  refine Sp.of (by decide +kernel) (Nat.le_of_ble_eq_true rfl) (fun X hC hnl hE hR hN => ?_)
  have hC : Cx X RX7 cX7_fillQueue (d + 3) 0 0 := hC
  show Wp X 0 0 w [(0, .ref t)] [] 0
  have ht : w[t]? = some (mO 8 [.ref (t + 1), .ref (t + 4), .int (nI n)]) := H0.1
  have H : HillAt w (t + 1) (t + 2) (t + 3) (f, g, sl, op, lo) := H0.2.1
  have hh : w[t + 1]? = some (mO 6 [.ref (t + 2), .ref (t + 3), .int sl, .int op, .int lo]) := H.1
  have ha : w[t + 2]? = some (mI 0 26 f) := H.2.1
  have hb : w[t + 3]? = some (mI 0 25 g) := H.2.2
  have hq : w[t + 4]? = some (mI 0 25 q) := H0.2.2
  refine r_aload_n hC dX7_fillQueue_0 rfl (j := 0) rfl ?_
  refine r_iconst hC dX7_fillQueue_1 (v := 0) (by decide) ?_
  refine r_put' hC pX7_fillQueue_2 ht (Nat.le_of_ble_eq_true rfl) (fun _ => rfl) (fun _ => rfl) (fun w_1 ew_1 => ?_)
  have hf1_t : w_1[t]? = some (mO 8 [.ref (t + 1), .ref (t + 4), .int 0]) := by rw [ew_1]; exact List.getElem?_set_self (lt_of_get ht)
  have hf1__t___1_ : w_1[(t + 1)]? = some (mO 6 [.ref (t + 2), .ref (t + 3), .int sl, .int op, .int lo]) := by rw [ew_1, List.getElem?_set_ne (by omega)]; exact hh
  have hf1__t___2_ : w_1[(t + 2)]? = some (mI 0 26 f) := by rw [ew_1, List.getElem?_set_ne (by omega)]; exact ha
  have hf1__t___3_ : w_1[(t + 3)]? = some (mI 0 25 g) := by rw [ew_1, List.getElem?_set_ne (by omega)]; exact hb
  have hf1__t___4_ : w_1[(t + 4)]? = some (mI 0 25 q) := by rw [ew_1, List.getElem?_set_ne (by omega)]; exact hq
  refine r_iconst hC dX7_fillQueue_5 (v := 0) (by decide) ?_
  refine r_istore_n hC dX7_fillQueue_6 rfl (by rw [hnl]; decide) (L' := [(1, .int 0), (0, .ref t)]) rfl ?_
  refine r_locals [1, 0] (L' := [(0, .ref t), (1, .int 0)]) rfl ?_
  refine fq_loop (w0 := w) hC hnl (fun w2 q2 hlen2 hT2 hQ2 hO2 => ?_) 25 0 w_1 q rfl (by rw [ew_1, List.length_set]) ⟨hf1_t, ⟨hf1__t___1_, hf1__t___2_, hf1__t___3_⟩, hf1__t___4_⟩ (fun j hj => absurd hj (Nat.not_lt_zero j)) (fun k hk => by rw [ew_1, List.getElem?_set_ne (by omega)])
  refine r_iload_n hC dX7_fillQueue_7 rfl (j := 1) rfl ?_
  refine r_bipush hC dX7_fillQueue_8 (v := 25) (by decide) ?_
  refine r_icmp_ge hC dX7_fillQueue_10 (tgt := 24) (by decide) (fun _ => ?_) (fun h => absurd (by decide) h)
  refine r_vret hC hE hR dX7_fillQueue_24 (by omega) (by omega) (hlen2) ?_
  exact ⟨rfl, q2, hT2, hQ2, hO2⟩
set_option maxRecDepth 100000 in
set_option maxHeartbeats 4000000 in
theorem sp_first {d c : Nat} {r : List Nat} {w : mW} {t : Nat} {f g : Nat → Int32} {sl op lo : Int32} {q : Nat → Int32} (H0 : TrAt w t (f, g, sl, op, lo) q (c :: r).length) (hl : QOK (c :: r)) (hQ : QL q (c :: r)) : Sp (d + 1) yX7_removeFirst cX7_removeFirst 2 (some .int) [.ref t] w 0 0 (fun v w' => v = some (.int (nI c)) ∧ TrTo w t (f, g, sl, op, lo) (qRem c (c :: r)) w') noX := by
  refine Sp.of (by decide +kernel) (Nat.le_of_ble_eq_true rfl) (fun X hC hnl hE hR hN => ?_)
  have hC : Cx X RX7 cX7_removeFirst (d + 1) 0 0 := hC
  show Wp X 0 0 w [(0, .ref t)] [] 0
  have ht : w[t]? = some (mO 8 [.ref (t + 1), .ref (t + 4), .int (nI (c :: r).length)]) := H0.1
  have H : HillAt w (t + 1) (t + 2) (t + 3) (f, g, sl, op, lo) := H0.2.1
  have hh : w[t + 1]? = some (mO 6 [.ref (t + 2), .ref (t + 3), .int sl, .int op, .int lo]) := H.1
  have ha : w[t + 2]? = some (mI 0 26 f) := H.2.1
  have hb : w[t + 3]? = some (mI 0 25 g) := H.2.2
  have hq : w[t + 4]? = some (mI 0 25 q) := H0.2.2
  have hc : c < 25 := hl.2 c List.mem_cons_self
  have hq0 := QL_head hQ
  refine r_aload_n hC dX7_removeFirst_0 rfl (j := 0) rfl ?_
  refine r_get hC gX7_removeFirst_1 ht (v := .ref (t + 4)) rfl ?_
  refine r_iconst hC dX7_removeFirst_4 (v := 0) (by decide) ?_
  refine r_iald hC dX7_removeFirst_5 (j := 0) hq ⟨by decide, by decide, by decide⟩ ?_
  rw [hq0]
  refine r_istore_n hC dX7_removeFirst_6 rfl (by rw [hnl]; decide) (L' := [(1, .int (nI c)), (0, .ref t)]) rfl ?_
  refine r_aload_n hC dX7_removeFirst_7 rfl (j := 1) rfl ?_
  refine r_iload_n hC dX7_removeFirst_8 rfl (j := 0) rfl ?_
  refine r_callV hC (vs := [.int (nI c)]) vX7_removeFirst_9 (sp_qrem (d := d) H0 hl hQ hc) ht rfl rfl (by omega) (by omega) (by omega) (Nat.le_of_ble_eq_true rfl) (fun v_1 w_1 hP_1 hlen_1 => ?_) (fun _ _ h => h.elim)
  obtain ⟨hv_1, q_1, hT_1, hQ_1, hO_1⟩ := hP_1
  have ht_1 : w_1[t]? = some (mO 8 [.ref (t + 1), .ref (t + 4), .int (nI (qRem c (c :: r)).length)]) := hT_1.1
  have hh_1 : w_1[(t + 1)]? = some (mO 6 [.ref (t + 2), .ref (t + 3), .int sl, .int op, .int lo]) := hT_1.2.1.1
  have ha_1 : w_1[(t + 2)]? = some (mI 0 26 f) := hT_1.2.1.2.1
  have hb_1 : w_1[(t + 3)]? = some (mI 0 25 g) := hT_1.2.1.2.2
  have hq_1 : w_1[(t + 4)]? = some (mI 0 25 q_1) := hT_1.2.2
  rw [hv_1]
  show Wp X 0 0 w_1 [(1, .int (nI c)), (0, .ref t)] [] 12
  refine r_iload_n hC dX7_removeFirst_12 rfl (j := 0) rfl ?_
  refine r_iret hC hE hR dX7_removeFirst_13 (by omega) (by omega) (by rw [hlen_1]) ?_
  exact ⟨rfl, q_1, hT_1, hQ_1, hO_1⟩
set_option maxRecDepth 100000 in
set_option maxHeartbeats 4000000 in
theorem sp_begin {d c : Nat} {x : Int32} {w : mW} {t h a b : Nat} {f g f2 g2 : Nat → Int32} {sl op lo sl2 op2 lo2 : Int32} {q : Nat → Int32} {n : Nat} (H0 : TrAt w t (f, g, sl, op, lo) q n) (H2 : HillAt w h a b (f2, g2, sl2, op2, lo2)) (hst : (h < t ∨ t + 4 < h) ∧ (a < t ∨ t + 4 < a) ∧ (b < t ∨ t + 4 < b)) (ho : op2 = 0 ∨ op2 = 1) (hc : c < 25) : Sp (d + 1) yX7_begin cX7_begin 4 none [.ref t, .ref h, .int (nI c), .int x] w 0 0 (fun v w' => v = none ∧ TrAt w' t (hPlace (f2, g2, sl2, op2, lo2) c x (-1)) q n ∧ ∀ k, (k < t ∨ t + 4 < k) → w'[k]? = w[k]?) noX := by
  refine Sp.of (by decide +kernel) (Nat.le_of_ble_eq_true rfl) (fun X hC hnl hE hR hN => ?_)
  have hC : Cx X RX7 cX7_begin (d + 1) 0 0 := hC
  show Wp X 0 0 w [(0, .ref t), (1, .ref h), (2, .int (nI c)), (3, .int x)] [] 0
  have ht : w[t]? = some (mO 8 [.ref (t + 1), .ref (t + 4), .int (nI n)]) := H0.1
  have H : HillAt w (t + 1) (t + 2) (t + 3) (f, g, sl, op, lo) := H0.2.1
  have hh : w[t + 1]? = some (mO 6 [.ref (t + 2), .ref (t + 3), .int sl, .int op, .int lo]) := H.1
  have ha : w[t + 2]? = some (mI 0 26 f) := H.2.1
  have hb : w[t + 3]? = some (mI 0 25 g) := H.2.2
  have hq : w[t + 4]? = some (mI 0 25 q) := H0.2.2
  have h2h : w[h]? = some (mO 6 [.ref a, .ref b, .int sl2, .int op2, .int lo2]) := H2.1
  refine r_aload_n hC dX7_begin_0 rfl (j := 0) rfl ?_
  refine r_get hC gX7_begin_1 ht (v := .ref (t + 1)) rfl ?_
  refine r_aload_n hC dX7_begin_4 rfl (j := 1) rfl ?_
  refine r_callV hC (vs := [.ref h]) vX7_begin_5 (sp_hcopy (d := d) H H2 (by omega) (by omega) (by omega) ho) hh rfl rfl (by omega) (by omega) (by omega) (Nat.le_of_ble_eq_true rfl) (fun v_1 w_1 hP_1 hlen_1 => ?_) (fun _ _ h => h.elim)
  have H_1 : HillAt w_1 (t + 1) (t + 2) (t + 3) (f2, g2, sl2, op2, lo2) := by rw [hP_1.2]; exact HillAt.set (x := (f, g, sl, op, lo)) ⟨hh, ha, hb⟩ _
  have hh_1 : w_1[t + 1]? = some (mO 6 [.ref (t + 2), .ref (t + 3), .int sl2, .int op2, .int lo2]) := H_1.1
  have ha_1 : w_1[t + 2]? = some (mI 0 26 f2) := H_1.2.1
  have hb_1 : w_1[t + 3]? = some (mI 0 25 g2) := H_1.2.2
  have hx1_t : w_1[t]? = some (mO 8 [.ref (t + 1), .ref (t + 4), .int (nI n)]) := by rw [hP_1.2, hillSet_other (by omega) (by omega) (by omega)]; exact ht
  have hx1__t___4_ : w_1[(t + 4)]? = some (mI 0 25 q) := by rw [hP_1.2, hillSet_other (by omega) (by omega) (by omega)]; exact hq
  rw [hP_1.1]
  show Wp X 0 0 w_1 [(0, .ref t), (1, .ref h), (2, .int (nI c)), (3, .int x)] [] 8
  refine r_aload_n hC dX7_begin_8 rfl (j := 0) rfl ?_
  refine r_get hC gX7_begin_9 hx1_t (v := .ref (t + 1)) rfl ?_
  refine r_iload_n hC dX7_begin_12 rfl (j := 2) rfl ?_
  refine r_iload_n hC dX7_begin_13 rfl (j := 3) rfl ?_
  refine r_iconst hC dX7_begin_14 (v := (-1)) (by decide) ?_
  refine r_callV hC (vs := [.int (nI c), .int x, .int (-1)]) vX7_begin_15 (sp_place (d := d) (⟨hh_1, ha_1, hb_1⟩ : HillAt w_1 (t + 1) (t + 2) (t + 3) (f2, g2, sl2, op2, lo2)) (by omega) hc) hh_1 rfl rfl (by omega) (by omega) (by omega) (Nat.le_of_ble_eq_true rfl) (fun v_2 w_2 hP_2 hlen_2 => ?_) (fun _ _ h => h.elim)
  have H_2 : HillAt w_2 (t + 1) (t + 2) (t + 3) (hPlace (f2, g2, sl2, op2, lo2) c x (-1)) := by rw [hP_2.2]; exact HillAt.set (x := (f2, g2, sl2, op2, lo2)) ⟨hh_1, ha_1, hb_1⟩ _
  have hh_2 : w_2[t + 1]? = some (mO 6 [.ref (t + 2), .ref (t + 3), .int sl2, .int op2, .int lo2]) := H_2.1
  have ha_2 : w_2[t + 2]? = some (mI 0 26 (upd f2 c (f2 c + x))) := H_2.2.1
  have hb_2 : w_2[t + 3]? = some (mI 0 25 (upd g2 c (-1))) := H_2.2.2
  have hx2_t : w_2[t]? = some (mO 8 [.ref (t + 1), .ref (t + 4), .int (nI n)]) := by rw [hP_2.2, hillSet_other (by omega) (by omega) (by omega)]; exact hx1_t
  have hx2__t___4_ : w_2[(t + 4)]? = some (mI 0 25 q) := by rw [hP_2.2, hillSet_other (by omega) (by omega) (by omega)]; exact hx1__t___4_
  rw [hP_2.1]
  show Wp X 0 0 w_2 [(0, .ref t), (1, .ref h), (2, .int (nI c)), (3, .int x)] [] 18
  refine r_vret hC hE hR dX7_begin_18 (by omega) (by omega) (by rw [hlen_2, hlen_1]) ?_
  exact ⟨rfl, ⟨hx2_t, ⟨hh_2, ha_2, hb_2⟩, hx2__t___4_⟩, fun k hk => by rw [hP_2.2, hillSet_other (by omega) (by omega) (by omega), hP_1.2, hillSet_other (by omega) (by omega) (by omega)]⟩
set_option maxRecDepth 100000 in
set_option maxHeartbeats 4000000 in
theorem sp_scan {d c : Nat} {x : Int32} {w : mW} {t h a b : Nat} {f g f2 g2 : Nat → Int32} {sl op lo sl2 op2 lo2 : Int32} {q : Nat → Int32} {n : Nat} (H0 : TrAt w t (f, g, sl, op, lo) q n) (H2 : HillAt w h a b (f2, g2, sl2, op2, lo2)) (hst : (h < t ∨ t + 4 < h) ∧ (a < t ∨ t + 4 < a) ∧ (b < t ∨ t + 4 < b)) (ho : op2 = 0 ∨ op2 = 1) (hc : c < 25) : Sp (d + 4) yX7_countByScan cX7_countByScan 4 (some .int) [.ref t, .ref h, .int (nI c), .int x] w 0 0 (fun v w' => v = some (.int (nI (hRestF (hPlace (f2, g2, sl2, op2, lo2) c x (-1))).1)) ∧ (∃ x' q' n', TrAt w' t x' q' n') ∧ ∀ k, (k < t ∨ t + 4 < k) → w'[k]? = w[k]?) noX := by
  refine Sp.of (by decide +kernel) (Nat.le_of_ble_eq_true rfl) (fun X hC hnl hE hR hN => ?_)
  have hC : Cx X RX7 cX7_countByScan (d + 4) 0 0 := hC
  show Wp X 0 0 w [(0, .ref t), (1, .ref h), (2, .int (nI c)), (3, .int x)] [] 0
  have ht : w[t]? = some (mO 8 [.ref (t + 1), .ref (t + 4), .int (nI n)]) := H0.1
  have H : HillAt w (t + 1) (t + 2) (t + 3) (f, g, sl, op, lo) := H0.2.1
  have hh : w[t + 1]? = some (mO 6 [.ref (t + 2), .ref (t + 3), .int sl, .int op, .int lo]) := H.1
  have ha : w[t + 2]? = some (mI 0 26 f) := H.2.1
  have hb : w[t + 3]? = some (mI 0 25 g) := H.2.2
  have hq : w[t + 4]? = some (mI 0 25 q) := H0.2.2
  have h2h : w[h]? = some (mO 6 [.ref a, .ref b, .int sl2, .int op2, .int lo2]) := H2.1
  refine r_aload_n hC dX7_countByScan_0 rfl (j := 0) rfl ?_
  refine r_aload_n hC dX7_countByScan_1 rfl (j := 1) rfl ?_
  refine r_iload_n hC dX7_countByScan_2 rfl (j := 2) rfl ?_
  refine r_iload_n hC dX7_countByScan_3 rfl (j := 3) rfl ?_
  refine r_callV hC (vs := [.ref h, .int (nI c), .int x]) vX7_countByScan_4 (sp_begin (d := d) (x := x) H0 H2 hst ho hc) ht rfl rfl (by omega) (by omega) (by omega) (Nat.le_of_ble_eq_true rfl) (fun v_1 w_1 hP_1 hlen_1 => ?_) (fun _ _ h => h.elim)
  obtain ⟨hv_1, hT_1, hO_1⟩ := hP_1
  have ht_1 : w_1[t]? = some (mO 8 [.ref (t + 1), .ref (t + 4), .int (nI n)]) := hT_1.1
  have hh_1 : w_1[(t + 1)]? = some (mO 6 [.ref (t + 2), .ref (t + 3), .int sl2, .int op2, .int lo2]) := hT_1.2.1.1
  have ha_1 : w_1[(t + 2)]? = some (mI 0 26 (upd f2 c (f2 c + x))) := hT_1.2.1.2.1
  have hb_1 : w_1[(t + 3)]? = some (mI 0 25 (upd g2 c (-1))) := hT_1.2.1.2.2
  have hq_1 : w_1[(t + 4)]? = some (mI 0 25 q) := hT_1.2.2
  rw [hv_1]
  show Wp X 0 0 w_1 [(0, .ref t), (1, .ref h), (2, .int (nI c)), (3, .int x)] [] 7
  refine r_aload_n hC dX7_countByScan_7 rfl (j := 0) rfl ?_
  refine r_get hC gX7_countByScan_8 ht_1 (v := .ref (t + 1)) rfl ?_
  refine r_callV hC (vs := []) vX7_countByScan_11 (sp_rest (d := d) (⟨hh_1, ha_1, hb_1⟩ : HillAt w_1 (t + 1) (t + 2) (t + 3) (upd f2 c (f2 c + x), upd g2 c (-1), sl2, op2, lo2))) hh_1 rfl rfl (by omega) (by omega) (by omega) (Nat.le_of_ble_eq_true rfl) (fun v_2 w_2 hP_2 hlen_2 => ?_) (fun _ _ h => h.elim)
  have H_2 : HillAt w_2 (t + 1) (t + 2) (t + 3) (hRestF (hPlace (f2, g2, sl2, op2, lo2) c x (-1))).2 := by rw [hP_2.2]; exact HillAt.set (x := ((upd f2 c (f2 c + x)), (upd g2 c (-1)), sl2, op2, lo2)) ⟨hh_1, ha_1, hb_1⟩ _
  have hh_2 : w_2[t + 1]? = some (mO 6 [.ref (t + 2), .ref (t + 3), .int ((hRestF (hPlace (f2, g2, sl2, op2, lo2) c x (-1))).2).2.2.1, .int ((hRestF (hPlace (f2, g2, sl2, op2, lo2) c x (-1))).2).2.2.2.1, .int ((hRestF (hPlace (f2, g2, sl2, op2, lo2) c x (-1))).2).2.2.2.2]) := H_2.1
  have ha_2 : w_2[t + 2]? = some (mI 0 26 ((hRestF (hPlace (f2, g2, sl2, op2, lo2) c x (-1))).2).1) := H_2.2.1
  have hb_2 : w_2[t + 3]? = some (mI 0 25 ((hRestF (hPlace (f2, g2, sl2, op2, lo2) c x (-1))).2).2.1) := H_2.2.2
  have hx2_t : w_2[t]? = some (mO 8 [.ref (t + 1), .ref (t + 4), .int (nI n)]) := by rw [hP_2.2, hillSet_other (by omega) (by omega) (by omega)]; exact ht_1
  have hx2__t___4_ : w_2[(t + 4)]? = some (mI 0 25 q) := by rw [hP_2.2, hillSet_other (by omega) (by omega) (by omega)]; exact hq_1
  rw [hP_2.1]
  show Wp X 0 0 w_2 [(0, .ref t), (1, .ref h), (2, .int (nI c)), (3, .int x)] [.int (nI (hRestF (hPlace (f2, g2, sl2, op2, lo2) c x (-1))).1)] 14
  refine r_iret hC hE hR dX7_countByScan_14 (by omega) (by omega) (by rw [hlen_2, hlen_1]) ?_
  exact ⟨rfl, ⟨_, _, _, (⟨hx2_t, ⟨hh_2, ha_2, hb_2⟩, hx2__t___4_⟩ : TrAt w_2 t (hRestF (hPlace (f2, g2, sl2, op2, lo2) c x (-1))).2 q n)⟩, fun k hk => by rw [hP_2.2, hillSet_other (by omega) (by omega) (by omega), hO_1 k (by omega)]⟩
set_option maxRecDepth 100000 in
set_option maxHeartbeats 4000000 in
theorem cbq_loop {X : mC} {d n0 : Nat} {w0 : mW} {t : Nat} {P : Option Value → mW → Prop} (hC : Cx X RX7 cX7_countByQueue (d + 4) 0 0) (hnl : mNL X = 7) (hE : mEnd X n0 0 0 P noX) (hR : mRet X (some .int)) (hn0 : w0.length = n0) (v1 : Nat) (v2 v3 : Int32) :
    ∀ (m i : Nat) (w : mW) (f g : Nat → Int32) (sl op lo : Int32) (l : List Nat) (q : Nat → Int32), i + m = 50000 → w.length = w0.length → TrAt w t (f, g, sl, op, lo) q l.length → QL q l → QOK l → (∀ k, (k < t ∨ t + 4 < k) → w[k]? = w0[k]?) →
      (∀ w', (∃ x' q' n', TrAt w' t x' q' n') → (∀ k, (k < t ∨ t + 4 < k) → w'[k]? = w0[k]?) → P (some (.int (nI (i + qRun m (f, g, sl, op, lo) l)))) w') → Wp X 0 0 w [(0, .ref t), (1, .ref v1), (2, .int v2), (3, .int v3), (4, .int (nI i))] [] 14 := by
  intro m
  induction m with
  | zero =>
    intro i w f g sl op lo l q h9 hlen H0 hQ hl hO hP9
    obtain rfl : i = 50000 := by omega
    refine r_iload hC dX7_countByQueue_14 (j := 4) rfl ?_
    refine r_ldci hC dX7_countByQueue_16 kc_X7_33 ?_
    refine r_icmp_ge hC dX7_countByQueue_18 (tgt := 70) (by decide) (fun _ => ?_) (fun h => absurd (lit_le (N := 50000) (by decide) (Nat.le_refl _) (by decide)) h)
    refine r_iload hC dX7_countByQueue_70 (j := 4) rfl ?_
    refine r_iret hC hE hR dX7_countByQueue_72 (by omega) (by omega) (hlen.trans hn0) ?_
    exact hP9 w ⟨_, _, _, H0⟩ hO
  | succ m ih =>
    intro i w f g sl op lo l q h9 hlen H0 hQ hl hO hP9
    have hl25 := hl.le
    have ht : w[t]? = some (mO 8 [.ref (t + 1), .ref (t + 4), .int (nI l.length)]) := H0.1
    have H : HillAt w (t + 1) (t + 2) (t + 3) (f, g, sl, op, lo) := H0.2.1
    have hh : w[t + 1]? = some (mO 6 [.ref (t + 2), .ref (t + 3), .int sl, .int op, .int lo]) := H.1
    have ha : w[t + 2]? = some (mI 0 26 f) := H.2.1
    have hb : w[t + 3]? = some (mI 0 25 g) := H.2.2
    have hq : w[t + 4]? = some (mI 0 25 q) := H0.2.2
    refine r_iload hC dX7_countByQueue_14 (j := 4) rfl ?_
    refine r_ldci hC dX7_countByQueue_16 kc_X7_33 ?_
    refine r_icmp_ge hC dX7_countByQueue_18 (tgt := 70) (by decide) (fun h => absurd h (lit_ge (N := 50000) (by decide) (by omega) (by decide))) (fun _ => ?_)
    refine r_aload_n hC dX7_countByQueue_21 rfl (j := 0) rfl ?_
    refine r_get hC gX7_countByQueue_22 ht (v := .int (nI l.length)) rfl ?_
    refine r_if_le hC dX7_countByQueue_25 (tgt := 70) (by decide) (fun c25 => ?_) (fun c25 => ?_)
    · refine r_iload hC dX7_countByQueue_70 (j := 4) rfl ?_
      refine r_iret hC hE hR dX7_countByQueue_72 (by omega) (by omega) (hlen.trans hn0) ?_
      have e9 : l = [] := by
        cases l with
        | nil => rfl
        | cons c r => exact absurd c25 (nI_nle (by rw [List.length_cons]; omega) (by omega))
      subst e9
      rw [qRun_nil] at hP9
      exact hP9 w ⟨_, _, _, H0⟩ hO
    · obtain ⟨c, r, rfl⟩ : ∃ c r, l = c :: r := by
        cases l with
        | nil => exact absurd (by decide) c25
        | cons c r => exact ⟨c, r, rfl⟩
      have hc : c < 25 := hl.2 c List.mem_cons_self
      have hlw := hLow_lt (f := f) (op := op) hc
      refine r_aload_n hC dX7_countByQueue_28 rfl (j := 0) rfl ?_
      refine r_callV hC (vs := []) vX7_countByQueue_29 (sp_first (d := d) H0 hl hQ) ht rfl rfl (by omega) (by omega) (by omega) (Nat.le_of_ble_eq_true rfl) (fun v_1 w_1 hP_1 hlen_1 => ?_) (fun _ _ h => h.elim)
      obtain ⟨hv_1, q_1, hT_1, hQ_1, hO_1⟩ := hP_1
      have ht_1 : w_1[t]? = some (mO 8 [.ref (t + 1), .ref (t + 4), .int (nI (qRem c (c :: r)).length)]) := hT_1.1
      have hh_1 : w_1[(t + 1)]? = some (mO 6 [.ref (t + 2), .ref (t + 3), .int sl, .int op, .int lo]) := hT_1.2.1.1
      have ha_1 : w_1[(t + 2)]? = some (mI 0 26 f) := hT_1.2.1.2.1
      have hb_1 : w_1[(t + 3)]? = some (mI 0 25 g) := hT_1.2.1.2.2
      have hq_1 : w_1[(t + 4)]? = some (mI 0 25 q_1) := hT_1.2.2
      rw [hv_1]
      show Wp X 0 0 w_1 [(0, .ref t), (1, .ref v1), (2, .int v2), (3, .int v3), (4, .int (nI i))] [.int (nI c)] 32
      refine r_istore hC dX7_countByQueue_32 (by rw [hnl]; decide) (L' := [(5, .int (nI c)), (0, .ref t), (1, .ref v1), (2, .int v2), (3, .int v3), (4, .int (nI i))]) rfl ?_
      refine r_aload_n hC dX7_countByQueue_34 rfl (j := 1) rfl ?_
      refine r_get hC gX7_countByQueue_35 ht_1 (v := .ref (t + 1)) rfl ?_
      refine r_iload hC dX7_countByQueue_38 (j := 0) rfl ?_
      refine r_callV hC (vs := [.int (nI c)]) vX7_countByQueue_40 (sp_topple (d := d) (⟨hh_1, ha_1, hb_1⟩ : HillAt w_1 (t + 1) (t + 2) (t + 3) (f, g, sl, op, lo)) hc) hh_1 rfl rfl (by omega) (by omega) (by omega) (Nat.le_of_ble_eq_true rfl) (fun v_2 w_2 hP_2 hlen_2 => ?_) (fun _ _ h => h.elim)
      have H_2 : HillAt w_2 (t + 1) (t + 2) (t + 3) (hTopple (f, g, sl, op, lo) c) := by rw [hP_2.2]; exact HillAt.set (x := (f, g, sl, op, lo)) ⟨hh_1, ha_1, hb_1⟩ _
      have hh_2 : w_2[t + 1]? = some (mO 6 [.ref (t + 2), .ref (t + 3), .int ((hTopple (f, g, sl, op, lo) c)).2.2.1, .int ((hTopple (f, g, sl, op, lo) c)).2.2.2.1, .int ((hTopple (f, g, sl, op, lo) c)).2.2.2.2]) := H_2.1
      have ha_2 : w_2[t + 2]? = some (mI 0 26 ((hTopple (f, g, sl, op, lo) c)).1) := H_2.2.1
      have hb_2 : w_2[t + 3]? = some (mI 0 25 ((hTopple (f, g, sl, op, lo) c)).2.1) := H_2.2.2
      have hx2_t : w_2[t]? = some (mO 8 [.ref (t + 1), .ref (t + 4), .int (nI (qRem c (c :: r)).length)]) := by rw [hP_2.2, hillSet_other (by omega) (by omega) (by omega)]; exact ht_1
      have hx2__t___4_ : w_2[(t + 4)]? = some (mI 0 25 q_1) := by rw [hP_2.2, hillSet_other (by omega) (by omega) (by omega)]; exact hq_1
      have hT9_2 : TrAt w_2 t (hTopple (f, g, sl, op, lo) c) q_1 (qRem c (c :: r)).length := ⟨hx2_t, ⟨hh_2, ha_2, hb_2⟩, hx2__t___4_⟩
      rw [hP_2.1]
      show Wp X 0 0 w_2 [(5, .int (nI c)), (0, .ref t), (1, .ref v1), (2, .int v2), (3, .int v3), (4, .int (nI i))] [.int (nI (hLow f op c))] 43
      refine r_istore hC dX7_countByQueue_43 (by rw [hnl]; decide) (L' := [(6, .int (nI (hLow f op c))), (5, .int (nI c)), (0, .ref t), (1, .ref v1), (2, .int v2), (3, .int v3), (4, .int (nI i))]) rfl ?_
      refine r_iload hC dX7_countByQueue_45 (j := 0) rfl ?_
      refine r_bipush hC dX7_countByQueue_47 (v := 25) (by decide) ?_
      refine r_icmp_eq hC dX7_countByQueue_49 (tgt := 58) (by decide) (fun c49 => ?_) (fun c49 => ?_)
      · refine r_aload_n hC dX7_countByQueue_58 rfl (j := 2) rfl ?_
        refine r_iload hC dX7_countByQueue_59 (j := 1) rfl ?_
        refine r_callV hC (vs := [.int (nI c)]) vX7_countByQueue_61 (sp_qra (d := d) (c := c) hT9_2 (qRem_ok hl) hQ_1 hc) hx2_t rfl rfl (by omega) (by omega) (by omega) (Nat.le_of_ble_eq_true rfl) (fun v_3 w_3 hP_3 hlen_3 => ?_) (fun _ _ h => h.elim)
        obtain ⟨hv_3, q_3, hT_3, hQ_3, hO_3⟩ := hP_3
        have ht_3 : w_3[t]? = some (mO 8 [.ref (t + 1), .ref (t + 4), .int (nI (qRA (hTopple (f, g, sl, op, lo) c).1 (hTopple (f, g, sl, op, lo) c).2.2.2.1 (hTopple (f, g, sl, op, lo) c).2.2.1 c (qRem c (c :: r))).length)]) := hT_3.1
        have hh_3 : w_3[(t + 1)]? = some (mO 6 [.ref (t + 2), .ref (t + 3), .int (hTopple (f, g, sl, op, lo) c).2.2.1, .int (hTopple (f, g, sl, op, lo) c).2.2.2.1, .int (hTopple (f, g, sl, op, lo) c).2.2.2.2]) := hT_3.2.1.1
        have ha_3 : w_3[(t + 2)]? = some (mI 0 26 (hTopple (f, g, sl, op, lo) c).1) := hT_3.2.1.2.1
        have hb_3 : w_3[(t + 3)]? = some (mI 0 25 (hTopple (f, g, sl, op, lo) c).2.1) := hT_3.2.1.2.2
        have hq_3 : w_3[(t + 4)]? = some (mI 0 25 q_3) := hT_3.2.2
        rw [hv_3]
        show Wp X 0 0 w_3 [(6, .int (nI (hLow f op c))), (5, .int (nI c)), (0, .ref t), (1, .ref v1), (2, .int v2), (3, .int v3), (4, .int (nI i))] [] 64
        refine r_iinc hC dX7_countByQueue_64 (j := 6) rfl (v := nI (i + 1)) (nI_succ i).symm (by rw [hnl]; decide) (L' := [(4, .int (nI (i + 1))), (6, .int (nI (hLow f op c))), (5, .int (nI c)), (0, .ref t), (1, .ref v1), (2, .int v2), (3, .int v3)]) rfl ?_
        refine r_goto hC dX7_countByQueue_67 (tgt := 14) (by decide) ?_
        refine r_locals [3, 4, 5, 6, 0] (L' := [(0, .ref t), (1, .ref v1), (2, .int v2), (3, .int v3), (4, .int (nI (i + 1)))]) rfl ?_
        have e9 : qAfter (f, g, sl, op, lo) c (c :: r) = qRA (hTopple (f, g, sl, op, lo) c).1 (hTopple (f, g, sl, op, lo) c).2.2.2.1 (hTopple (f, g, sl, op, lo) c).2.2.1 c (qRem c (c :: r)) := congrArg (qRA (hTopple (f, g, sl, op, lo) c).1 (hTopple (f, g, sl, op, lo) c).2.2.2.1 (hTopple (f, g, sl, op, lo) c).2.2.1 c) (if_pos ((lit_eq rfl (by omega) (by decide)).mp c49))
        have okA := qAfter_ok (x := (f, g, sl, op, lo)) hl hc
        rw [e9] at okA
        refine ih (i + 1) w_3 (hTopple (f, g, sl, op, lo) c).1 (hTopple (f, g, sl, op, lo) c).2.1 (hTopple (f, g, sl, op, lo) c).2.2.1 (hTopple (f, g, sl, op, lo) c).2.2.2.1 (hTopple (f, g, sl, op, lo) c).2.2.2.2 _ q_3 (by omega) (by rw [hlen_3, hlen_2, hlen_1]; exact hlen) hT_3 hQ_3 okA (fun k hk => by rw [hO_3 k (by omega), hP_2.2, hillSet_other (by omega) (by omega) (by omega), hO_1 k (by omega)]; exact hO k hk) (fun w' h1 h2 => ?_)
        have hp := hP9 w' h1 h2
        have e8 : qRun (m + 1) (f, g, sl, op, lo) (c :: r) = qRun m (hTopple (f, g, sl, op, lo) c) (qAfter (f, g, sl, op, lo) c (c :: r)) + 1 := rfl
        rw [e8, e9] at hp
        have hp2 : P (some (.int (nI (i + 1 + qRun m (hTopple (f, g, sl, op, lo) c) (qRA (hTopple (f, g, sl, op, lo) c).1 (hTopple (f, g, sl, op, lo) c).2.2.2.1 (hTopple (f, g, sl, op, lo) c).2.2.1 c (qRem c (c :: r))))))) w' := by
          rw [show i + 1 + qRun m (hTopple (f, g, sl, op, lo) c) (qRA (hTopple (f, g, sl, op, lo) c).1 (hTopple (f, g, sl, op, lo) c).2.2.2.1 (hTopple (f, g, sl, op, lo) c).2.2.1 c (qRem c (c :: r))) = i + (qRun m (hTopple (f, g, sl, op, lo) c) (qRA (hTopple (f, g, sl, op, lo) c).1 (hTopple (f, g, sl, op, lo) c).2.2.2.1 (hTopple (f, g, sl, op, lo) c).2.2.1 c (qRem c (c :: r))) + 1) by omega]
          exact hp
        exact hp2
      · refine r_aload_n hC dX7_countByQueue_52 rfl (j := 2) rfl ?_
        refine r_iload hC dX7_countByQueue_53 (j := 0) rfl ?_
        refine r_callV hC (vs := [.int (nI (hLow f op c))]) vX7_countByQueue_55 (sp_qra (d := d) (c := hLow f op c) hT9_2 (qRem_ok hl) hQ_1 (by have : ¬ hLow f op c = 25 := fun q => c49 (by rw [q]; rfl); omega)) hx2_t rfl rfl (by omega) (by omega) (by omega) (Nat.le_of_ble_eq_true rfl) (fun v_4 w_4 hP_4 hlen_4 => ?_) (fun _ _ h => h.elim)
        obtain ⟨hv_4, q_4, hT_4, hQ_4, hO_4⟩ := hP_4
        have ht_4 : w_4[t]? = some (mO 8 [.ref (t + 1), .ref (t + 4), .int (nI (qRA (hTopple (f, g, sl, op, lo) c).1 (hTopple (f, g, sl, op, lo) c).2.2.2.1 (hTopple (f, g, sl, op, lo) c).2.2.1 (hLow f op c) (qRem c (c :: r))).length)]) := hT_4.1
        have hh_4 : w_4[(t + 1)]? = some (mO 6 [.ref (t + 2), .ref (t + 3), .int (hTopple (f, g, sl, op, lo) c).2.2.1, .int (hTopple (f, g, sl, op, lo) c).2.2.2.1, .int (hTopple (f, g, sl, op, lo) c).2.2.2.2]) := hT_4.2.1.1
        have ha_4 : w_4[(t + 2)]? = some (mI 0 26 (hTopple (f, g, sl, op, lo) c).1) := hT_4.2.1.2.1
        have hb_4 : w_4[(t + 3)]? = some (mI 0 25 (hTopple (f, g, sl, op, lo) c).2.1) := hT_4.2.1.2.2
        have hq_4 : w_4[(t + 4)]? = some (mI 0 25 q_4) := hT_4.2.2
        rw [hv_4]
        show Wp X 0 0 w_4 [(6, .int (nI (hLow f op c))), (5, .int (nI c)), (0, .ref t), (1, .ref v1), (2, .int v2), (3, .int v3), (4, .int (nI i))] [] 58
        refine r_aload_n hC dX7_countByQueue_58 rfl (j := 2) rfl ?_
        refine r_iload hC dX7_countByQueue_59 (j := 1) rfl ?_
        refine r_callV hC (vs := [.int (nI c)]) vX7_countByQueue_61 (sp_qra (d := d) (c := c) hT_4 (qRA_ok (qRem_ok hl) (by have : ¬ hLow f op c = 25 := fun q => c49 (by rw [q]; rfl); omega)) hQ_4 hc) ht_4 rfl rfl (by omega) (by omega) (by omega) (Nat.le_of_ble_eq_true rfl) (fun v_5 w_5 hP_5 hlen_5 => ?_) (fun _ _ h => h.elim)
        obtain ⟨hv_5, q_5, hT_5, hQ_5, hO_5⟩ := hP_5
        have ht_5 : w_5[t]? = some (mO 8 [.ref (t + 1), .ref (t + 4), .int (nI (qRA (hTopple (f, g, sl, op, lo) c).1 (hTopple (f, g, sl, op, lo) c).2.2.2.1 (hTopple (f, g, sl, op, lo) c).2.2.1 c (qRA (hTopple (f, g, sl, op, lo) c).1 (hTopple (f, g, sl, op, lo) c).2.2.2.1 (hTopple (f, g, sl, op, lo) c).2.2.1 (hLow f op c) (qRem c (c :: r)))).length)]) := hT_5.1
        have hh_5 : w_5[(t + 1)]? = some (mO 6 [.ref (t + 2), .ref (t + 3), .int (hTopple (f, g, sl, op, lo) c).2.2.1, .int (hTopple (f, g, sl, op, lo) c).2.2.2.1, .int (hTopple (f, g, sl, op, lo) c).2.2.2.2]) := hT_5.2.1.1
        have ha_5 : w_5[(t + 2)]? = some (mI 0 26 (hTopple (f, g, sl, op, lo) c).1) := hT_5.2.1.2.1
        have hb_5 : w_5[(t + 3)]? = some (mI 0 25 (hTopple (f, g, sl, op, lo) c).2.1) := hT_5.2.1.2.2
        have hq_5 : w_5[(t + 4)]? = some (mI 0 25 q_5) := hT_5.2.2
        rw [hv_5]
        show Wp X 0 0 w_5 [(6, .int (nI (hLow f op c))), (5, .int (nI c)), (0, .ref t), (1, .ref v1), (2, .int v2), (3, .int v3), (4, .int (nI i))] [] 64
        refine r_iinc hC dX7_countByQueue_64 (j := 6) rfl (v := nI (i + 1)) (nI_succ i).symm (by rw [hnl]; decide) (L' := [(4, .int (nI (i + 1))), (6, .int (nI (hLow f op c))), (5, .int (nI c)), (0, .ref t), (1, .ref v1), (2, .int v2), (3, .int v3)]) rfl ?_
        refine r_goto hC dX7_countByQueue_67 (tgt := 14) (by decide) ?_
        refine r_locals [3, 4, 5, 6, 0] (L' := [(0, .ref t), (1, .ref v1), (2, .int v2), (3, .int v3), (4, .int (nI (i + 1)))]) rfl ?_
        have e9 : qAfter (f, g, sl, op, lo) c (c :: r) = qRA (hTopple (f, g, sl, op, lo) c).1 (hTopple (f, g, sl, op, lo) c).2.2.2.1 (hTopple (f, g, sl, op, lo) c).2.2.1 c (qRA (hTopple (f, g, sl, op, lo) c).1 (hTopple (f, g, sl, op, lo) c).2.2.2.1 (hTopple (f, g, sl, op, lo) c).2.2.1 (hLow f op c) (qRem c (c :: r))) := congrArg (qRA (hTopple (f, g, sl, op, lo) c).1 (hTopple (f, g, sl, op, lo) c).2.2.2.1 (hTopple (f, g, sl, op, lo) c).2.2.1 c) (if_neg (fun q => c49 (by rw [q]; rfl)))
        have okA := qAfter_ok (x := (f, g, sl, op, lo)) hl hc
        rw [e9] at okA
        refine ih (i + 1) w_5 (hTopple (f, g, sl, op, lo) c).1 (hTopple (f, g, sl, op, lo) c).2.1 (hTopple (f, g, sl, op, lo) c).2.2.1 (hTopple (f, g, sl, op, lo) c).2.2.2.1 (hTopple (f, g, sl, op, lo) c).2.2.2.2 _ q_5 (by omega) (by rw [hlen_5, hlen_4, hlen_2, hlen_1]; exact hlen) hT_5 hQ_5 okA (fun k hk => by rw [hO_5 k (by omega), hO_4 k (by omega), hP_2.2, hillSet_other (by omega) (by omega) (by omega), hO_1 k (by omega)]; exact hO k hk) (fun w' h1 h2 => ?_)
        have hp := hP9 w' h1 h2
        have e8 : qRun (m + 1) (f, g, sl, op, lo) (c :: r) = qRun m (hTopple (f, g, sl, op, lo) c) (qAfter (f, g, sl, op, lo) c (c :: r)) + 1 := rfl
        rw [e8, e9] at hp
        have hp2 : P (some (.int (nI (i + 1 + qRun m (hTopple (f, g, sl, op, lo) c) (qRA (hTopple (f, g, sl, op, lo) c).1 (hTopple (f, g, sl, op, lo) c).2.2.2.1 (hTopple (f, g, sl, op, lo) c).2.2.1 c (qRA (hTopple (f, g, sl, op, lo) c).1 (hTopple (f, g, sl, op, lo) c).2.2.2.1 (hTopple (f, g, sl, op, lo) c).2.2.1 (hLow f op c) (qRem c (c :: r)))))))) w' := by
          rw [show i + 1 + qRun m (hTopple (f, g, sl, op, lo) c) (qRA (hTopple (f, g, sl, op, lo) c).1 (hTopple (f, g, sl, op, lo) c).2.2.2.1 (hTopple (f, g, sl, op, lo) c).2.2.1 c (qRA (hTopple (f, g, sl, op, lo) c).1 (hTopple (f, g, sl, op, lo) c).2.2.2.1 (hTopple (f, g, sl, op, lo) c).2.2.1 (hLow f op c) (qRem c (c :: r)))) = i + (qRun m (hTopple (f, g, sl, op, lo) c) (qRA (hTopple (f, g, sl, op, lo) c).1 (hTopple (f, g, sl, op, lo) c).2.2.2.1 (hTopple (f, g, sl, op, lo) c).2.2.1 c (qRA (hTopple (f, g, sl, op, lo) c).1 (hTopple (f, g, sl, op, lo) c).2.2.2.1 (hTopple (f, g, sl, op, lo) c).2.2.1 (hLow f op c) (qRem c (c :: r)))) + 1) by omega]
          exact hp
        exact hp2
set_option maxRecDepth 100000 in
set_option maxHeartbeats 4000000 in
theorem sp_queue {d c : Nat} {x : Int32} {w : mW} {t h a b : Nat} {f g f2 g2 : Nat → Int32} {sl op lo sl2 op2 lo2 : Int32} {q : Nat → Int32} {n : Nat} (H0 : TrAt w t (f, g, sl, op, lo) q n) (H2 : HillAt w h a b (f2, g2, sl2, op2, lo2)) (hst : (h < t ∨ t + 4 < h) ∧ (a < t ∨ t + 4 < a) ∧ (b < t ∨ t + 4 < b)) (ho : op2 = 0 ∨ op2 = 1) (hc : c < 25) : Sp (d + 4) yX7_countByQueue cX7_countByQueue 7 (some .int) [.ref t, .ref h, .int (nI c), .int x] w 0 0 (fun v w' => v = some (.int (nI (qRunF (hPlace (f2, g2, sl2, op2, lo2) c x (-1)) (qFill (hPlace (f2, g2, sl2, op2, lo2) c x (-1)).1 (hPlace (f2, g2, sl2, op2, lo2) c x (-1)).2.2.2.1 (hPlace (f2, g2, sl2, op2, lo2) c x (-1)).2.2.1 25)))) ∧ (∃ x' q' n', TrAt w' t x' q' n') ∧ ∀ k, (k < t ∨ t + 4 < k) → w'[k]? = w[k]?) noX := by
  refine Sp.of (by decide +kernel) (Nat.le_of_ble_eq_true rfl) (fun X hC hnl hE hR hN => ?_)
  have hC : Cx X RX7 cX7_countByQueue (d + 4) 0 0 := hC
  show Wp X 0 0 w [(0, .ref t), (1, .ref h), (2, .int (nI c)), (3, .int x)] [] 0
  have ht : w[t]? = some (mO 8 [.ref (t + 1), .ref (t + 4), .int (nI n)]) := H0.1
  have H : HillAt w (t + 1) (t + 2) (t + 3) (f, g, sl, op, lo) := H0.2.1
  have hh : w[t + 1]? = some (mO 6 [.ref (t + 2), .ref (t + 3), .int sl, .int op, .int lo]) := H.1
  have ha : w[t + 2]? = some (mI 0 26 f) := H.2.1
  have hb : w[t + 3]? = some (mI 0 25 g) := H.2.2
  have hq : w[t + 4]? = some (mI 0 25 q) := H0.2.2
  have h2h : w[h]? = some (mO 6 [.ref a, .ref b, .int sl2, .int op2, .int lo2]) := H2.1
  refine r_aload_n hC dX7_countByQueue_0 rfl (j := 0) rfl ?_
  refine r_aload_n hC dX7_countByQueue_1 rfl (j := 1) rfl ?_
  refine r_iload_n hC dX7_countByQueue_2 rfl (j := 2) rfl ?_
  refine r_iload_n hC dX7_countByQueue_3 rfl (j := 3) rfl ?_
  refine r_callV hC (vs := [.ref h, .int (nI c), .int x]) vX7_countByQueue_4 (sp_begin (d := d + 2) (x := x) H0 H2 hst ho hc) ht rfl rfl (by omega) (by omega) (by omega) (Nat.le_of_ble_eq_true rfl) (fun v_1 w_1 hP_1 hlen_1 => ?_) (fun _ _ h => h.elim)
  obtain ⟨hv_1, hT_1, hO_1⟩ := hP_1
  have ht_1 : w_1[t]? = some (mO 8 [.ref (t + 1), .ref (t + 4), .int (nI n)]) := hT_1.1
  have hh_1 : w_1[(t + 1)]? = some (mO 6 [.ref (t + 2), .ref (t + 3), .int sl2, .int op2, .int lo2]) := hT_1.2.1.1
  have ha_1 : w_1[(t + 2)]? = some (mI 0 26 (upd f2 c (f2 c + x))) := hT_1.2.1.2.1
  have hb_1 : w_1[(t + 3)]? = some (mI 0 25 (upd g2 c (-1))) := hT_1.2.1.2.2
  have hq_1 : w_1[(t + 4)]? = some (mI 0 25 q) := hT_1.2.2
  rw [hv_1]
  show Wp X 0 0 w_1 [(0, .ref t), (1, .ref h), (2, .int (nI c)), (3, .int x)] [] 7
  refine r_aload_n hC dX7_countByQueue_7 rfl (j := 0) rfl ?_
  refine r_callV hC (vs := []) vX7_countByQueue_8 (sp_fill (d := d) hT_1) ht_1 rfl rfl (by omega) (by omega) (by omega) (Nat.le_of_ble_eq_true rfl) (fun v_2 w_2 hP_2 hlen_2 => ?_) (fun _ _ h => h.elim)
  obtain ⟨hv_2, q_2, hT_2, hQ_2, hO_2⟩ := hP_2
  have ht_2 : w_2[t]? = some (mO 8 [.ref (t + 1), .ref (t + 4), .int (nI (qFill (upd f2 c (f2 c + x)) op2 sl2 25).length)]) := hT_2.1
  have hh_2 : w_2[(t + 1)]? = some (mO 6 [.ref (t + 2), .ref (t + 3), .int sl2, .int op2, .int lo2]) := hT_2.2.1.1
  have ha_2 : w_2[(t + 2)]? = some (mI 0 26 (upd f2 c (f2 c + x))) := hT_2.2.1.2.1
  have hb_2 : w_2[(t + 3)]? = some (mI 0 25 (upd g2 c (-1))) := hT_2.2.1.2.2
  have hq_2 : w_2[(t + 4)]? = some (mI 0 25 q_2) := hT_2.2.2
  rw [hv_2]
  show Wp X 0 0 w_2 [(0, .ref t), (1, .ref h), (2, .int (nI c)), (3, .int x)] [] 11
  refine r_iconst hC dX7_countByQueue_11 (v := 0) (by decide) ?_
  refine r_istore hC dX7_countByQueue_12 (by rw [hnl]; decide) (L' := [(4, .int 0), (0, .ref t), (1, .ref h), (2, .int (nI c)), (3, .int x)]) rfl ?_
  refine r_locals [1, 2, 3, 4, 0] (L' := [(0, .ref t), (1, .ref h), (2, .int (nI c)), (3, .int x), (4, .int 0)]) rfl ?_
  exact cbq_loop (w0 := w) hC hnl hE hR rfl _ _ _ 50000 0 w_2 _ _ _ _ _ _ q_2 rfl (by rw [hlen_2, hlen_1]) hT_2 hQ_2 (qFill_ok (Nat.le_refl 25)) (fun k hk => by rw [hO_2 k (by omega), hO_1 k (by omega)]) (fun w' h1 h2 => ⟨by rw [Nat.zero_add]; rfl, h1, h2⟩)
end TR3
