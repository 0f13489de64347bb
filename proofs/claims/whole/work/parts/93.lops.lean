section LP
set_option maxRecDepth 100000 in
set_option maxHeartbeats 4000000 in
theorem op_6 {X : mC} {d q mc ms k n : Nat} {w : mW} {N : Nat} {xs : Nat → Int32} {th : Int32} {f g : Nat → Int32} {sl op lo : Int32} {hd rs : Nat → Int32} {np : Nat} {tp av lg pl tk : Int32} {l : List sv} {ea fa : Int32} {so : Option sv} {txl lnl : List Nat} {tx : Nat → Int32} {tn : Nat} {lf : Nat → Int32} {ln : Nat} (hX : mScr X N xs) (J : JI w th ((f, g, sl, op, lo), hd, rs, np, tp, av, lg, pl, tk) l ea fa so txl lnl tx tn lf ln) (hC : Cx X RL cL_law (d + 12) mc ms) (hnl : mNL X = 9) (hq : 4 * q + 4 ≤ N) (hN : N ≤ 2048) (hk : k + 25 ≤ mc) (hn : n + 3100 ≤ ms) (kk : ∀ w', w'.length = w.length → JV w' → Wp X (k + 25) (n + 3100) w' [(0, .ref 2000000), (1, .ref 0), (2, .ref 89), (3, .ref 100), (4, .ref 101), (5, .int (nI (4 * q)))] [] 2109)  : Wp X k n w [(0, .ref 2000000), (1, .ref 0), (2, .ref 89), (3, .ref 100), (4, .ref 101), (5, .int (nI (4 * q)))] [] 538 := by
  have J9 := J
  obtain ⟨hct, hmd, ⟨qo, hqo⟩, ⟨qd, hqd⟩, hOK⟩ := J
  have hI : SInv ((f, g, sl, op, lo), hd, rs, np, tp, av, lg, pl, tk) := hOK.2.2.1
  have hnp : np ≤ 4 := hI.2.2
  have h25 : f 25 = 0 := hI.1.2.1
  have hop : op = 0 ∨ op = 1 := hI.1.2.2.1
  have hpos : ∀ j, j < 25 → ¬ f j < 0 := hI.1.1.1
  have hlg : ¬ lg < 0 := hI.2.1
  have hea := hOK.2.2.2.2.2.2.2.2.1
  have hfa := hOK.2.2.2.2.2.2.2.2.2
  obtain ⟨fc0, hc0⟩ := hct.ob
  obtain ⟨fm0, hm0⟩ := hmd.ob
  refine r_aload_n hC dL_law_538 rfl (j := 1) rfl ?_
  refine r_aload_n hC dL_law_539 rfl (j := 0) rfl ?_
  refine r_iload hC dL_law_540 (j := 5) rfl ?_
  refine r_iconst hC dL_law_542 (v := 1) (by decide) ?_
  refine r_iadd hC dL_law_543 ?_
  rw [show nI (4 * q) + 1 = nI (4 * q + 1) from nI_add (4 * q) 1]
  refine r_ialdX hC dL_law_544 (j := (4 * q + 1)) hX (mIx_nI (by omega) (by omega)) ?_
  refine r_aload_n hC dL_law_545 rfl (j := 3) rfl ?_
  
  refine r_callH hC (vs := [.ref 0, .int (xs (4 * q + 1)), .ref 100]) wL_law_546 (lw_hand (d := d) (p := (xs (4 * q + 1))) hct hqo (Or.inr (by decide)) hnp) rfl (by omega) (by omega) (by omega) (Nat.le_of_ble_eq_true rfl) (fun v_1 w_1 hP_1 hlen_1 => ?_)
  rcases hP_1 with ⟨hc, hv_1, Lw⟩ | ⟨hc, hv_1, Lw⟩
  · have f1 : ∀ z, (z < 0 ∨ 0 + 88 < z) → z ≠ 100 → w_1[z]? = w[z]? := Lw.2.2
    have hm1 := hmd.frame (fun z _ _ => f1 z (by omega) (by omega))
    obtain ⟨fs1, hb1⟩ := hm1.ob
    obtain ⟨q1, hq1, hr1⟩ := Lw.2.1
    rw [hv_1]
    show Wp X (k + 1) (n + 6) w_1 [(0, .ref 2000000), (1, .ref 0), (2, .ref 89), (3, .ref 100), (4, .ref 101), (5, .int (nI (4 * q)))] [.int 0] 549
    refine r_istore hC dL_law_549 (by rw [hnl]; decide) (L' := [(6, .int 0), (0, .ref 2000000), (1, .ref 0), (2, .ref 89), (3, .ref 100), (4, .ref 101), (5, .int (nI (4 * q)))]) rfl ?_
    refine r_aload_n hC dL_law_551 rfl (j := 3) rfl ?_
    refine r_aload_n hC dL_law_552 rfl (j := 1) rfl ?_
    refine r_iload hC dL_law_553 (j := 6) rfl ?_
    refine r_iconst hC dL_law_555 (v := 1) (by decide) ?_
    refine r_iadd hC dL_law_556 ?_
    rw [show nI (4 * q) + 1 = nI (4 * q + 1) from nI_add (4 * q) 1]
    refine r_ialdX hC dL_law_557 (j := (4 * q + 1)) hX (mIx_nI (by omega) (by omega)) ?_
    
    refine r_callV hC (vs := [.int (xs (4 * q + 1))]) vL_law_558 (sm_hand (d := d) (q := (xs (4 * q + 1))) hm1 hnp) hb1 rfl rfl (by omega) (by omega) (by omega) (Nat.le_of_ble_eq_true rfl) (fun v_2 w_2 hP_2 hlen_2 => ?_) (fun _ _ h => h.elim)
    rcases hP_2 with ⟨hm, hv_2, T_2⟩ | ⟨hm, hv_2, T_2⟩
    · have hqo2 := (T_2.2.2 100 (by omega)).trans hq1
      obtain ⟨fs2, hb2⟩ := T_2.1.ob
      rw [hv_2]
      show Wp X (k + 1) (n + 6) w_2 [(6, .int 0), (0, .ref 2000000), (1, .ref 0), (2, .ref 89), (3, .ref 100), (4, .ref 101), (5, .int (nI (4 * q)))] [.int (hd (xs (4 * q + 1)).toNatClampNeg)] 561
      refine r_istore hC dL_law_561 (by rw [hnl]; decide) (L' := [(7, .int (hd (xs (4 * q + 1)).toNatClampNeg)), (6, .int 0), (0, .ref 2000000), (1, .ref 0), (2, .ref 89), (3, .ref 100), (4, .ref 101), (5, .int (nI (4 * q)))]) rfl ?_
      refine r_aload_n hC dL_law_563 rfl (j := 4) rfl ?_
      refine r_callV hC (vs := []) vL_law_564 (sm_thrown (d := d) T_2.1) hb2 rfl rfl (by omega) (by omega) (by omega) (Nat.le_of_ble_eq_true rfl) (fun v_11 w_11 hP_11 hlen_11 => ?_) (fun _ _ h => h.elim)
      rw [hP_11.1, hP_11.2]
      show Wp X (k + 1) (n + 6) w_2 [(7, .int (hd (xs (4 * q + 1)).toNatClampNeg)), (6, .int 0), (0, .ref 2000000), (1, .ref 0), (2, .ref 89), (3, .ref 100), (4, .ref 101), (5, .int (nI (4 * q)))] [.int 0] 567
      refine r_iload hC dL_law_567 (j := 1) rfl ?_
      refine r_icmp_eq hC dL_law_569 (tgt := 574) (by decide) (fun _ => ?_) (fun h => absurd (by decide) h)
      refine r_iload hC dL_law_574 (j := 1) rfl ?_
      refine r_if_ne hC dL_law_576 (tgt := 591) (by decide) (fun h => absurd (by decide) h) (fun _ => ?_)
      refine r_aload_n hC dL_law_579 rfl (j := 5) rfl ?_
      refine r_iconst hC dL_law_580 (v := 0) (by decide) ?_
      refine r_lald hC dL_law_581 (j := 0) hqo2 ⟨by decide, by decide, by decide⟩ ?_
      rw [hr1]
      refine r_iload hC dL_law_582 (j := 0) rfl ?_
      refine r_i2l hC dL_law_584 rfl ?_
      refine r_lcmp hC dL_law_585 ?_
      rw [cmp_self _]
      refine r_if_eq hC dL_law_586 (tgt := 591) (by decide) (fun _ => ?_) (fun h => absurd (by decide) h)
      refine r_goto hC dL_law_591 (tgt := 2109) (by decide) ?_
      refine r_locals [2, 3, 4, 5, 6, 7] (L' := [(0, .ref 2000000), (1, .ref 0), (2, .ref 89), (3, .ref 100), (4, .ref 101), (5, .int (nI (4 * q)))]) rfl ?_
      exact Wp.wid (by omega) (by omega) (kk w_2 (hlen_2.trans hlen_1) (J9.step Lw.1 (fun z h1 h2 h3 => f1 z h1 h2) ⟨q1, hq1⟩ ⟨qd, (f1 101 (by omega) (by omega)).trans hqd⟩ T_2 (hOK)))
    · exfalso
      first | exact absurd hc hm | exact absurd hm hc | (rw [hc] at hm; cases hm; done) | (rw [hc.1] at hm; cases hm; done) | (rw [hc] at hm; exact absurd hm.1 (by decide)) | (rw [hc.1] at hm; exact absurd hm.1 (by decide)) | exact absurd hm.2 hc.2 | exact absurd hc.2 hm.2 | (have h9 := hm.2; rw [hc.2] at h9; cases h9; done)
  · have f1 : ∀ z, (z < 0 ∨ 0 + 88 < z) → z ≠ 100 → w_1[z]? = w[z]? := Lw.2.2
    have hm1 := hmd.frame (fun z _ _ => f1 z (by omega) (by omega))
    obtain ⟨fs1, hb1⟩ := hm1.ob
    obtain ⟨q1, hq1⟩ := Lw.2.1
    rw [hv_1]
    show Wp X (k + 1) (n + 6) w_1 [(0, .ref 2000000), (1, .ref 0), (2, .ref 89), (3, .ref 100), (4, .ref 101), (5, .int (nI (4 * q)))] [.int 1] 549
    refine r_istore hC dL_law_549 (by rw [hnl]; decide) (L' := [(6, .int 1), (0, .ref 2000000), (1, .ref 0), (2, .ref 89), (3, .ref 100), (4, .ref 101), (5, .int (nI (4 * q)))]) rfl ?_
    refine r_aload_n hC dL_law_551 rfl (j := 3) rfl ?_
    refine r_aload_n hC dL_law_552 rfl (j := 1) rfl ?_
    refine r_iload hC dL_law_553 (j := 6) rfl ?_
    refine r_iconst hC dL_law_555 (v := 1) (by decide) ?_
    refine r_iadd hC dL_law_556 ?_
    rw [show nI (4 * q) + 1 = nI (4 * q + 1) from nI_add (4 * q) 1]
    refine r_ialdX hC dL_law_557 (j := (4 * q + 1)) hX (mIx_nI (by omega) (by omega)) ?_
    
    refine r_callV hC (vs := [.int (xs (4 * q + 1))]) vL_law_558 (sm_hand (d := d) (q := (xs (4 * q + 1))) hm1 hnp) hb1 rfl rfl (by omega) (by omega) (by omega) (Nat.le_of_ble_eq_true rfl) (fun v_2 w_2 hP_2 hlen_2 => ?_) (fun _ _ h => h.elim)
    rcases hP_2 with ⟨hm, hv_2, T_2⟩ | ⟨hm, hv_2, T_2⟩
    · exfalso
      first | exact absurd hc hm | exact absurd hm hc | (rw [hc] at hm; cases hm; done) | (rw [hc.1] at hm; cases hm; done) | (rw [hc] at hm; exact absurd hm.1 (by decide)) | (rw [hc.1] at hm; exact absurd hm.1 (by decide)) | exact absurd hm.2 hc.2 | exact absurd hc.2 hm.2 | (have h9 := hm.2; rw [hc.2] at h9; cases h9; done)
    · have hqo2 := (T_2.2.2 100 (by omega)).trans hq1
      obtain ⟨fs2, hb2⟩ := T_2.1.ob
      rw [hv_2]
      show Wp X (k + 1) (n + 6) w_2 [(6, .int 1), (0, .ref 2000000), (1, .ref 0), (2, .ref 89), (3, .ref 100), (4, .ref 101), (5, .int (nI (4 * q)))] [.int 0] 561
      refine r_istore hC dL_law_561 (by rw [hnl]; decide) (L' := [(7, .int 0), (6, .int 1), (0, .ref 2000000), (1, .ref 0), (2, .ref 89), (3, .ref 100), (4, .ref 101), (5, .int (nI (4 * q)))]) rfl ?_
      refine r_aload_n hC dL_law_563 rfl (j := 4) rfl ?_
      refine r_callV hC (vs := []) vL_law_564 (sm_thrown (d := d) T_2.1) hb2 rfl rfl (by omega) (by omega) (by omega) (Nat.le_of_ble_eq_true rfl) (fun v_11 w_11 hP_11 hlen_11 => ?_) (fun _ _ h => h.elim)
      rw [hP_11.1, hP_11.2]
      show Wp X (k + 1) (n + 6) w_2 [(7, .int 0), (6, .int 1), (0, .ref 2000000), (1, .ref 0), (2, .ref 89), (3, .ref 100), (4, .ref 101), (5, .int (nI (4 * q)))] [.int 1] 567
      refine r_iload hC dL_law_567 (j := 1) rfl ?_
      refine r_icmp_eq hC dL_law_569 (tgt := 574) (by decide) (fun _ => ?_) (fun h => absurd (by decide) h)
      refine r_iload hC dL_law_574 (j := 1) rfl ?_
      refine r_if_ne hC dL_law_576 (tgt := 591) (by decide) (fun _ => ?_) (fun h => absurd h (by decide))
      refine r_goto hC dL_law_591 (tgt := 2109) (by decide) ?_
      refine r_locals [2, 3, 4, 5, 6, 7] (L' := [(0, .ref 2000000), (1, .ref 0), (2, .ref 89), (3, .ref 100), (4, .ref 101), (5, .int (nI (4 * q)))]) rfl ?_
      exact Wp.wid (by omega) (by omega) (kk w_2 (hlen_2.trans hlen_1) (J9.step Lw.1 (fun z h1 h2 h3 => f1 z h1 h2) ⟨q1, hq1⟩ ⟨qd, (f1 101 (by omega) (by omega)).trans hqd⟩ T_2 (hOK)))
theorem all_push {l : List sv} {y : sv} (h : ∀ z ∈ l, SInv z) (hy : SInv y) : ∀ z ∈ push8 l y, SInv z := by
  intro z hz
  unfold push8 at hz
  split at hz
  · rcases List.mem_append.mp hz with q | q
    · exact h z (List.mem_of_mem_tail q)
    · rw [List.mem_singleton.mp q]; exact hy
  · rcases List.mem_append.mp hz with q | q
    · exact h z q
    · rw [List.mem_singleton.mp q]; exact hy
theorem rank_eq {P : Nat → Bool} {a b : Nat} (h1 : P a = true) (h2 : ∀ j, j < a → P j = false) (h3 : P b = true) (h4 : ∀ j, j < b → P j = false) : a = b := by
  rcases Nat.lt_trichotomy a b with q | q | q
  · rw [h4 a q] at h1; cases h1
  · exact q
  · rw [h2 b q] at h3; cases h3
set_option maxRecDepth 100000 in
set_option maxHeartbeats 4000000 in
theorem op_7 {X : mC} {d q mc ms k n : Nat} {w : mW} {N : Nat} {xs : Nat → Int32} {th : Int32} {f g : Nat → Int32} {sl op lo : Int32} {hd rs : Nat → Int32} {np : Nat} {tp av lg pl tk : Int32} {l : List sv} {ea fa : Int32} {so : Option sv} {txl lnl : List Nat} {tx : Nat → Int32} {tn : Nat} {lf : Nat → Int32} {ln : Nat} (hX : mScr X N xs) (J : JI w th ((f, g, sl, op, lo), hd, rs, np, tp, av, lg, pl, tk) l ea fa so txl lnl tx tn lf ln) (hC : Cx X RL cL_law (d + 12) mc ms) (hnl : mNL X = 9) (hq : 4 * q + 4 ≤ N) (hN : N ≤ 2048) (hk : k + 25 ≤ mc) (hn : n + 3100 ≤ ms) (kk : ∀ w', w'.length = w.length → JV w' → Wp X (k + 25) (n + 3100) w' [(0, .ref 2000000), (1, .ref 0), (2, .ref 89), (3, .ref 100), (4, .ref 101), (5, .int (nI (4 * q)))] [] 2109)  : Wp X k n w [(0, .ref 2000000), (1, .ref 0), (2, .ref 89), (3, .ref 100), (4, .ref 101), (5, .int (nI (4 * q)))] [] 594 := by
  have J9 := J
  obtain ⟨hct, hmd, ⟨qo, hqo⟩, ⟨qd, hqd⟩, hOK⟩ := J
  have hI : SInv ((f, g, sl, op, lo), hd, rs, np, tp, av, lg, pl, tk) := hOK.2.2.1
  have hnp : np ≤ 4 := hI.2.2
  have h25 : f 25 = 0 := hI.1.2.1
  have hop : op = 0 ∨ op = 1 := hI.1.2.2.1
  have hpos : ∀ j, j < 25 → ¬ f j < 0 := hI.1.1.1
  have hlg : ¬ lg < 0 := hI.2.1
  have hea := hOK.2.2.2.2.2.2.2.2.1
  have hfa := hOK.2.2.2.2.2.2.2.2.2
  obtain ⟨fc0, hc0⟩ := hct.ob
  obtain ⟨fm0, hm0⟩ := hmd.ob
  refine r_aload_n hC dL_law_594 rfl (j := 1) rfl ?_
  refine r_aload_n hC dL_law_595 rfl (j := 0) rfl ?_
  refine r_iload hC dL_law_596 (j := 5) rfl ?_
  refine r_iconst hC dL_law_598 (v := 1) (by decide) ?_
  refine r_iadd hC dL_law_599 ?_
  rw [show nI (4 * q) + 1 = nI (4 * q + 1) from nI_add (4 * q) 1]
  refine r_ialdX hC dL_law_600 (j := (4 * q + 1)) hX (mIx_nI (by omega) (by omega)) ?_
  refine r_aload_n hC dL_law_601 rfl (j := 3) rfl ?_
  
  refine r_callH hC (vs := [.ref 0, .int (xs (4 * q + 1)), .ref 100]) wL_law_602 (lw_rest (d := d) (p := (xs (4 * q + 1))) hct hqo (Or.inr (by decide)) hnp) rfl (by omega) (by omega) (by omega) (Nat.le_of_ble_eq_true rfl) (fun v_1 w_1 hP_1 hlen_1 => ?_)
  rcases hP_1 with ⟨hc, hv_1, Lw⟩ | ⟨hc, hv_1, Lw⟩
  · have f1 : ∀ z, (z < 0 ∨ 0 + 88 < z) → z ≠ 100 → w_1[z]? = w[z]? := Lw.2.2
    have hm1 := hmd.frame (fun z _ _ => f1 z (by omega) (by omega))
    obtain ⟨fs1, hb1⟩ := hm1.ob
    obtain ⟨q1, hq1, hr1⟩ := Lw.2.1
    rw [hv_1]
    show Wp X (k + 1) (n + 6) w_1 [(0, .ref 2000000), (1, .ref 0), (2, .ref 89), (3, .ref 100), (4, .ref 101), (5, .int (nI (4 * q)))] [.int 0] 605
    refine r_istore hC dL_law_605 (by rw [hnl]; decide) (L' := [(6, .int 0), (0, .ref 2000000), (1, .ref 0), (2, .ref 89), (3, .ref 100), (4, .ref 101), (5, .int (nI (4 * q)))]) rfl ?_
    refine r_aload_n hC dL_law_607 rfl (j := 3) rfl ?_
    refine r_aload_n hC dL_law_608 rfl (j := 1) rfl ?_
    refine r_iload hC dL_law_609 (j := 6) rfl ?_
    refine r_iconst hC dL_law_611 (v := 1) (by decide) ?_
    refine r_iadd hC dL_law_612 ?_
    rw [show nI (4 * q) + 1 = nI (4 * q + 1) from nI_add (4 * q) 1]
    refine r_ialdX hC dL_law_613 (j := (4 * q + 1)) hX (mIx_nI (by omega) (by omega)) ?_
    
    refine r_callV hC (vs := [.int (xs (4 * q + 1))]) vL_law_614 (sm_rest (d := d) (q := (xs (4 * q + 1))) hm1 hnp) hb1 rfl rfl (by omega) (by omega) (by omega) (Nat.le_of_ble_eq_true rfl) (fun v_2 w_2 hP_2 hlen_2 => ?_) (fun _ _ h => h.elim)
    rcases hP_2 with ⟨hm, hv_2, T_2⟩ | ⟨hm, hv_2, T_2⟩
    · have hqo2 := (T_2.2.2 100 (by omega)).trans hq1
      obtain ⟨fs2, hb2⟩ := T_2.1.ob
      rw [hv_2]
      show Wp X (k + 1) (n + 6) w_2 [(6, .int 0), (0, .ref 2000000), (1, .ref 0), (2, .ref 89), (3, .ref 100), (4, .ref 101), (5, .int (nI (4 * q)))] [.int (rs (xs (4 * q + 1)).toNatClampNeg)] 617
      refine r_istore hC dL_law_617 (by rw [hnl]; decide) (L' := [(7, .int (rs (xs (4 * q + 1)).toNatClampNeg)), (6, .int 0), (0, .ref 2000000), (1, .ref 0), (2, .ref 89), (3, .ref 100), (4, .ref 101), (5, .int (nI (4 * q)))]) rfl ?_
      refine r_aload_n hC dL_law_619 rfl (j := 4) rfl ?_
      refine r_callV hC (vs := []) vL_law_620 (sm_thrown (d := d) T_2.1) hb2 rfl rfl (by omega) (by omega) (by omega) (Nat.le_of_ble_eq_true rfl) (fun v_11 w_11 hP_11 hlen_11 => ?_) (fun _ _ h => h.elim)
      rw [hP_11.1, hP_11.2]
      show Wp X (k + 1) (n + 6) w_2 [(7, .int (rs (xs (4 * q + 1)).toNatClampNeg)), (6, .int 0), (0, .ref 2000000), (1, .ref 0), (2, .ref 89), (3, .ref 100), (4, .ref 101), (5, .int (nI (4 * q)))] [.int 0] 623
      refine r_iload hC dL_law_623 (j := 1) rfl ?_
      refine r_icmp_eq hC dL_law_625 (tgt := 630) (by decide) (fun _ => ?_) (fun h => absurd (by decide) h)
      refine r_iload hC dL_law_630 (j := 1) rfl ?_
      refine r_if_ne hC dL_law_632 (tgt := 647) (by decide) (fun h => absurd (by decide) h) (fun _ => ?_)
      refine r_aload_n hC dL_law_635 rfl (j := 5) rfl ?_
      refine r_iconst hC dL_law_636 (v := 0) (by decide) ?_
      refine r_lald hC dL_law_637 (j := 0) hqo2 ⟨by decide, by decide, by decide⟩ ?_
      rw [hr1]
      refine r_iload hC dL_law_638 (j := 0) rfl ?_
      refine r_i2l hC dL_law_640 rfl ?_
      refine r_lcmp hC dL_law_641 ?_
      rw [cmp_self _]
      refine r_if_eq hC dL_law_642 (tgt := 647) (by decide) (fun _ => ?_) (fun h => absurd (by decide) h)
      refine r_goto hC dL_law_647 (tgt := 2109) (by decide) ?_
      refine r_locals [2, 3, 4, 5, 6, 7] (L' := [(0, .ref 2000000), (1, .ref 0), (2, .ref 89), (3, .ref 100), (4, .ref 101), (5, .int (nI (4 * q)))]) rfl ?_
      exact Wp.wid (by omega) (by omega) (kk w_2 (hlen_2.trans hlen_1) (J9.step Lw.1 (fun z h1 h2 h3 => f1 z h1 h2) ⟨q1, hq1⟩ ⟨qd, (f1 101 (by omega) (by omega)).trans hqd⟩ T_2 (hOK)))
    · exfalso
      first | exact absurd hc hm | exact absurd hm hc | (rw [hc] at hm; cases hm; done) | (rw [hc.1] at hm; cases hm; done) | (rw [hc] at hm; exact absurd hm.1 (by decide)) | (rw [hc.1] at hm; exact absurd hm.1 (by decide)) | exact absurd hm.2 hc.2 | exact absurd hc.2 hm.2 | (have h9 := hm.2; rw [hc.2] at h9; cases h9; done)
  · have f1 : ∀ z, (z < 0 ∨ 0 + 88 < z) → z ≠ 100 → w_1[z]? = w[z]? := Lw.2.2
    have hm1 := hmd.frame (fun z _ _ => f1 z (by omega) (by omega))
    obtain ⟨fs1, hb1⟩ := hm1.ob
    obtain ⟨q1, hq1⟩ := Lw.2.1
    rw [hv_1]
    show Wp X (k + 1) (n + 6) w_1 [(0, .ref 2000000), (1, .ref 0), (2, .ref 89), (3, .ref 100), (4, .ref 101), (5, .int (nI (4 * q)))] [.int 1] 605
    refine r_istore hC dL_law_605 (by rw [hnl]; decide) (L' := [(6, .int 1), (0, .ref 2000000), (1, .ref 0), (2, .ref 89), (3, .ref 100), (4, .ref 101), (5, .int (nI (4 * q)))]) rfl ?_
    refine r_aload_n hC dL_law_607 rfl (j := 3) rfl ?_
    refine r_aload_n hC dL_law_608 rfl (j := 1) rfl ?_
    refine r_iload hC dL_law_609 (j := 6) rfl ?_
    refine r_iconst hC dL_law_611 (v := 1) (by decide) ?_
    refine r_iadd hC dL_law_612 ?_
    rw [show nI (4 * q) + 1 = nI (4 * q + 1) from nI_add (4 * q) 1]
    refine r_ialdX hC dL_law_613 (j := (4 * q + 1)) hX (mIx_nI (by omega) (by omega)) ?_
    
    refine r_callV hC (vs := [.int (xs (4 * q + 1))]) vL_law_614 (sm_rest (d := d) (q := (xs (4 * q + 1))) hm1 hnp) hb1 rfl rfl (by omega) (by omega) (by omega) (Nat.le_of_ble_eq_true rfl) (fun v_2 w_2 hP_2 hlen_2 => ?_) (fun _ _ h => h.elim)
    rcases hP_2 with ⟨hm, hv_2, T_2⟩ | ⟨hm, hv_2, T_2⟩
    · exfalso
      first | exact absurd hc hm | exact absurd hm hc | (rw [hc] at hm; cases hm; done) | (rw [hc.1] at hm; cases hm; done) | (rw [hc] at hm; exact absurd hm.1 (by decide)) | (rw [hc.1] at hm; exact absurd hm.1 (by decide)) | exact absurd hm.2 hc.2 | exact absurd hc.2 hm.2 | (have h9 := hm.2; rw [hc.2] at h9; cases h9; done)
    · have hqo2 := (T_2.2.2 100 (by omega)).trans hq1
      obtain ⟨fs2, hb2⟩ := T_2.1.ob
      rw [hv_2]
      show Wp X (k + 1) (n + 6) w_2 [(6, .int 1), (0, .ref 2000000), (1, .ref 0), (2, .ref 89), (3, .ref 100), (4, .ref 101), (5, .int (nI (4 * q)))] [.int 0] 617
      refine r_istore hC dL_law_617 (by rw [hnl]; decide) (L' := [(7, .int 0), (6, .int 1), (0, .ref 2000000), (1, .ref 0), (2, .ref 89), (3, .ref 100), (4, .ref 101), (5, .int (nI (4 * q)))]) rfl ?_
      refine r_aload_n hC dL_law_619 rfl (j := 4) rfl ?_
      refine r_callV hC (vs := []) vL_law_620 (sm_thrown (d := d) T_2.1) hb2 rfl rfl (by omega) (by omega) (by omega) (Nat.le_of_ble_eq_true rfl) (fun v_11 w_11 hP_11 hlen_11 => ?_) (fun _ _ h => h.elim)
      rw [hP_11.1, hP_11.2]
      show Wp X (k + 1) (n + 6) w_2 [(7, .int 0), (6, .int 1), (0, .ref 2000000), (1, .ref 0), (2, .ref 89), (3, .ref 100), (4, .ref 101), (5, .int (nI (4 * q)))] [.int 1] 623
      refine r_iload hC dL_law_623 (j := 1) rfl ?_
      refine r_icmp_eq hC dL_law_625 (tgt := 630) (by decide) (fun _ => ?_) (fun h => absurd (by decide) h)
      refine r_iload hC dL_law_630 (j := 1) rfl ?_
      refine r_if_ne hC dL_law_632 (tgt := 647) (by decide) (fun _ => ?_) (fun h => absurd h (by decide))
      refine r_goto hC dL_law_647 (tgt := 2109) (by decide) ?_
      refine r_locals [2, 3, 4, 5, 6, 7] (L' := [(0, .ref 2000000), (1, .ref 0), (2, .ref 89), (3, .ref 100), (4, .ref 101), (5, .int (nI (4 * q)))]) rfl ?_
      exact Wp.wid (by omega) (by omega) (kk w_2 (hlen_2.trans hlen_1) (J9.step Lw.1 (fun z h1 h2 h3 => f1 z h1 h2) ⟨q1, hq1⟩ ⟨qd, (f1 101 (by omega) (by omega)).trans hqd⟩ T_2 (hOK)))
set_option maxRecDepth 100000 in
set_option maxHeartbeats 4000000 in
theorem op_12 {X : mC} {d q mc ms k n : Nat} {w : mW} {N : Nat} {xs : Nat → Int32} {th : Int32} {f g : Nat → Int32} {sl op lo : Int32} {hd rs : Nat → Int32} {np : Nat} {tp av lg pl tk : Int32} {l : List sv} {ea fa : Int32} {so : Option sv} {txl lnl : List Nat} {tx : Nat → Int32} {tn : Nat} {lf : Nat → Int32} {ln : Nat} (hX : mScr X N xs) (J : JI w th ((f, g, sl, op, lo), hd, rs, np, tp, av, lg, pl, tk) l ea fa so txl lnl tx tn lf ln) (hC : Cx X RL cL_law (d + 12) mc ms) (hnl : mNL X = 9) (hq : 4 * q + 4 ≤ N) (hN : N ≤ 2048) (hk : k + 25 ≤ mc) (hn : n + 3100 ≤ ms) (kk : ∀ w', w'.length = w.length → JV w' → Wp X (k + 25) (n + 3100) w' [(0, .ref 2000000), (1, .ref 0), (2, .ref 89), (3, .ref 100), (4, .ref 101), (5, .int (nI (4 * q)))] [] 2109)  : Wp X k n w [(0, .ref 2000000), (1, .ref 0), (2, .ref 89), (3, .ref 100), (4, .ref 101), (5, .int (nI (4 * q)))] [] 773 := by
  have J9 := J
  obtain ⟨hct, hmd, ⟨qo, hqo⟩, ⟨qd, hqd⟩, hOK⟩ := J
  have hI : SInv ((f, g, sl, op, lo), hd, rs, np, tp, av, lg, pl, tk) := hOK.2.2.1
  have hnp : np ≤ 4 := hI.2.2
  have h25 : f 25 = 0 := hI.1.2.1
  have hop : op = 0 ∨ op = 1 := hI.1.2.2.1
  have hpos : ∀ j, j < 25 → ¬ f j < 0 := hI.1.1.1
  have hlg : ¬ lg < 0 := hI.2.1
  have hea := hOK.2.2.2.2.2.2.2.2.1
  have hfa := hOK.2.2.2.2.2.2.2.2.2
  obtain ⟨fc0, hc0⟩ := hct.ob
  obtain ⟨fm0, hm0⟩ := hmd.ob
  refine r_aload_n hC dL_law_773 rfl (j := 1) rfl ?_
  refine r_aload_n hC dL_law_774 rfl (j := 0) rfl ?_
  refine r_iload hC dL_law_775 (j := 5) rfl ?_
  refine r_iconst hC dL_law_777 (v := 1) (by decide) ?_
  refine r_iadd hC dL_law_778 ?_
  rw [show nI (4 * q) + 1 = nI (4 * q + 1) from nI_add (4 * q) 1]
  refine r_ialdX hC dL_law_779 (j := (4 * q + 1)) hX (mIx_nI (by omega) (by omega)) ?_
  refine r_aload_n hC dL_law_780 rfl (j := 3) rfl ?_
  
  refine r_callH hC (vs := [.ref 0, .int (xs (4 * q + 1)), .ref 100]) wL_law_781 (lw_height (d := d) (c := (xs (4 * q + 1))) hct hqo (Or.inr (by decide)) ) rfl (by omega) (by omega) (by omega) (Nat.le_of_ble_eq_true rfl) (fun v_1 w_1 hP_1 hlen_1 => ?_)
  rcases hP_1 with ⟨hc, hv_1, Lw⟩ | ⟨hc, hv_1, Lw⟩
  · have f1 : ∀ z, (z < 0 ∨ 0 + 88 < z) → z ≠ 100 → w_1[z]? = w[z]? := Lw.2.2
    have hm1 := hmd.frame (fun z _ _ => f1 z (by omega) (by omega))
    obtain ⟨fs1, hb1⟩ := hm1.ob
    obtain ⟨q1, hq1, hr1⟩ := Lw.2.1
    rw [hv_1]
    show Wp X (k + 1) (n + 6) w_1 [(0, .ref 2000000), (1, .ref 0), (2, .ref 89), (3, .ref 100), (4, .ref 101), (5, .int (nI (4 * q)))] [.int 0] 784
    refine r_istore hC dL_law_784 (by rw [hnl]; decide) (L' := [(6, .int 0), (0, .ref 2000000), (1, .ref 0), (2, .ref 89), (3, .ref 100), (4, .ref 101), (5, .int (nI (4 * q)))]) rfl ?_
    refine r_aload_n hC dL_law_786 rfl (j := 3) rfl ?_
    refine r_aload_n hC dL_law_787 rfl (j := 1) rfl ?_
    refine r_iload hC dL_law_788 (j := 6) rfl ?_
    refine r_iconst hC dL_law_790 (v := 1) (by decide) ?_
    refine r_iadd hC dL_law_791 ?_
    rw [show nI (4 * q) + 1 = nI (4 * q + 1) from nI_add (4 * q) 1]
    refine r_ialdX hC dL_law_792 (j := (4 * q + 1)) hX (mIx_nI (by omega) (by omega)) ?_
    
    refine r_callV hC (vs := [.int (xs (4 * q + 1))]) vL_law_793 (sm_height (d := d) (c := (xs (4 * q + 1))) hm1 ) hb1 rfl rfl (by omega) (by omega) (by omega) (Nat.le_of_ble_eq_true rfl) (fun v_2 w_2 hP_2 hlen_2 => ?_) (fun _ _ h => h.elim)
    rcases hP_2 with ⟨hm, hv_2, T_2⟩ | ⟨hm, hv_2, T_2⟩
    · have hqo2 := (T_2.2.2 100 (by omega)).trans hq1
      obtain ⟨fs2, hb2⟩ := T_2.1.ob
      rw [hv_2]
      show Wp X (k + 1) (n + 6) w_2 [(6, .int 0), (0, .ref 2000000), (1, .ref 0), (2, .ref 89), (3, .ref 100), (4, .ref 101), (5, .int (nI (4 * q)))] [.int (f (xs (4 * q + 1)).toNatClampNeg)] 796
      refine r_istore hC dL_law_796 (by rw [hnl]; decide) (L' := [(7, .int (f (xs (4 * q + 1)).toNatClampNeg)), (6, .int 0), (0, .ref 2000000), (1, .ref 0), (2, .ref 89), (3, .ref 100), (4, .ref 101), (5, .int (nI (4 * q)))]) rfl ?_
      refine r_aload_n hC dL_law_798 rfl (j := 4) rfl ?_
      refine r_callV hC (vs := []) vL_law_799 (sm_thrown (d := d) T_2.1) hb2 rfl rfl (by omega) (by omega) (by omega) (Nat.le_of_ble_eq_true rfl) (fun v_11 w_11 hP_11 hlen_11 => ?_) (fun _ _ h => h.elim)
      rw [hP_11.1, hP_11.2]
      show Wp X (k + 1) (n + 6) w_2 [(7, .int (f (xs (4 * q + 1)).toNatClampNeg)), (6, .int 0), (0, .ref 2000000), (1, .ref 0), (2, .ref 89), (3, .ref 100), (4, .ref 101), (5, .int (nI (4 * q)))] [.int 0] 802
      refine r_iload hC dL_law_802 (j := 1) rfl ?_
      refine r_icmp_eq hC dL_law_804 (tgt := 809) (by decide) (fun _ => ?_) (fun h => absurd (by decide) h)
      refine r_iload hC dL_law_809 (j := 1) rfl ?_
      refine r_if_ne hC dL_law_811 (tgt := 826) (by decide) (fun h => absurd (by decide) h) (fun _ => ?_)
      refine r_aload_n hC dL_law_814 rfl (j := 5) rfl ?_
      refine r_iconst hC dL_law_815 (v := 0) (by decide) ?_
      refine r_lald hC dL_law_816 (j := 0) hqo2 ⟨by decide, by decide, by decide⟩ ?_
      rw [hr1]
      refine r_iload hC dL_law_817 (j := 0) rfl ?_
      refine r_i2l hC dL_law_819 rfl ?_
      refine r_lcmp hC dL_law_820 ?_
      rw [cmp_self _]
      refine r_if_eq hC dL_law_821 (tgt := 826) (by decide) (fun _ => ?_) (fun h => absurd (by decide) h)
      refine r_goto hC dL_law_826 (tgt := 2109) (by decide) ?_
      refine r_locals [2, 3, 4, 5, 6, 7] (L' := [(0, .ref 2000000), (1, .ref 0), (2, .ref 89), (3, .ref 100), (4, .ref 101), (5, .int (nI (4 * q)))]) rfl ?_
      exact Wp.wid (by omega) (by omega) (kk w_2 (hlen_2.trans hlen_1) (J9.step Lw.1 (fun z h1 h2 h3 => f1 z h1 h2) ⟨q1, hq1⟩ ⟨qd, (f1 101 (by omega) (by omega)).trans hqd⟩ T_2 (hOK)))
    · exfalso
      first | exact absurd hc hm | exact absurd hm hc | (rw [hc] at hm; cases hm; done) | (rw [hc.1] at hm; cases hm; done) | (rw [hc] at hm; exact absurd hm.1 (by decide)) | (rw [hc.1] at hm; exact absurd hm.1 (by decide)) | exact absurd hm.2 hc.2 | exact absurd hc.2 hm.2 | (have h9 := hm.2; rw [hc.2] at h9; cases h9; done)
  · have f1 : ∀ z, (z < 0 ∨ 0 + 88 < z) → z ≠ 100 → w_1[z]? = w[z]? := Lw.2.2
    have hm1 := hmd.frame (fun z _ _ => f1 z (by omega) (by omega))
    obtain ⟨fs1, hb1⟩ := hm1.ob
    obtain ⟨q1, hq1⟩ := Lw.2.1
    rw [hv_1]
    show Wp X (k + 1) (n + 6) w_1 [(0, .ref 2000000), (1, .ref 0), (2, .ref 89), (3, .ref 100), (4, .ref 101), (5, .int (nI (4 * q)))] [.int 1] 784
    refine r_istore hC dL_law_784 (by rw [hnl]; decide) (L' := [(6, .int 1), (0, .ref 2000000), (1, .ref 0), (2, .ref 89), (3, .ref 100), (4, .ref 101), (5, .int (nI (4 * q)))]) rfl ?_
    refine r_aload_n hC dL_law_786 rfl (j := 3) rfl ?_
    refine r_aload_n hC dL_law_787 rfl (j := 1) rfl ?_
    refine r_iload hC dL_law_788 (j := 6) rfl ?_
    refine r_iconst hC dL_law_790 (v := 1) (by decide) ?_
    refine r_iadd hC dL_law_791 ?_
    rw [show nI (4 * q) + 1 = nI (4 * q + 1) from nI_add (4 * q) 1]
    refine r_ialdX hC dL_law_792 (j := (4 * q + 1)) hX (mIx_nI (by omega) (by omega)) ?_
    
    refine r_callV hC (vs := [.int (xs (4 * q + 1))]) vL_law_793 (sm_height (d := d) (c := (xs (4 * q + 1))) hm1 ) hb1 rfl rfl (by omega) (by omega) (by omega) (Nat.le_of_ble_eq_true rfl) (fun v_2 w_2 hP_2 hlen_2 => ?_) (fun _ _ h => h.elim)
    rcases hP_2 with ⟨hm, hv_2, T_2⟩ | ⟨hm, hv_2, T_2⟩
    · exfalso
      first | exact absurd hc hm | exact absurd hm hc | (rw [hc] at hm; cases hm; done) | (rw [hc.1] at hm; cases hm; done) | (rw [hc] at hm; exact absurd hm.1 (by decide)) | (rw [hc.1] at hm; exact absurd hm.1 (by decide)) | exact absurd hm.2 hc.2 | exact absurd hc.2 hm.2 | (have h9 := hm.2; rw [hc.2] at h9; cases h9; done)
    · have hqo2 := (T_2.2.2 100 (by omega)).trans hq1
      obtain ⟨fs2, hb2⟩ := T_2.1.ob
      rw [hv_2]
      show Wp X (k + 1) (n + 6) w_2 [(6, .int 1), (0, .ref 2000000), (1, .ref 0), (2, .ref 89), (3, .ref 100), (4, .ref 101), (5, .int (nI (4 * q)))] [.int 0] 796
      refine r_istore hC dL_law_796 (by rw [hnl]; decide) (L' := [(7, .int 0), (6, .int 1), (0, .ref 2000000), (1, .ref 0), (2, .ref 89), (3, .ref 100), (4, .ref 101), (5, .int (nI (4 * q)))]) rfl ?_
      refine r_aload_n hC dL_law_798 rfl (j := 4) rfl ?_
      refine r_callV hC (vs := []) vL_law_799 (sm_thrown (d := d) T_2.1) hb2 rfl rfl (by omega) (by omega) (by omega) (Nat.le_of_ble_eq_true rfl) (fun v_11 w_11 hP_11 hlen_11 => ?_) (fun _ _ h => h.elim)
      rw [hP_11.1, hP_11.2]
      show Wp X (k + 1) (n + 6) w_2 [(7, .int 0), (6, .int 1), (0, .ref 2000000), (1, .ref 0), (2, .ref 89), (3, .ref 100), (4, .ref 101), (5, .int (nI (4 * q)))] [.int 1] 802
      refine r_iload hC dL_law_802 (j := 1) rfl ?_
      refine r_icmp_eq hC dL_law_804 (tgt := 809) (by decide) (fun _ => ?_) (fun h => absurd (by decide) h)
      refine r_iload hC dL_law_809 (j := 1) rfl ?_
      refine r_if_ne hC dL_law_811 (tgt := 826) (by decide) (fun _ => ?_) (fun h => absurd h (by decide))
      refine r_goto hC dL_law_826 (tgt := 2109) (by decide) ?_
      refine r_locals [2, 3, 4, 5, 6, 7] (L' := [(0, .ref 2000000), (1, .ref 0), (2, .ref 89), (3, .ref 100), (4, .ref 101), (5, .int (nI (4 * q)))]) rfl ?_
      exact Wp.wid (by omega) (by omega) (kk w_2 (hlen_2.trans hlen_1) (J9.step Lw.1 (fun z h1 h2 h3 => f1 z h1 h2) ⟨q1, hq1⟩ ⟨qd, (f1 101 (by omega) (by omega)).trans hqd⟩ T_2 (hOK)))
set_option maxRecDepth 100000 in
set_option maxHeartbeats 4000000 in
theorem op_14 {X : mC} {d q mc ms k n : Nat} {w : mW} {N : Nat} {xs : Nat → Int32} {th : Int32} {f g : Nat → Int32} {sl op lo : Int32} {hd rs : Nat → Int32} {np : Nat} {tp av lg pl tk : Int32} {l : List sv} {ea fa : Int32} {so : Option sv} {txl lnl : List Nat} {tx : Nat → Int32} {tn : Nat} {lf : Nat → Int32} {ln : Nat} (hX : mScr X N xs) (J : JI w th ((f, g, sl, op, lo), hd, rs, np, tp, av, lg, pl, tk) l ea fa so txl lnl tx tn lf ln) (hC : Cx X RL cL_law (d + 12) mc ms) (hnl : mNL X = 9) (hq : 4 * q + 4 ≤ N) (hN : N ≤ 2048) (hk : k + 25 ≤ mc) (hn : n + 3100 ≤ ms) (kk : ∀ w', w'.length = w.length → JV w' → Wp X (k + 25) (n + 3100) w' [(0, .ref 2000000), (1, .ref 0), (2, .ref 89), (3, .ref 100), (4, .ref 101), (5, .int (nI (4 * q)))] [] 2109)  : Wp X k n w [(0, .ref 2000000), (1, .ref 0), (2, .ref 89), (3, .ref 100), (4, .ref 101), (5, .int (nI (4 * q)))] [] 885 := by
  have J9 := J
  obtain ⟨hct, hmd, ⟨qo, hqo⟩, ⟨qd, hqd⟩, hOK⟩ := J
  have hI : SInv ((f, g, sl, op, lo), hd, rs, np, tp, av, lg, pl, tk) := hOK.2.2.1
  have hnp : np ≤ 4 := hI.2.2
  have h25 : f 25 = 0 := hI.1.2.1
  have hop : op = 0 ∨ op = 1 := hI.1.2.2.1
  have hpos : ∀ j, j < 25 → ¬ f j < 0 := hI.1.1.1
  have hlg : ¬ lg < 0 := hI.2.1
  have hea := hOK.2.2.2.2.2.2.2.2.1
  have hfa := hOK.2.2.2.2.2.2.2.2.2
  obtain ⟨fc0, hc0⟩ := hct.ob
  obtain ⟨fm0, hm0⟩ := hmd.ob
  refine r_aload_n hC dL_law_885 rfl (j := 1) rfl ?_
  refine r_aload_n hC dL_law_886 rfl (j := 0) rfl ?_
  refine r_iload hC dL_law_887 (j := 5) rfl ?_
  refine r_iconst hC dL_law_889 (v := 1) (by decide) ?_
  refine r_iadd hC dL_law_890 ?_
  rw [show nI (4 * q) + 1 = nI (4 * q + 1) from nI_add (4 * q) 1]
  refine r_ialdX hC dL_law_891 (j := (4 * q + 1)) hX (mIx_nI (by omega) (by omega)) ?_
  refine r_aload_n hC dL_law_892 rfl (j := 3) rfl ?_
  
  refine r_callH hC (vs := [.ref 0, .int (xs (4 * q + 1)), .ref 100]) wL_law_893 (lw_steepness (d := d) (c := (xs (4 * q + 1))) hct hqo (Or.inr (by decide)) ) rfl (by omega) (by omega) (by omega) (Nat.le_of_ble_eq_true rfl) (fun v_1 w_1 hP_1 hlen_1 => ?_)
  rcases hP_1 with ⟨hc, hv_1, Lw⟩ | ⟨hc, hv_1, Lw⟩
  · have f1 : ∀ z, (z < 0 ∨ 0 + 88 < z) → z ≠ 100 → w_1[z]? = w[z]? := Lw.2.2
    have hm1 := hmd.frame (fun z _ _ => f1 z (by omega) (by omega))
    obtain ⟨fs1, hb1⟩ := hm1.ob
    obtain ⟨q1, hq1, hr1⟩ := Lw.2.1
    rw [hv_1]
    show Wp X (k + 1) (n + 6) w_1 [(0, .ref 2000000), (1, .ref 0), (2, .ref 89), (3, .ref 100), (4, .ref 101), (5, .int (nI (4 * q)))] [.int 0] 896
    refine r_istore hC dL_law_896 (by rw [hnl]; decide) (L' := [(6, .int 0), (0, .ref 2000000), (1, .ref 0), (2, .ref 89), (3, .ref 100), (4, .ref 101), (5, .int (nI (4 * q)))]) rfl ?_
    refine r_aload_n hC dL_law_898 rfl (j := 3) rfl ?_
    refine r_aload_n hC dL_law_899 rfl (j := 1) rfl ?_
    refine r_iload hC dL_law_900 (j := 6) rfl ?_
    refine r_iconst hC dL_law_902 (v := 1) (by decide) ?_
    refine r_iadd hC dL_law_903 ?_
    rw [show nI (4 * q) + 1 = nI (4 * q + 1) from nI_add (4 * q) 1]
    refine r_ialdX hC dL_law_904 (j := (4 * q + 1)) hX (mIx_nI (by omega) (by omega)) ?_
    
    refine r_callV hC (vs := [.int (xs (4 * q + 1))]) vL_law_905 (sm_steepness (d := d) (c := (xs (4 * q + 1))) hm1 h25 hop) hb1 rfl rfl (by omega) (by omega) (by omega) (Nat.le_of_ble_eq_true rfl) (fun v_2 w_2 hP_2 hlen_2 => ?_) (fun _ _ h => h.elim)
    rcases hP_2 with ⟨hm, hv_2, T_2⟩ | ⟨hm, hv_2, T_2⟩
    · have hqo2 := (T_2.2.2 100 (by omega)).trans hq1
      obtain ⟨fs2, hb2⟩ := T_2.1.ob
      rw [hv_2]
      show Wp X (k + 1) (n + 6) w_2 [(6, .int 0), (0, .ref 2000000), (1, .ref 0), (2, .ref 89), (3, .ref 100), (4, .ref 101), (5, .int (nI (4 * q)))] [.int (hSteep f op (xs (4 * q + 1)).toNatClampNeg)] 908
      refine r_istore hC dL_law_908 (by rw [hnl]; decide) (L' := [(7, .int (hSteep f op (xs (4 * q + 1)).toNatClampNeg)), (6, .int 0), (0, .ref 2000000), (1, .ref 0), (2, .ref 89), (3, .ref 100), (4, .ref 101), (5, .int (nI (4 * q)))]) rfl ?_
      refine r_aload_n hC dL_law_910 rfl (j := 4) rfl ?_
      refine r_callV hC (vs := []) vL_law_911 (sm_thrown (d := d) T_2.1) hb2 rfl rfl (by omega) (by omega) (by omega) (Nat.le_of_ble_eq_true rfl) (fun v_11 w_11 hP_11 hlen_11 => ?_) (fun _ _ h => h.elim)
      rw [hP_11.1, hP_11.2]
      show Wp X (k + 1) (n + 6) w_2 [(7, .int (hSteep f op (xs (4 * q + 1)).toNatClampNeg)), (6, .int 0), (0, .ref 2000000), (1, .ref 0), (2, .ref 89), (3, .ref 100), (4, .ref 101), (5, .int (nI (4 * q)))] [.int 0] 914
      refine r_iload hC dL_law_914 (j := 1) rfl ?_
      refine r_icmp_eq hC dL_law_916 (tgt := 921) (by decide) (fun _ => ?_) (fun h => absurd (by decide) h)
      refine r_iload hC dL_law_921 (j := 1) rfl ?_
      refine r_if_ne hC dL_law_923 (tgt := 938) (by decide) (fun h => absurd (by decide) h) (fun _ => ?_)
      refine r_aload_n hC dL_law_926 rfl (j := 5) rfl ?_
      refine r_iconst hC dL_law_927 (v := 0) (by decide) ?_
      refine r_lald hC dL_law_928 (j := 0) hqo2 ⟨by decide, by decide, by decide⟩ ?_
      rw [hr1]
      refine r_iload hC dL_law_929 (j := 0) rfl ?_
      refine r_i2l hC dL_law_931 rfl ?_
      refine r_lcmp hC dL_law_932 ?_
      rw [cmp_self _]
      refine r_if_eq hC dL_law_933 (tgt := 938) (by decide) (fun _ => ?_) (fun h => absurd (by decide) h)
      refine r_goto hC dL_law_938 (tgt := 2109) (by decide) ?_
      refine r_locals [2, 3, 4, 5, 6, 7] (L' := [(0, .ref 2000000), (1, .ref 0), (2, .ref 89), (3, .ref 100), (4, .ref 101), (5, .int (nI (4 * q)))]) rfl ?_
      exact Wp.wid (by omega) (by omega) (kk w_2 (hlen_2.trans hlen_1) (J9.step Lw.1 (fun z h1 h2 h3 => f1 z h1 h2) ⟨q1, hq1⟩ ⟨qd, (f1 101 (by omega) (by omega)).trans hqd⟩ T_2 (hOK)))
    · exfalso
      first | exact absurd hc hm | exact absurd hm hc | (rw [hc] at hm; cases hm; done) | (rw [hc.1] at hm; cases hm; done) | (rw [hc] at hm; exact absurd hm.1 (by decide)) | (rw [hc.1] at hm; exact absurd hm.1 (by decide)) | exact absurd hm.2 hc.2 | exact absurd hc.2 hm.2 | (have h9 := hm.2; rw [hc.2] at h9; cases h9; done)
  · have f1 : ∀ z, (z < 0 ∨ 0 + 88 < z) → z ≠ 100 → w_1[z]? = w[z]? := Lw.2.2
    have hm1 := hmd.frame (fun z _ _ => f1 z (by omega) (by omega))
    obtain ⟨fs1, hb1⟩ := hm1.ob
    obtain ⟨q1, hq1⟩ := Lw.2.1
    rw [hv_1]
    show Wp X (k + 1) (n + 6) w_1 [(0, .ref 2000000), (1, .ref 0), (2, .ref 89), (3, .ref 100), (4, .ref 101), (5, .int (nI (4 * q)))] [.int 1] 896
    refine r_istore hC dL_law_896 (by rw [hnl]; decide) (L' := [(6, .int 1), (0, .ref 2000000), (1, .ref 0), (2, .ref 89), (3, .ref 100), (4, .ref 101), (5, .int (nI (4 * q)))]) rfl ?_
    refine r_aload_n hC dL_law_898 rfl (j := 3) rfl ?_
    refine r_aload_n hC dL_law_899 rfl (j := 1) rfl ?_
    refine r_iload hC dL_law_900 (j := 6) rfl ?_
    refine r_iconst hC dL_law_902 (v := 1) (by decide) ?_
    refine r_iadd hC dL_law_903 ?_
    rw [show nI (4 * q) + 1 = nI (4 * q + 1) from nI_add (4 * q) 1]
    refine r_ialdX hC dL_law_904 (j := (4 * q + 1)) hX (mIx_nI (by omega) (by omega)) ?_
    
    refine r_callV hC (vs := [.int (xs (4 * q + 1))]) vL_law_905 (sm_steepness (d := d) (c := (xs (4 * q + 1))) hm1 h25 hop) hb1 rfl rfl (by omega) (by omega) (by omega) (Nat.le_of_ble_eq_true rfl) (fun v_2 w_2 hP_2 hlen_2 => ?_) (fun _ _ h => h.elim)
    rcases hP_2 with ⟨hm, hv_2, T_2⟩ | ⟨hm, hv_2, T_2⟩
    · exfalso
      first | exact absurd hc hm | exact absurd hm hc | (rw [hc] at hm; cases hm; done) | (rw [hc.1] at hm; cases hm; done) | (rw [hc] at hm; exact absurd hm.1 (by decide)) | (rw [hc.1] at hm; exact absurd hm.1 (by decide)) | exact absurd hm.2 hc.2 | exact absurd hc.2 hm.2 | (have h9 := hm.2; rw [hc.2] at h9; cases h9; done)
    · have hqo2 := (T_2.2.2 100 (by omega)).trans hq1
      obtain ⟨fs2, hb2⟩ := T_2.1.ob
      rw [hv_2]
      show Wp X (k + 1) (n + 6) w_2 [(6, .int 1), (0, .ref 2000000), (1, .ref 0), (2, .ref 89), (3, .ref 100), (4, .ref 101), (5, .int (nI (4 * q)))] [.int 0] 908
      refine r_istore hC dL_law_908 (by rw [hnl]; decide) (L' := [(7, .int 0), (6, .int 1), (0, .ref 2000000), (1, .ref 0), (2, .ref 89), (3, .ref 100), (4, .ref 101), (5, .int (nI (4 * q)))]) rfl ?_
      refine r_aload_n hC dL_law_910 rfl (j := 4) rfl ?_
      refine r_callV hC (vs := []) vL_law_911 (sm_thrown (d := d) T_2.1) hb2 rfl rfl (by omega) (by omega) (by omega) (Nat.le_of_ble_eq_true rfl) (fun v_11 w_11 hP_11 hlen_11 => ?_) (fun _ _ h => h.elim)
      rw [hP_11.1, hP_11.2]
      show Wp X (k + 1) (n + 6) w_2 [(7, .int 0), (6, .int 1), (0, .ref 2000000), (1, .ref 0), (2, .ref 89), (3, .ref 100), (4, .ref 101), (5, .int (nI (4 * q)))] [.int 1] 914
      refine r_iload hC dL_law_914 (j := 1) rfl ?_
      refine r_icmp_eq hC dL_law_916 (tgt := 921) (by decide) (fun _ => ?_) (fun h => absurd (by decide) h)
      refine r_iload hC dL_law_921 (j := 1) rfl ?_
      refine r_if_ne hC dL_law_923 (tgt := 938) (by decide) (fun _ => ?_) (fun h => absurd h (by decide))
      refine r_goto hC dL_law_938 (tgt := 2109) (by decide) ?_
      refine r_locals [2, 3, 4, 5, 6, 7] (L' := [(0, .ref 2000000), (1, .ref 0), (2, .ref 89), (3, .ref 100), (4, .ref 101), (5, .int (nI (4 * q)))]) rfl ?_
      exact Wp.wid (by omega) (by omega) (kk w_2 (hlen_2.trans hlen_1) (J9.step Lw.1 (fun z h1 h2 h3 => f1 z h1 h2) ⟨q1, hq1⟩ ⟨qd, (f1 101 (by omega) (by omega)).trans hqd⟩ T_2 (hOK)))
set_option maxRecDepth 100000 in
set_option maxHeartbeats 4000000 in
theorem op_15 {X : mC} {d q mc ms k n : Nat} {w : mW} {N : Nat} {xs : Nat → Int32} {th : Int32} {f g : Nat → Int32} {sl op lo : Int32} {hd rs : Nat → Int32} {np : Nat} {tp av lg pl tk : Int32} {l : List sv} {ea fa : Int32} {so : Option sv} {txl lnl : List Nat} {tx : Nat → Int32} {tn : Nat} {lf : Nat → Int32} {ln : Nat} (hX : mScr X N xs) (J : JI w th ((f, g, sl, op, lo), hd, rs, np, tp, av, lg, pl, tk) l ea fa so txl lnl tx tn lf ln) (hC : Cx X RL cL_law (d + 12) mc ms) (hnl : mNL X = 9) (hq : 4 * q + 4 ≤ N) (hN : N ≤ 2048) (hk : k + 25 ≤ mc) (hn : n + 3100 ≤ ms) (kk : ∀ w', w'.length = w.length → JV w' → Wp X (k + 25) (n + 3100) w' [(0, .ref 2000000), (1, .ref 0), (2, .ref 89), (3, .ref 100), (4, .ref 101), (5, .int (nI (4 * q)))] [] 2109)  : Wp X k n w [(0, .ref 2000000), (1, .ref 0), (2, .ref 89), (3, .ref 100), (4, .ref 101), (5, .int (nI (4 * q)))] [] 941 := by
  have J9 := J
  obtain ⟨hct, hmd, ⟨qo, hqo⟩, ⟨qd, hqd⟩, hOK⟩ := J
  have hI : SInv ((f, g, sl, op, lo), hd, rs, np, tp, av, lg, pl, tk) := hOK.2.2.1
  have hnp : np ≤ 4 := hI.2.2
  have h25 : f 25 = 0 := hI.1.2.1
  have hop : op = 0 ∨ op = 1 := hI.1.2.2.1
  have hpos : ∀ j, j < 25 → ¬ f j < 0 := hI.1.1.1
  have hlg : ¬ lg < 0 := hI.2.1
  have hea := hOK.2.2.2.2.2.2.2.2.1
  have hfa := hOK.2.2.2.2.2.2.2.2.2
  obtain ⟨fc0, hc0⟩ := hct.ob
  obtain ⟨fm0, hm0⟩ := hmd.ob
  refine r_aload_n hC dL_law_941 rfl (j := 1) rfl ?_
  refine r_aload_n hC dL_law_942 rfl (j := 0) rfl ?_
  refine r_iload hC dL_law_943 (j := 5) rfl ?_
  refine r_iconst hC dL_law_945 (v := 1) (by decide) ?_
  refine r_iadd hC dL_law_946 ?_
  rw [show nI (4 * q) + 1 = nI (4 * q + 1) from nI_add (4 * q) 1]
  refine r_ialdX hC dL_law_947 (j := (4 * q + 1)) hX (mIx_nI (by omega) (by omega)) ?_
  refine r_aload_n hC dL_law_948 rfl (j := 3) rfl ?_
  
  refine r_callH hC (vs := [.ref 0, .int (xs (4 * q + 1)), .ref 100]) wL_law_949 (lw_lowestNeighbour (d := d) (c := (xs (4 * q + 1))) hct hqo (Or.inr (by decide)) ) rfl (by omega) (by omega) (by omega) (Nat.le_of_ble_eq_true rfl) (fun v_1 w_1 hP_1 hlen_1 => ?_)
  rcases hP_1 with ⟨hc, hv_1, Lw⟩ | ⟨hc, hv_1, Lw⟩
  · have f1 : ∀ z, (z < 0 ∨ 0 + 88 < z) → z ≠ 100 → w_1[z]? = w[z]? := Lw.2.2
    have hm1 := hmd.frame (fun z _ _ => f1 z (by omega) (by omega))
    obtain ⟨fs1, hb1⟩ := hm1.ob
    obtain ⟨q1, hq1, hr1⟩ := Lw.2.1
    rw [hv_1]
    show Wp X (k + 1) (n + 6) w_1 [(0, .ref 2000000), (1, .ref 0), (2, .ref 89), (3, .ref 100), (4, .ref 101), (5, .int (nI (4 * q)))] [.int 0] 952
    refine r_istore hC dL_law_952 (by rw [hnl]; decide) (L' := [(6, .int 0), (0, .ref 2000000), (1, .ref 0), (2, .ref 89), (3, .ref 100), (4, .ref 101), (5, .int (nI (4 * q)))]) rfl ?_
    refine r_aload_n hC dL_law_954 rfl (j := 3) rfl ?_
    refine r_aload_n hC dL_law_955 rfl (j := 1) rfl ?_
    refine r_iload hC dL_law_956 (j := 6) rfl ?_
    refine r_iconst hC dL_law_958 (v := 1) (by decide) ?_
    refine r_iadd hC dL_law_959 ?_
    rw [show nI (4 * q) + 1 = nI (4 * q + 1) from nI_add (4 * q) 1]
    refine r_ialdX hC dL_law_960 (j := (4 * q + 1)) hX (mIx_nI (by omega) (by omega)) ?_
    
    refine r_callV hC (vs := [.int (xs (4 * q + 1))]) vL_law_961 (sm_lowestNeighbour (d := d) (c := (xs (4 * q + 1))) hm1 h25 hop) hb1 rfl rfl (by omega) (by omega) (by omega) (Nat.le_of_ble_eq_true rfl) (fun v_2 w_2 hP_2 hlen_2 => ?_) (fun _ _ h => h.elim)
    rcases hP_2 with ⟨hm, hv_2, T_2⟩ | ⟨hm, hv_2, T_2⟩
    · have hqo2 := (T_2.2.2 100 (by omega)).trans hq1
      obtain ⟨fs2, hb2⟩ := T_2.1.ob
      rw [hv_2]
      show Wp X (k + 1) (n + 6) w_2 [(6, .int 0), (0, .ref 2000000), (1, .ref 0), (2, .ref 89), (3, .ref 100), (4, .ref 101), (5, .int (nI (4 * q)))] [.int (nI (hLow f op (xs (4 * q + 1)).toNatClampNeg))] 964
      refine r_istore hC dL_law_964 (by rw [hnl]; decide) (L' := [(7, .int (nI (hLow f op (xs (4 * q + 1)).toNatClampNeg))), (6, .int 0), (0, .ref 2000000), (1, .ref 0), (2, .ref 89), (3, .ref 100), (4, .ref 101), (5, .int (nI (4 * q)))]) rfl ?_
      refine r_aload_n hC dL_law_966 rfl (j := 4) rfl ?_
      refine r_callV hC (vs := []) vL_law_967 (sm_thrown (d := d) T_2.1) hb2 rfl rfl (by omega) (by omega) (by omega) (Nat.le_of_ble_eq_true rfl) (fun v_11 w_11 hP_11 hlen_11 => ?_) (fun _ _ h => h.elim)
      rw [hP_11.1, hP_11.2]
      show Wp X (k + 1) (n + 6) w_2 [(7, .int (nI (hLow f op (xs (4 * q + 1)).toNatClampNeg))), (6, .int 0), (0, .ref 2000000), (1, .ref 0), (2, .ref 89), (3, .ref 100), (4, .ref 101), (5, .int (nI (4 * q)))] [.int 0] 970
      refine r_iload hC dL_law_970 (j := 1) rfl ?_
      refine r_icmp_eq hC dL_law_972 (tgt := 977) (by decide) (fun _ => ?_) (fun h => absurd (by decide) h)
      refine r_iload hC dL_law_977 (j := 1) rfl ?_
      refine r_if_ne hC dL_law_979 (tgt := 994) (by decide) (fun h => absurd (by decide) h) (fun _ => ?_)
      refine r_aload_n hC dL_law_982 rfl (j := 5) rfl ?_
      refine r_iconst hC dL_law_983 (v := 0) (by decide) ?_
      refine r_lald hC dL_law_984 (j := 0) hqo2 ⟨by decide, by decide, by decide⟩ ?_
      rw [hr1]
      refine r_iload hC dL_law_985 (j := 0) rfl ?_
      refine r_i2l hC dL_law_987 rfl ?_
      refine r_lcmp hC dL_law_988 ?_
      rw [cmp_self _]
      refine r_if_eq hC dL_law_989 (tgt := 994) (by decide) (fun _ => ?_) (fun h => absurd (by decide) h)
      refine r_goto hC dL_law_994 (tgt := 2109) (by decide) ?_
      refine r_locals [2, 3, 4, 5, 6, 7] (L' := [(0, .ref 2000000), (1, .ref 0), (2, .ref 89), (3, .ref 100), (4, .ref 101), (5, .int (nI (4 * q)))]) rfl ?_
      exact Wp.wid (by omega) (by omega) (kk w_2 (hlen_2.trans hlen_1) (J9.step Lw.1 (fun z h1 h2 h3 => f1 z h1 h2) ⟨q1, hq1⟩ ⟨qd, (f1 101 (by omega) (by omega)).trans hqd⟩ T_2 (hOK)))
    · exfalso
      first | exact absurd hc hm | exact absurd hm hc | (rw [hc] at hm; cases hm; done) | (rw [hc.1] at hm; cases hm; done) | (rw [hc] at hm; exact absurd hm.1 (by decide)) | (rw [hc.1] at hm; exact absurd hm.1 (by decide)) | exact absurd hm.2 hc.2 | exact absurd hc.2 hm.2 | (have h9 := hm.2; rw [hc.2] at h9; cases h9; done)
  · have f1 : ∀ z, (z < 0 ∨ 0 + 88 < z) → z ≠ 100 → w_1[z]? = w[z]? := Lw.2.2
    have hm1 := hmd.frame (fun z _ _ => f1 z (by omega) (by omega))
    obtain ⟨fs1, hb1⟩ := hm1.ob
    obtain ⟨q1, hq1⟩ := Lw.2.1
    rw [hv_1]
    show Wp X (k + 1) (n + 6) w_1 [(0, .ref 2000000), (1, .ref 0), (2, .ref 89), (3, .ref 100), (4, .ref 101), (5, .int (nI (4 * q)))] [.int 1] 952
    refine r_istore hC dL_law_952 (by rw [hnl]; decide) (L' := [(6, .int 1), (0, .ref 2000000), (1, .ref 0), (2, .ref 89), (3, .ref 100), (4, .ref 101), (5, .int (nI (4 * q)))]) rfl ?_
    refine r_aload_n hC dL_law_954 rfl (j := 3) rfl ?_
    refine r_aload_n hC dL_law_955 rfl (j := 1) rfl ?_
    refine r_iload hC dL_law_956 (j := 6) rfl ?_
    refine r_iconst hC dL_law_958 (v := 1) (by decide) ?_
    refine r_iadd hC dL_law_959 ?_
    rw [show nI (4 * q) + 1 = nI (4 * q + 1) from nI_add (4 * q) 1]
    refine r_ialdX hC dL_law_960 (j := (4 * q + 1)) hX (mIx_nI (by omega) (by omega)) ?_
    
    refine r_callV hC (vs := [.int (xs (4 * q + 1))]) vL_law_961 (sm_lowestNeighbour (d := d) (c := (xs (4 * q + 1))) hm1 h25 hop) hb1 rfl rfl (by omega) (by omega) (by omega) (Nat.le_of_ble_eq_true rfl) (fun v_2 w_2 hP_2 hlen_2 => ?_) (fun _ _ h => h.elim)
    rcases hP_2 with ⟨hm, hv_2, T_2⟩ | ⟨hm, hv_2, T_2⟩
    · exfalso
      first | exact absurd hc hm | exact absurd hm hc | (rw [hc] at hm; cases hm; done) | (rw [hc.1] at hm; cases hm; done) | (rw [hc] at hm; exact absurd hm.1 (by decide)) | (rw [hc.1] at hm; exact absurd hm.1 (by decide)) | exact absurd hm.2 hc.2 | exact absurd hc.2 hm.2 | (have h9 := hm.2; rw [hc.2] at h9; cases h9; done)
    · have hqo2 := (T_2.2.2 100 (by omega)).trans hq1
      obtain ⟨fs2, hb2⟩ := T_2.1.ob
      rw [hv_2]
      show Wp X (k + 1) (n + 6) w_2 [(6, .int 1), (0, .ref 2000000), (1, .ref 0), (2, .ref 89), (3, .ref 100), (4, .ref 101), (5, .int (nI (4 * q)))] [.int 0] 964
      refine r_istore hC dL_law_964 (by rw [hnl]; decide) (L' := [(7, .int 0), (6, .int 1), (0, .ref 2000000), (1, .ref 0), (2, .ref 89), (3, .ref 100), (4, .ref 101), (5, .int (nI (4 * q)))]) rfl ?_
      refine r_aload_n hC dL_law_966 rfl (j := 4) rfl ?_
      refine r_callV hC (vs := []) vL_law_967 (sm_thrown (d := d) T_2.1) hb2 rfl rfl (by omega) (by omega) (by omega) (Nat.le_of_ble_eq_true rfl) (fun v_11 w_11 hP_11 hlen_11 => ?_) (fun _ _ h => h.elim)
      rw [hP_11.1, hP_11.2]
      show Wp X (k + 1) (n + 6) w_2 [(7, .int 0), (6, .int 1), (0, .ref 2000000), (1, .ref 0), (2, .ref 89), (3, .ref 100), (4, .ref 101), (5, .int (nI (4 * q)))] [.int 1] 970
      refine r_iload hC dL_law_970 (j := 1) rfl ?_
      refine r_icmp_eq hC dL_law_972 (tgt := 977) (by decide) (fun _ => ?_) (fun h => absurd (by decide) h)
      refine r_iload hC dL_law_977 (j := 1) rfl ?_
      refine r_if_ne hC dL_law_979 (tgt := 994) (by decide) (fun _ => ?_) (fun h => absurd h (by decide))
      refine r_goto hC dL_law_994 (tgt := 2109) (by decide) ?_
      refine r_locals [2, 3, 4, 5, 6, 7] (L' := [(0, .ref 2000000), (1, .ref 0), (2, .ref 89), (3, .ref 100), (4, .ref 101), (5, .int (nI (4 * q)))]) rfl ?_
      exact Wp.wid (by omega) (by omega) (kk w_2 (hlen_2.trans hlen_1) (J9.step Lw.1 (fun z h1 h2 h3 => f1 z h1 h2) ⟨q1, hq1⟩ ⟨qd, (f1 101 (by omega) (by omega)).trans hqd⟩ T_2 (hOK)))
set_option maxRecDepth 100000 in
set_option maxHeartbeats 4000000 in
theorem op_24 {X : mC} {d q mc ms k n : Nat} {w : mW} {N : Nat} {xs : Nat → Int32} {th : Int32} {f g : Nat → Int32} {sl op lo : Int32} {hd rs : Nat → Int32} {np : Nat} {tp av lg pl tk : Int32} {l : List sv} {ea fa : Int32} {so : Option sv} {txl lnl : List Nat} {tx : Nat → Int32} {tn : Nat} {lf : Nat → Int32} {ln : Nat} (hX : mScr X N xs) (J : JI w th ((f, g, sl, op, lo), hd, rs, np, tp, av, lg, pl, tk) l ea fa so txl lnl tx tn lf ln) (hC : Cx X RL cL_law (d + 12) mc ms) (hnl : mNL X = 9) (hq : 4 * q + 4 ≤ N) (hN : N ≤ 2048) (hk : k + 25 ≤ mc) (hn : n + 3100 ≤ ms) (kk : ∀ w', w'.length = w.length → JV w' → Wp X (k + 25) (n + 3100) w' [(0, .ref 2000000), (1, .ref 0), (2, .ref 89), (3, .ref 100), (4, .ref 101), (5, .int (nI (4 * q)))] [] 2109)  : Wp X k n w [(0, .ref 2000000), (1, .ref 0), (2, .ref 89), (3, .ref 100), (4, .ref 101), (5, .int (nI (4 * q)))] [] 1304 := by
  have J9 := J
  obtain ⟨hct, hmd, ⟨qo, hqo⟩, ⟨qd, hqd⟩, hOK⟩ := J
  have hI : SInv ((f, g, sl, op, lo), hd, rs, np, tp, av, lg, pl, tk) := hOK.2.2.1
  have hnp : np ≤ 4 := hI.2.2
  have h25 : f 25 = 0 := hI.1.2.1
  have hop : op = 0 ∨ op = 1 := hI.1.2.2.1
  have hpos : ∀ j, j < 25 → ¬ f j < 0 := hI.1.1.1
  have hlg : ¬ lg < 0 := hI.2.1
  have hea := hOK.2.2.2.2.2.2.2.2.1
  have hfa := hOK.2.2.2.2.2.2.2.2.2
  obtain ⟨fc0, hc0⟩ := hct.ob
  obtain ⟨fm0, hm0⟩ := hmd.ob
  refine r_aload_n hC dL_law_1304 rfl (j := 1) rfl ?_
  refine r_aload_n hC dL_law_1305 rfl (j := 0) rfl ?_
  refine r_iload hC dL_law_1306 (j := 5) rfl ?_
  refine r_iconst hC dL_law_1308 (v := 1) (by decide) ?_
  refine r_iadd hC dL_law_1309 ?_
  rw [show nI (4 * q) + 1 = nI (4 * q + 1) from nI_add (4 * q) 1]
  refine r_ialdX hC dL_law_1310 (j := (4 * q + 1)) hX (mIx_nI (by omega) (by omega)) ?_
  refine r_aload_n hC dL_law_1311 rfl (j := 3) rfl ?_
  
  refine r_callH hC (vs := [.ref 0, .int (xs (4 * q + 1)), .ref 100]) wL_law_1312 (lw_crowns (d := d) (p := (xs (4 * q + 1))) hct hqo (Or.inr (by decide)) hnp) rfl (by omega) (by omega) (by omega) (Nat.le_of_ble_eq_true rfl) (fun v_1 w_1 hP_1 hlen_1 => ?_)
  rcases hP_1 with ⟨hc, hv_1, Lw⟩ | ⟨hc, hv_1, Lw⟩
  · have f1 : ∀ z, (z < 0 ∨ 0 + 88 < z) → z ≠ 100 → w_1[z]? = w[z]? := Lw.2.2
    have hm1 := hmd.frame (fun z _ _ => f1 z (by omega) (by omega))
    obtain ⟨fs1, hb1⟩ := hm1.ob
    obtain ⟨q1, hq1, hr1⟩ := Lw.2.1
    rw [hv_1]
    show Wp X (k + 1) (n + 6) w_1 [(0, .ref 2000000), (1, .ref 0), (2, .ref 89), (3, .ref 100), (4, .ref 101), (5, .int (nI (4 * q)))] [.int 0] 1315
    refine r_istore hC dL_law_1315 (by rw [hnl]; decide) (L' := [(6, .int 0), (0, .ref 2000000), (1, .ref 0), (2, .ref 89), (3, .ref 100), (4, .ref 101), (5, .int (nI (4 * q)))]) rfl ?_
    refine r_aload_n hC dL_law_1317 rfl (j := 3) rfl ?_
    refine r_aload_n hC dL_law_1318 rfl (j := 1) rfl ?_
    refine r_iload hC dL_law_1319 (j := 6) rfl ?_
    refine r_iconst hC dL_law_1321 (v := 1) (by decide) ?_
    refine r_iadd hC dL_law_1322 ?_
    rw [show nI (4 * q) + 1 = nI (4 * q + 1) from nI_add (4 * q) 1]
    refine r_ialdX hC dL_law_1323 (j := (4 * q + 1)) hX (mIx_nI (by omega) (by omega)) ?_
    
    refine r_callV hC (vs := [.int (xs (4 * q + 1))]) vL_law_1324 (sm_crowns (d := d) (q := (xs (4 * q + 1))) hm1 hnp h25 hpos) hb1 rfl rfl (by omega) (by omega) (by omega) (Nat.le_of_ble_eq_true rfl) (fun v_2 w_2 hP_2 hlen_2 => ?_) (fun _ _ h => h.elim)
    rcases hP_2 with ⟨hm, hv_2, T_2⟩ | ⟨hm, hv_2, T_2⟩
    · have hqo2 := (T_2.2.2 100 (by omega)).trans hq1
      obtain ⟨fs2, hb2⟩ := T_2.1.ob
      rw [hv_2]
      show Wp X (k + 1) (n + 6) w_2 [(6, .int 0), (0, .ref 2000000), (1, .ref 0), (2, .ref 89), (3, .ref 100), (4, .ref 101), (5, .int (nI (4 * q)))] [.int (hCnt (hOwnP f g (xs (4 * q + 1))) 25)] 1327
      refine r_istore hC dL_law_1327 (by rw [hnl]; decide) (L' := [(7, .int (hCnt (hOwnP f g (xs (4 * q + 1))) 25)), (6, .int 0), (0, .ref 2000000), (1, .ref 0), (2, .ref 89), (3, .ref 100), (4, .ref 101), (5, .int (nI (4 * q)))]) rfl ?_
      refine r_aload_n hC dL_law_1329 rfl (j := 4) rfl ?_
      refine r_callV hC (vs := []) vL_law_1330 (sm_thrown (d := d) T_2.1) hb2 rfl rfl (by omega) (by omega) (by omega) (Nat.le_of_ble_eq_true rfl) (fun v_11 w_11 hP_11 hlen_11 => ?_) (fun _ _ h => h.elim)
      rw [hP_11.1, hP_11.2]
      show Wp X (k + 1) (n + 6) w_2 [(7, .int (hCnt (hOwnP f g (xs (4 * q + 1))) 25)), (6, .int 0), (0, .ref 2000000), (1, .ref 0), (2, .ref 89), (3, .ref 100), (4, .ref 101), (5, .int (nI (4 * q)))] [.int 0] 1333
      refine r_iload hC dL_law_1333 (j := 1) rfl ?_
      refine r_icmp_eq hC dL_law_1335 (tgt := 1340) (by decide) (fun _ => ?_) (fun h => absurd (by decide) h)
      refine r_iload hC dL_law_1340 (j := 1) rfl ?_
      refine r_if_ne hC dL_law_1342 (tgt := 1357) (by decide) (fun h => absurd (by decide) h) (fun _ => ?_)
      refine r_aload_n hC dL_law_1345 rfl (j := 5) rfl ?_
      refine r_iconst hC dL_law_1346 (v := 0) (by decide) ?_
      refine r_lald hC dL_law_1347 (j := 0) hqo2 ⟨by decide, by decide, by decide⟩ ?_
      rw [hr1]
      refine r_iload hC dL_law_1348 (j := 0) rfl ?_
      refine r_i2l hC dL_law_1350 rfl ?_
      refine r_lcmp hC dL_law_1351 ?_
      rw [cmp_self _]
      refine r_if_eq hC dL_law_1352 (tgt := 1357) (by decide) (fun _ => ?_) (fun h => absurd (by decide) h)
      refine r_goto hC dL_law_1357 (tgt := 2109) (by decide) ?_
      refine r_locals [2, 3, 4, 5, 6, 7] (L' := [(0, .ref 2000000), (1, .ref 0), (2, .ref 89), (3, .ref 100), (4, .ref 101), (5, .int (nI (4 * q)))]) rfl ?_
      exact Wp.wid (by omega) (by omega) (kk w_2 (hlen_2.trans hlen_1) (J9.step Lw.1 (fun z h1 h2 h3 => f1 z h1 h2) ⟨q1, hq1⟩ ⟨qd, (f1 101 (by omega) (by omega)).trans hqd⟩ T_2 (hOK)))
    · exfalso
      first | exact absurd hc hm | exact absurd hm hc | (rw [hc] at hm; cases hm; done) | (rw [hc.1] at hm; cases hm; done) | (rw [hc] at hm; exact absurd hm.1 (by decide)) | (rw [hc.1] at hm; exact absurd hm.1 (by decide)) | exact absurd hm.2 hc.2 | exact absurd hc.2 hm.2 | (have h9 := hm.2; rw [hc.2] at h9; cases h9; done)
  · have f1 : ∀ z, (z < 0 ∨ 0 + 88 < z) → z ≠ 100 → w_1[z]? = w[z]? := Lw.2.2
    have hm1 := hmd.frame (fun z _ _ => f1 z (by omega) (by omega))
    obtain ⟨fs1, hb1⟩ := hm1.ob
    obtain ⟨q1, hq1⟩ := Lw.2.1
    rw [hv_1]
    show Wp X (k + 1) (n + 6) w_1 [(0, .ref 2000000), (1, .ref 0), (2, .ref 89), (3, .ref 100), (4, .ref 101), (5, .int (nI (4 * q)))] [.int 1] 1315
    refine r_istore hC dL_law_1315 (by rw [hnl]; decide) (L' := [(6, .int 1), (0, .ref 2000000), (1, .ref 0), (2, .ref 89), (3, .ref 100), (4, .ref 101), (5, .int (nI (4 * q)))]) rfl ?_
    refine r_aload_n hC dL_law_1317 rfl (j := 3) rfl ?_
    refine r_aload_n hC dL_law_1318 rfl (j := 1) rfl ?_
    refine r_iload hC dL_law_1319 (j := 6) rfl ?_
    refine r_iconst hC dL_law_1321 (v := 1) (by decide) ?_
    refine r_iadd hC dL_law_1322 ?_
    rw [show nI (4 * q) + 1 = nI (4 * q + 1) from nI_add (4 * q) 1]
    refine r_ialdX hC dL_law_1323 (j := (4 * q + 1)) hX (mIx_nI (by omega) (by omega)) ?_
    
    refine r_callV hC (vs := [.int (xs (4 * q + 1))]) vL_law_1324 (sm_crowns (d := d) (q := (xs (4 * q + 1))) hm1 hnp h25 hpos) hb1 rfl rfl (by omega) (by omega) (by omega) (Nat.le_of_ble_eq_true rfl) (fun v_2 w_2 hP_2 hlen_2 => ?_) (fun _ _ h => h.elim)
    rcases hP_2 with ⟨hm, hv_2, T_2⟩ | ⟨hm, hv_2, T_2⟩
    · exfalso
      first | exact absurd hc hm | exact absurd hm hc | (rw [hc] at hm; cases hm; done) | (rw [hc.1] at hm; cases hm; done) | (rw [hc] at hm; exact absurd hm.1 (by decide)) | (rw [hc.1] at hm; exact absurd hm.1 (by decide)) | exact absurd hm.2 hc.2 | exact absurd hc.2 hm.2 | (have h9 := hm.2; rw [hc.2] at h9; cases h9; done)
    · have hqo2 := (T_2.2.2 100 (by omega)).trans hq1
      obtain ⟨fs2, hb2⟩ := T_2.1.ob
      rw [hv_2]
      show Wp X (k + 1) (n + 6) w_2 [(6, .int 1), (0, .ref 2000000), (1, .ref 0), (2, .ref 89), (3, .ref 100), (4, .ref 101), (5, .int (nI (4 * q)))] [.int 0] 1327
      refine r_istore hC dL_law_1327 (by rw [hnl]; decide) (L' := [(7, .int 0), (6, .int 1), (0, .ref 2000000), (1, .ref 0), (2, .ref 89), (3, .ref 100), (4, .ref 101), (5, .int (nI (4 * q)))]) rfl ?_
      refine r_aload_n hC dL_law_1329 rfl (j := 4) rfl ?_
      refine r_callV hC (vs := []) vL_law_1330 (sm_thrown (d := d) T_2.1) hb2 rfl rfl (by omega) (by omega) (by omega) (Nat.le_of_ble_eq_true rfl) (fun v_11 w_11 hP_11 hlen_11 => ?_) (fun _ _ h => h.elim)
      rw [hP_11.1, hP_11.2]
      show Wp X (k + 1) (n + 6) w_2 [(7, .int 0), (6, .int 1), (0, .ref 2000000), (1, .ref 0), (2, .ref 89), (3, .ref 100), (4, .ref 101), (5, .int (nI (4 * q)))] [.int 1] 1333
      refine r_iload hC dL_law_1333 (j := 1) rfl ?_
      refine r_icmp_eq hC dL_law_1335 (tgt := 1340) (by decide) (fun _ => ?_) (fun h => absurd (by decide) h)
      refine r_iload hC dL_law_1340 (j := 1) rfl ?_
      refine r_if_ne hC dL_law_1342 (tgt := 1357) (by decide) (fun _ => ?_) (fun h => absurd h (by decide))
      refine r_goto hC dL_law_1357 (tgt := 2109) (by decide) ?_
      refine r_locals [2, 3, 4, 5, 6, 7] (L' := [(0, .ref 2000000), (1, .ref 0), (2, .ref 89), (3, .ref 100), (4, .ref 101), (5, .int (nI (4 * q)))]) rfl ?_
      exact Wp.wid (by omega) (by omega) (kk w_2 (hlen_2.trans hlen_1) (J9.step Lw.1 (fun z h1 h2 h3 => f1 z h1 h2) ⟨q1, hq1⟩ ⟨qd, (f1 101 (by omega) (by omega)).trans hqd⟩ T_2 (hOK)))
set_option maxRecDepth 100000 in
set_option maxHeartbeats 4000000 in
theorem op_25 {X : mC} {d q mc ms k n : Nat} {w : mW} {N : Nat} {xs : Nat → Int32} {th : Int32} {f g : Nat → Int32} {sl op lo : Int32} {hd rs : Nat → Int32} {np : Nat} {tp av lg pl tk : Int32} {l : List sv} {ea fa : Int32} {so : Option sv} {txl lnl : List Nat} {tx : Nat → Int32} {tn : Nat} {lf : Nat → Int32} {ln : Nat} (hX : mScr X N xs) (J : JI w th ((f, g, sl, op, lo), hd, rs, np, tp, av, lg, pl, tk) l ea fa so txl lnl tx tn lf ln) (hC : Cx X RL cL_law (d + 12) mc ms) (hnl : mNL X = 9) (hq : 4 * q + 4 ≤ N) (hN : N ≤ 2048) (hk : k + 25 ≤ mc) (hn : n + 3100 ≤ ms) (kk : ∀ w', w'.length = w.length → JV w' → Wp X (k + 25) (n + 3100) w' [(0, .ref 2000000), (1, .ref 0), (2, .ref 89), (3, .ref 100), (4, .ref 101), (5, .int (nI (4 * q)))] [] 2109)  : Wp X k n w [(0, .ref 2000000), (1, .ref 0), (2, .ref 89), (3, .ref 100), (4, .ref 101), (5, .int (nI (4 * q)))] [] 1360 := by
  have J9 := J
  obtain ⟨hct, hmd, ⟨qo, hqo⟩, ⟨qd, hqd⟩, hOK⟩ := J
  have hI : SInv ((f, g, sl, op, lo), hd, rs, np, tp, av, lg, pl, tk) := hOK.2.2.1
  have hnp : np ≤ 4 := hI.2.2
  have h25 : f 25 = 0 := hI.1.2.1
  have hop : op = 0 ∨ op = 1 := hI.1.2.2.1
  have hpos : ∀ j, j < 25 → ¬ f j < 0 := hI.1.1.1
  have hlg : ¬ lg < 0 := hI.2.1
  have hea := hOK.2.2.2.2.2.2.2.2.1
  have hfa := hOK.2.2.2.2.2.2.2.2.2
  obtain ⟨fc0, hc0⟩ := hct.ob
  obtain ⟨fm0, hm0⟩ := hmd.ob
  refine r_aload_n hC dL_law_1360 rfl (j := 1) rfl ?_
  refine r_aload_n hC dL_law_1361 rfl (j := 0) rfl ?_
  refine r_iload hC dL_law_1362 (j := 5) rfl ?_
  refine r_iconst hC dL_law_1364 (v := 1) (by decide) ?_
  refine r_iadd hC dL_law_1365 ?_
  rw [show nI (4 * q) + 1 = nI (4 * q + 1) from nI_add (4 * q) 1]
  refine r_ialdX hC dL_law_1366 (j := (4 * q + 1)) hX (mIx_nI (by omega) (by omega)) ?_
  refine r_aload_n hC dL_law_1367 rfl (j := 3) rfl ?_
  
  refine r_callH hC (vs := [.ref 0, .int (xs (4 * q + 1)), .ref 100]) wL_law_1368 (lw_score (d := d) (p := (xs (4 * q + 1))) hct hqo (Or.inr (by decide)) hnp) rfl (by omega) (by omega) (by omega) (Nat.le_of_ble_eq_true rfl) (fun v_1 w_1 hP_1 hlen_1 => ?_)
  rcases hP_1 with ⟨hc, hv_1, Lw⟩ | ⟨hc, hv_1, Lw⟩
  · have f1 : ∀ z, (z < 0 ∨ 0 + 88 < z) → z ≠ 100 → w_1[z]? = w[z]? := Lw.2.2
    have hm1 := hmd.frame (fun z _ _ => f1 z (by omega) (by omega))
    obtain ⟨fs1, hb1⟩ := hm1.ob
    obtain ⟨q1, hq1, hr1⟩ := Lw.2.1
    rw [hv_1]
    show Wp X (k + 1) (n + 6) w_1 [(0, .ref 2000000), (1, .ref 0), (2, .ref 89), (3, .ref 100), (4, .ref 101), (5, .int (nI (4 * q)))] [.int 0] 1371
    refine r_istore hC dL_law_1371 (by rw [hnl]; decide) (L' := [(6, .int 0), (0, .ref 2000000), (1, .ref 0), (2, .ref 89), (3, .ref 100), (4, .ref 101), (5, .int (nI (4 * q)))]) rfl ?_
    refine r_aload_n hC dL_law_1373 rfl (j := 3) rfl ?_
    refine r_aload_n hC dL_law_1374 rfl (j := 1) rfl ?_
    refine r_iload hC dL_law_1375 (j := 6) rfl ?_
    refine r_iconst hC dL_law_1377 (v := 1) (by decide) ?_
    refine r_iadd hC dL_law_1378 ?_
    rw [show nI (4 * q) + 1 = nI (4 * q + 1) from nI_add (4 * q) 1]
    refine r_ialdX hC dL_law_1379 (j := (4 * q + 1)) hX (mIx_nI (by omega) (by omega)) ?_
    
    refine r_callV hC (vs := [.int (xs (4 * q + 1))]) vL_law_1380 (sm_score (d := d) (q := (xs (4 * q + 1))) hm1 hnp h25 hpos) hb1 rfl rfl (by omega) (by omega) (by omega) (Nat.le_of_ble_eq_true rfl) (fun v_2 w_2 hP_2 hlen_2 => ?_) (fun _ _ h => h.elim)
    rcases hP_2 with ⟨hm, hv_2, T_2⟩ | ⟨hm, hv_2, T_2⟩
    · have hqo2 := (T_2.2.2 100 (by omega)).trans hq1
      obtain ⟨fs2, hb2⟩ := T_2.1.ob
      rw [hv_2]
      show Wp X (k + 1) (n + 6) w_2 [(6, .int 0), (0, .ref 2000000), (1, .ref 0), (2, .ref 89), (3, .ref 100), (4, .ref 101), (5, .int (nI (4 * q)))] [.int (hSumIf (hOwnP f g (xs (4 * q + 1))) f 25)] 1383
      refine r_istore hC dL_law_1383 (by rw [hnl]; decide) (L' := [(7, .int (hSumIf (hOwnP f g (xs (4 * q + 1))) f 25)), (6, .int 0), (0, .ref 2000000), (1, .ref 0), (2, .ref 89), (3, .ref 100), (4, .ref 101), (5, .int (nI (4 * q)))]) rfl ?_
      refine r_aload_n hC dL_law_1385 rfl (j := 4) rfl ?_
      refine r_callV hC (vs := []) vL_law_1386 (sm_thrown (d := d) T_2.1) hb2 rfl rfl (by omega) (by omega) (by omega) (Nat.le_of_ble_eq_true rfl) (fun v_11 w_11 hP_11 hlen_11 => ?_) (fun _ _ h => h.elim)
      rw [hP_11.1, hP_11.2]
      show Wp X (k + 1) (n + 6) w_2 [(7, .int (hSumIf (hOwnP f g (xs (4 * q + 1))) f 25)), (6, .int 0), (0, .ref 2000000), (1, .ref 0), (2, .ref 89), (3, .ref 100), (4, .ref 101), (5, .int (nI (4 * q)))] [.int 0] 1389
      refine r_iload hC dL_law_1389 (j := 1) rfl ?_
      refine r_icmp_eq hC dL_law_1391 (tgt := 1396) (by decide) (fun _ => ?_) (fun h => absurd (by decide) h)
      refine r_iload hC dL_law_1396 (j := 1) rfl ?_
      refine r_if_ne hC dL_law_1398 (tgt := 1413) (by decide) (fun h => absurd (by decide) h) (fun _ => ?_)
      refine r_aload_n hC dL_law_1401 rfl (j := 5) rfl ?_
      refine r_iconst hC dL_law_1402 (v := 0) (by decide) ?_
      refine r_lald hC dL_law_1403 (j := 0) hqo2 ⟨by decide, by decide, by decide⟩ ?_
      rw [hr1]
      refine r_iload hC dL_law_1404 (j := 0) rfl ?_
      refine r_i2l hC dL_law_1406 rfl ?_
      refine r_lcmp hC dL_law_1407 ?_
      rw [cmp_self _]
      refine r_if_eq hC dL_law_1408 (tgt := 1413) (by decide) (fun _ => ?_) (fun h => absurd (by decide) h)
      refine r_goto hC dL_law_1413 (tgt := 2109) (by decide) ?_
      refine r_locals [2, 3, 4, 5, 6, 7] (L' := [(0, .ref 2000000), (1, .ref 0), (2, .ref 89), (3, .ref 100), (4, .ref 101), (5, .int (nI (4 * q)))]) rfl ?_
      exact Wp.wid (by omega) (by omega) (kk w_2 (hlen_2.trans hlen_1) (J9.step Lw.1 (fun z h1 h2 h3 => f1 z h1 h2) ⟨q1, hq1⟩ ⟨qd, (f1 101 (by omega) (by omega)).trans hqd⟩ T_2 (hOK)))
    · exfalso
      first | exact absurd hc hm | exact absurd hm hc | (rw [hc] at hm; cases hm; done) | (rw [hc.1] at hm; cases hm; done) | (rw [hc] at hm; exact absurd hm.1 (by decide)) | (rw [hc.1] at hm; exact absurd hm.1 (by decide)) | exact absurd hm.2 hc.2 | exact absurd hc.2 hm.2 | (have h9 := hm.2; rw [hc.2] at h9; cases h9; done)
  · have f1 : ∀ z, (z < 0 ∨ 0 + 88 < z) → z ≠ 100 → w_1[z]? = w[z]? := Lw.2.2
    have hm1 := hmd.frame (fun z _ _ => f1 z (by omega) (by omega))
    obtain ⟨fs1, hb1⟩ := hm1.ob
    obtain ⟨q1, hq1⟩ := Lw.2.1
    rw [hv_1]
    show Wp X (k + 1) (n + 6) w_1 [(0, .ref 2000000), (1, .ref 0), (2, .ref 89), (3, .ref 100), (4, .ref 101), (5, .int (nI (4 * q)))] [.int 1] 1371
    refine r_istore hC dL_law_1371 (by rw [hnl]; decide) (L' := [(6, .int 1), (0, .ref 2000000), (1, .ref 0), (2, .ref 89), (3, .ref 100), (4, .ref 101), (5, .int (nI (4 * q)))]) rfl ?_
    refine r_aload_n hC dL_law_1373 rfl (j := 3) rfl ?_
    refine r_aload_n hC dL_law_1374 rfl (j := 1) rfl ?_
    refine r_iload hC dL_law_1375 (j := 6) rfl ?_
    refine r_iconst hC dL_law_1377 (v := 1) (by decide) ?_
    refine r_iadd hC dL_law_1378 ?_
    rw [show nI (4 * q) + 1 = nI (4 * q + 1) from nI_add (4 * q) 1]
    refine r_ialdX hC dL_law_1379 (j := (4 * q + 1)) hX (mIx_nI (by omega) (by omega)) ?_
    
    refine r_callV hC (vs := [.int (xs (4 * q + 1))]) vL_law_1380 (sm_score (d := d) (q := (xs (4 * q + 1))) hm1 hnp h25 hpos) hb1 rfl rfl (by omega) (by omega) (by omega) (Nat.le_of_ble_eq_true rfl) (fun v_2 w_2 hP_2 hlen_2 => ?_) (fun _ _ h => h.elim)
    rcases hP_2 with ⟨hm, hv_2, T_2⟩ | ⟨hm, hv_2, T_2⟩
    · exfalso
      first | exact absurd hc hm | exact absurd hm hc | (rw [hc] at hm; cases hm; done) | (rw [hc.1] at hm; cases hm; done) | (rw [hc] at hm; exact absurd hm.1 (by decide)) | (rw [hc.1] at hm; exact absurd hm.1 (by decide)) | exact absurd hm.2 hc.2 | exact absurd hc.2 hm.2 | (have h9 := hm.2; rw [hc.2] at h9; cases h9; done)
    · have hqo2 := (T_2.2.2 100 (by omega)).trans hq1
      obtain ⟨fs2, hb2⟩ := T_2.1.ob
      rw [hv_2]
      show Wp X (k + 1) (n + 6) w_2 [(6, .int 1), (0, .ref 2000000), (1, .ref 0), (2, .ref 89), (3, .ref 100), (4, .ref 101), (5, .int (nI (4 * q)))] [.int 0] 1383
      refine r_istore hC dL_law_1383 (by rw [hnl]; decide) (L' := [(7, .int 0), (6, .int 1), (0, .ref 2000000), (1, .ref 0), (2, .ref 89), (3, .ref 100), (4, .ref 101), (5, .int (nI (4 * q)))]) rfl ?_
      refine r_aload_n hC dL_law_1385 rfl (j := 4) rfl ?_
      refine r_callV hC (vs := []) vL_law_1386 (sm_thrown (d := d) T_2.1) hb2 rfl rfl (by omega) (by omega) (by omega) (Nat.le_of_ble_eq_true rfl) (fun v_11 w_11 hP_11 hlen_11 => ?_) (fun _ _ h => h.elim)
      rw [hP_11.1, hP_11.2]
      show Wp X (k + 1) (n + 6) w_2 [(7, .int 0), (6, .int 1), (0, .ref 2000000), (1, .ref 0), (2, .ref 89), (3, .ref 100), (4, .ref 101), (5, .int (nI (4 * q)))] [.int 1] 1389
      refine r_iload hC dL_law_1389 (j := 1) rfl ?_
      refine r_icmp_eq hC dL_law_1391 (tgt := 1396) (by decide) (fun _ => ?_) (fun h => absurd (by decide) h)
      refine r_iload hC dL_law_1396 (j := 1) rfl ?_
      refine r_if_ne hC dL_law_1398 (tgt := 1413) (by decide) (fun _ => ?_) (fun h => absurd h (by decide))
      refine r_goto hC dL_law_1413 (tgt := 2109) (by decide) ?_
      refine r_locals [2, 3, 4, 5, 6, 7] (L' := [(0, .ref 2000000), (1, .ref 0), (2, .ref 89), (3, .ref 100), (4, .ref 101), (5, .int (nI (4 * q)))]) rfl ?_
      exact Wp.wid (by omega) (by omega) (kk w_2 (hlen_2.trans hlen_1) (J9.step Lw.1 (fun z h1 h2 h3 => f1 z h1 h2) ⟨q1, hq1⟩ ⟨qd, (f1 101 (by omega) (by omega)).trans hqd⟩ T_2 (hOK)))
set_option maxRecDepth 100000 in
set_option maxHeartbeats 4000000 in
theorem op_13 {X : mC} {d q mc ms k n : Nat} {w : mW} {N : Nat} {xs : Nat → Int32} {th : Int32} {f g : Nat → Int32} {sl op lo : Int32} {hd rs : Nat → Int32} {np : Nat} {tp av lg pl tk : Int32} {l : List sv} {ea fa : Int32} {so : Option sv} {txl lnl : List Nat} {tx : Nat → Int32} {tn : Nat} {lf : Nat → Int32} {ln : Nat} (hX : mScr X N xs) (J : JI w th ((f, g, sl, op, lo), hd, rs, np, tp, av, lg, pl, tk) l ea fa so txl lnl tx tn lf ln) (hC : Cx X RL cL_law (d + 12) mc ms) (hnl : mNL X = 9) (hq : 4 * q + 4 ≤ N) (hN : N ≤ 2048) (hk : k + 25 ≤ mc) (hn : n + 3100 ≤ ms) (kk : ∀ w', w'.length = w.length → JV w' → Wp X (k + 25) (n + 3100) w' [(0, .ref 2000000), (1, .ref 0), (2, .ref 89), (3, .ref 100), (4, .ref 101), (5, .int (nI (4 * q)))] [] 2109)  : Wp X k n w [(0, .ref 2000000), (1, .ref 0), (2, .ref 89), (3, .ref 100), (4, .ref 101), (5, .int (nI (4 * q)))] [] 829 := by
  have J9 := J
  obtain ⟨hct, hmd, ⟨qo, hqo⟩, ⟨qd, hqd⟩, hOK⟩ := J
  have hI : SInv ((f, g, sl, op, lo), hd, rs, np, tp, av, lg, pl, tk) := hOK.2.2.1
  have hnp : np ≤ 4 := hI.2.2
  have h25 : f 25 = 0 := hI.1.2.1
  have hop : op = 0 ∨ op = 1 := hI.1.2.2.1
  have hpos : ∀ j, j < 25 → ¬ f j < 0 := hI.1.1.1
  have hlg : ¬ lg < 0 := hI.2.1
  have hea := hOK.2.2.2.2.2.2.2.2.1
  have hfa := hOK.2.2.2.2.2.2.2.2.2
  obtain ⟨fc0, hc0⟩ := hct.ob
  obtain ⟨fm0, hm0⟩ := hmd.ob
  refine r_aload_n hC dL_law_829 rfl (j := 1) rfl ?_
  refine r_aload_n hC dL_law_830 rfl (j := 0) rfl ?_
  refine r_iload hC dL_law_831 (j := 5) rfl ?_
  refine r_iconst hC dL_law_833 (v := 1) (by decide) ?_
  refine r_iadd hC dL_law_834 ?_
  rw [show nI (4 * q) + 1 = nI (4 * q + 1) from nI_add (4 * q) 1]
  refine r_ialdX hC dL_law_835 (j := (4 * q + 1)) hX (mIx_nI (by omega) (by omega)) ?_
  refine r_aload_n hC dL_law_836 rfl (j := 3) rfl ?_
  
  refine r_callH hC (vs := [.ref 0, .int (xs (4 * q + 1)), .ref 100]) wL_law_837 (lw_owner (d := d) (c := (xs (4 * q + 1))) hct hqo (Or.inr (by decide))) rfl (by omega) (by omega) (by omega) (Nat.le_of_ble_eq_true rfl) (fun v_1 w_1 hP_1 hlen_1 => ?_)
  rcases hP_1 with ⟨hc, hv_1, Lw⟩ | ⟨hc, hv_1, Lw⟩ | ⟨hc, hv_1, Lw⟩
  · have f1 : ∀ z, (z < 0 ∨ 0 + 88 < z) → z ≠ 100 → w_1[z]? = w[z]? := Lw.2.2
    have hm1 := hmd.frame (fun z _ _ => f1 z (by omega) (by omega))
    obtain ⟨fs1, hb1⟩ := hm1.ob
    obtain ⟨q1, hq1, hr1⟩ := Lw.2.1
    rw [hv_1]
    show Wp X (k + 2) (n + 12) w_1 [(0, .ref 2000000), (1, .ref 0), (2, .ref 89), (3, .ref 100), (4, .ref 101), (5, .int (nI (4 * q)))] [.int 0] 840
    refine r_istore hC dL_law_840 (by rw [hnl]; decide) (L' := [(6, .int 0), (0, .ref 2000000), (1, .ref 0), (2, .ref 89), (3, .ref 100), (4, .ref 101), (5, .int (nI (4 * q)))]) rfl ?_
    refine r_aload_n hC dL_law_842 rfl (j := 3) rfl ?_
    refine r_aload_n hC dL_law_843 rfl (j := 1) rfl ?_
    refine r_iload hC dL_law_844 (j := 6) rfl ?_
    refine r_iconst hC dL_law_846 (v := 1) (by decide) ?_
    refine r_iadd hC dL_law_847 ?_
    rw [show nI (4 * q) + 1 = nI (4 * q + 1) from nI_add (4 * q) 1]
    refine r_ialdX hC dL_law_848 (j := (4 * q + 1)) hX (mIx_nI (by omega) (by omega)) ?_
    
    refine r_callV hC (vs := [.int (xs (4 * q + 1))]) vL_law_849 (sm_owner (d := d) (c := (xs (4 * q + 1))) hm1) hb1 rfl rfl (by omega) (by omega) (by omega) (Nat.le_of_ble_eq_true rfl) (fun v_2 w_2 hP_2 hlen_2 => ?_) (fun _ _ h => h.elim)
    rcases hP_2 with ⟨hm, hv_2, T_2⟩ | ⟨hm, hv_2, T_2⟩ | ⟨hm, hv_2, T_2⟩
    · have hqo2 := (T_2.2.2 100 (by omega)).trans hq1
      obtain ⟨fs2, hb2⟩ := T_2.1.ob
      rw [hv_2]
      show Wp X (k + 2) (n + 12) w_2 [(6, .int 0), (0, .ref 2000000), (1, .ref 0), (2, .ref 89), (3, .ref 100), (4, .ref 101), (5, .int (nI (4 * q)))] [.int (g (xs (4 * q + 1)).toNatClampNeg)] 852
      refine r_istore hC dL_law_852 (by rw [hnl]; decide) (L' := [(7, .int (g (xs (4 * q + 1)).toNatClampNeg)), (6, .int 0), (0, .ref 2000000), (1, .ref 0), (2, .ref 89), (3, .ref 100), (4, .ref 101), (5, .int (nI (4 * q)))]) rfl ?_
      refine r_aload_n hC dL_law_854 rfl (j := 4) rfl ?_
      refine r_callV hC (vs := []) vL_law_855 (sm_thrown (d := d) T_2.1) hb2 rfl rfl (by omega) (by omega) (by omega) (Nat.le_of_ble_eq_true rfl) (fun v_11 w_11 hP_11 hlen_11 => ?_) (fun _ _ h => h.elim)
      rw [hP_11.1, hP_11.2]
      show Wp X (k + 2) (n + 12) w_2 [(7, .int (g (xs (4 * q + 1)).toNatClampNeg)), (6, .int 0), (0, .ref 2000000), (1, .ref 0), (2, .ref 89), (3, .ref 100), (4, .ref 101), (5, .int (nI (4 * q)))] [.int 0] 858
      refine r_iload hC dL_law_858 (j := 1) rfl ?_
      refine r_icmp_eq hC dL_law_860 (tgt := 865) (by decide) (fun _ => ?_) (fun h => absurd (by decide) h)
      refine r_iload hC dL_law_865 (j := 1) rfl ?_
      refine r_if_ne hC dL_law_867 (tgt := 882) (by decide) (fun h => absurd (by decide) h) (fun _ => ?_)
      refine r_aload_n hC dL_law_870 rfl (j := 5) rfl ?_
      refine r_iconst hC dL_law_871 (v := 0) (by decide) ?_
      refine r_lald hC dL_law_872 (j := 0) hqo2 ⟨by decide, by decide, by decide⟩ ?_
      rw [hr1]
      refine r_iload hC dL_law_873 (j := 0) rfl ?_
      refine r_i2l hC dL_law_875 rfl ?_
      refine r_lcmp hC dL_law_876 ?_
      rw [cmp_self _]
      refine r_if_eq hC dL_law_877 (tgt := 882) (by decide) (fun _ => ?_) (fun h => absurd (by decide) h)
      refine r_goto hC dL_law_882 (tgt := 2109) (by decide) ?_
      refine r_locals [2, 3, 4, 5, 6, 7] (L' := [(0, .ref 2000000), (1, .ref 0), (2, .ref 89), (3, .ref 100), (4, .ref 101), (5, .int (nI (4 * q)))]) rfl ?_
      exact Wp.wid (by omega) (by omega) (kk w_2 (hlen_2.trans hlen_1) (J9.step Lw.1 (fun z h1 h2 h3 => f1 z h1 h2) ⟨q1, hq1⟩ ⟨qd, (f1 101 (by omega) (by omega)).trans hqd⟩ T_2 (hOK)))
    · exfalso
      first | exact absurd hc hm | exact absurd hm hc | (rw [hc] at hm; cases hm; done) | (rw [hc.1] at hm; cases hm; done) | (rw [hc] at hm; exact absurd hm.1 (by decide)) | (rw [hc.1] at hm; exact absurd hm.1 (by decide)) | exact absurd hm.2 hc.2 | exact absurd hc.2 hm.2 | (have h9 := hm.2; rw [hc.2] at h9; cases h9; done)
    · exfalso
      first | exact absurd hc hm | exact absurd hm hc | (rw [hc] at hm; cases hm; done) | (rw [hc.1] at hm; cases hm; done) | (rw [hc] at hm; exact absurd hm.1 (by decide)) | (rw [hc.1] at hm; exact absurd hm.1 (by decide)) | exact absurd hm.2 hc.2 | exact absurd hc.2 hm.2 | (have h9 := hm.2; rw [hc.2] at h9; cases h9; done)
  · have f1 : ∀ z, (z < 0 ∨ 0 + 88 < z) → z ≠ 100 → w_1[z]? = w[z]? := Lw.2.2
    have hm1 := hmd.frame (fun z _ _ => f1 z (by omega) (by omega))
    obtain ⟨fs1, hb1⟩ := hm1.ob
    obtain ⟨q1, hq1⟩ := Lw.2.1
    rw [hv_1]
    show Wp X (k + 2) (n + 12) w_1 [(0, .ref 2000000), (1, .ref 0), (2, .ref 89), (3, .ref 100), (4, .ref 101), (5, .int (nI (4 * q)))] [.int 1] 840
    refine r_istore hC dL_law_840 (by rw [hnl]; decide) (L' := [(6, .int 1), (0, .ref 2000000), (1, .ref 0), (2, .ref 89), (3, .ref 100), (4, .ref 101), (5, .int (nI (4 * q)))]) rfl ?_
    refine r_aload_n hC dL_law_842 rfl (j := 3) rfl ?_
    refine r_aload_n hC dL_law_843 rfl (j := 1) rfl ?_
    refine r_iload hC dL_law_844 (j := 6) rfl ?_
    refine r_iconst hC dL_law_846 (v := 1) (by decide) ?_
    refine r_iadd hC dL_law_847 ?_
    rw [show nI (4 * q) + 1 = nI (4 * q + 1) from nI_add (4 * q) 1]
    refine r_ialdX hC dL_law_848 (j := (4 * q + 1)) hX (mIx_nI (by omega) (by omega)) ?_
    
    refine r_callV hC (vs := [.int (xs (4 * q + 1))]) vL_law_849 (sm_owner (d := d) (c := (xs (4 * q + 1))) hm1) hb1 rfl rfl (by omega) (by omega) (by omega) (Nat.le_of_ble_eq_true rfl) (fun v_2 w_2 hP_2 hlen_2 => ?_) (fun _ _ h => h.elim)
    rcases hP_2 with ⟨hm, hv_2, T_2⟩ | ⟨hm, hv_2, T_2⟩ | ⟨hm, hv_2, T_2⟩
    · exfalso
      first | exact absurd hc hm | exact absurd hm hc | (rw [hc] at hm; cases hm; done) | (rw [hc.1] at hm; cases hm; done) | (rw [hc] at hm; exact absurd hm.1 (by decide)) | (rw [hc.1] at hm; exact absurd hm.1 (by decide)) | exact absurd hm.2 hc.2 | exact absurd hc.2 hm.2 | (have h9 := hm.2; rw [hc.2] at h9; cases h9; done)
    · exfalso
      first | exact absurd hc hm | exact absurd hm hc | (rw [hc] at hm; cases hm; done) | (rw [hc.1] at hm; cases hm; done) | (rw [hc] at hm; exact absurd hm.1 (by decide)) | (rw [hc.1] at hm; exact absurd hm.1 (by decide)) | exact absurd hm.2 hc.2 | exact absurd hc.2 hm.2 | (have h9 := hm.2; rw [hc.2] at h9; cases h9; done)
    · have hqo2 := (T_2.2.2 100 (by omega)).trans hq1
      obtain ⟨fs2, hb2⟩ := T_2.1.ob
      rw [hv_2]
      show Wp X (k + 2) (n + 12) w_2 [(6, .int 1), (0, .ref 2000000), (1, .ref 0), (2, .ref 89), (3, .ref 100), (4, .ref 101), (5, .int (nI (4 * q)))] [.int 0] 852
      refine r_istore hC dL_law_852 (by rw [hnl]; decide) (L' := [(7, .int 0), (6, .int 1), (0, .ref 2000000), (1, .ref 0), (2, .ref 89), (3, .ref 100), (4, .ref 101), (5, .int (nI (4 * q)))]) rfl ?_
      refine r_aload_n hC dL_law_854 rfl (j := 4) rfl ?_
      refine r_callV hC (vs := []) vL_law_855 (sm_thrown (d := d) T_2.1) hb2 rfl rfl (by omega) (by omega) (by omega) (Nat.le_of_ble_eq_true rfl) (fun v_11 w_11 hP_11 hlen_11 => ?_) (fun _ _ h => h.elim)
      rw [hP_11.1, hP_11.2]
      show Wp X (k + 2) (n + 12) w_2 [(7, .int 0), (6, .int 1), (0, .ref 2000000), (1, .ref 0), (2, .ref 89), (3, .ref 100), (4, .ref 101), (5, .int (nI (4 * q)))] [.int 1] 858
      refine r_iload hC dL_law_858 (j := 1) rfl ?_
      refine r_icmp_eq hC dL_law_860 (tgt := 865) (by decide) (fun _ => ?_) (fun h => absurd (by decide) h)
      refine r_iload hC dL_law_865 (j := 1) rfl ?_
      refine r_if_ne hC dL_law_867 (tgt := 882) (by decide) (fun _ => ?_) (fun h => absurd h (by decide))
      refine r_goto hC dL_law_882 (tgt := 2109) (by decide) ?_
      refine r_locals [2, 3, 4, 5, 6, 7] (L' := [(0, .ref 2000000), (1, .ref 0), (2, .ref 89), (3, .ref 100), (4, .ref 101), (5, .int (nI (4 * q)))]) rfl ?_
      exact Wp.wid (by omega) (by omega) (kk w_2 (hlen_2.trans hlen_1) (J9.step Lw.1 (fun z h1 h2 h3 => f1 z h1 h2) ⟨q1, hq1⟩ ⟨qd, (f1 101 (by omega) (by omega)).trans hqd⟩ T_2 (hOK)))
  · have f1 : ∀ z, (z < 0 ∨ 0 + 88 < z) → z ≠ 100 → w_1[z]? = w[z]? := Lw.2.2
    have hm1 := hmd.frame (fun z _ _ => f1 z (by omega) (by omega))
    obtain ⟨fs1, hb1⟩ := hm1.ob
    obtain ⟨q1, hq1⟩ := Lw.2.1
    rw [hv_1]
    show Wp X (k + 2) (n + 12) w_1 [(0, .ref 2000000), (1, .ref 0), (2, .ref 89), (3, .ref 100), (4, .ref 101), (5, .int (nI (4 * q)))] [.int 2] 840
    refine r_istore hC dL_law_840 (by rw [hnl]; decide) (L' := [(6, .int 2), (0, .ref 2000000), (1, .ref 0), (2, .ref 89), (3, .ref 100), (4, .ref 101), (5, .int (nI (4 * q)))]) rfl ?_
    refine r_aload_n hC dL_law_842 rfl (j := 3) rfl ?_
    refine r_aload_n hC dL_law_843 rfl (j := 1) rfl ?_
    refine r_iload hC dL_law_844 (j := 6) rfl ?_
    refine r_iconst hC dL_law_846 (v := 1) (by decide) ?_
    refine r_iadd hC dL_law_847 ?_
    rw [show nI (4 * q) + 1 = nI (4 * q + 1) from nI_add (4 * q) 1]
    refine r_ialdX hC dL_law_848 (j := (4 * q + 1)) hX (mIx_nI (by omega) (by omega)) ?_
    
    refine r_callV hC (vs := [.int (xs (4 * q + 1))]) vL_law_849 (sm_owner (d := d) (c := (xs (4 * q + 1))) hm1) hb1 rfl rfl (by omega) (by omega) (by omega) (Nat.le_of_ble_eq_true rfl) (fun v_2 w_2 hP_2 hlen_2 => ?_) (fun _ _ h => h.elim)
    rcases hP_2 with ⟨hm, hv_2, T_2⟩ | ⟨hm, hv_2, T_2⟩ | ⟨hm, hv_2, T_2⟩
    · exfalso
      first | exact absurd hc hm | exact absurd hm hc | (rw [hc] at hm; cases hm; done) | (rw [hc.1] at hm; cases hm; done) | (rw [hc] at hm; exact absurd hm.1 (by decide)) | (rw [hc.1] at hm; exact absurd hm.1 (by decide)) | exact absurd hm.2 hc.2 | exact absurd hc.2 hm.2 | (have h9 := hm.2; rw [hc.2] at h9; cases h9; done)
    · have hqo2 := (T_2.2.2 100 (by omega)).trans hq1
      obtain ⟨fs2, hb2⟩ := T_2.1.ob
      rw [hv_2]
      show Wp X (k + 2) (n + 12) w_2 [(6, .int 2), (0, .ref 2000000), (1, .ref 0), (2, .ref 89), (3, .ref 100), (4, .ref 101), (5, .int (nI (4 * q)))] [.int 0] 852
      refine r_istore hC dL_law_852 (by rw [hnl]; decide) (L' := [(7, .int 0), (6, .int 2), (0, .ref 2000000), (1, .ref 0), (2, .ref 89), (3, .ref 100), (4, .ref 101), (5, .int (nI (4 * q)))]) rfl ?_
      refine r_aload_n hC dL_law_854 rfl (j := 4) rfl ?_
      refine r_callV hC (vs := []) vL_law_855 (sm_thrown (d := d) T_2.1) hb2 rfl rfl (by omega) (by omega) (by omega) (Nat.le_of_ble_eq_true rfl) (fun v_11 w_11 hP_11 hlen_11 => ?_) (fun _ _ h => h.elim)
      rw [hP_11.1, hP_11.2]
      show Wp X (k + 2) (n + 12) w_2 [(7, .int 0), (6, .int 2), (0, .ref 2000000), (1, .ref 0), (2, .ref 89), (3, .ref 100), (4, .ref 101), (5, .int (nI (4 * q)))] [.int 2] 858
      refine r_iload hC dL_law_858 (j := 1) rfl ?_
      refine r_icmp_eq hC dL_law_860 (tgt := 865) (by decide) (fun _ => ?_) (fun h => absurd (by decide) h)
      refine r_iload hC dL_law_865 (j := 1) rfl ?_
      refine r_if_ne hC dL_law_867 (tgt := 882) (by decide) (fun _ => ?_) (fun h => absurd h (by decide))
      refine r_goto hC dL_law_882 (tgt := 2109) (by decide) ?_
      refine r_locals [2, 3, 4, 5, 6, 7] (L' := [(0, .ref 2000000), (1, .ref 0), (2, .ref 89), (3, .ref 100), (4, .ref 101), (5, .int (nI (4 * q)))]) rfl ?_
      exact Wp.wid (by omega) (by omega) (kk w_2 (hlen_2.trans hlen_1) (J9.step Lw.1 (fun z h1 h2 h3 => f1 z h1 h2) ⟨q1, hq1⟩ ⟨qd, (f1 101 (by omega) (by omega)).trans hqd⟩ T_2 (hOK)))
    · exfalso
      first | exact absurd hc hm | exact absurd hm hc | (rw [hc] at hm; cases hm; done) | (rw [hc.1] at hm; cases hm; done) | (rw [hc] at hm; exact absurd hm.1 (by decide)) | (rw [hc.1] at hm; exact absurd hm.1 (by decide)) | exact absurd hm.2 hc.2 | exact absurd hc.2 hm.2 | (have h9 := hm.2; rw [hc.2] at h9; cases h9; done)
set_option maxRecDepth 100000 in
set_option maxHeartbeats 4000000 in
theorem op_19 {X : mC} {d q mc ms k n : Nat} {w : mW} {N : Nat} {xs : Nat → Int32} {th : Int32} {f g : Nat → Int32} {sl op lo : Int32} {hd rs : Nat → Int32} {np : Nat} {tp av lg pl tk : Int32} {l : List sv} {ea fa : Int32} {so : Option sv} {txl lnl : List Nat} {tx : Nat → Int32} {tn : Nat} {lf : Nat → Int32} {ln : Nat} (hX : mScr X N xs) (J : JI w th ((f, g, sl, op, lo), hd, rs, np, tp, av, lg, pl, tk) l ea fa so txl lnl tx tn lf ln) (hC : Cx X RL cL_law (d + 12) mc ms) (hnl : mNL X = 9) (hq : 4 * q + 4 ≤ N) (hN : N ≤ 2048) (hk : k + 25 ≤ mc) (hn : n + 3100 ≤ ms) (kk : ∀ w', w'.length = w.length → JV w' → Wp X (k + 25) (n + 3100) w' [(0, .ref 2000000), (1, .ref 0), (2, .ref 89), (3, .ref 100), (4, .ref 101), (5, .int (nI (4 * q)))] [] 2109)  : Wp X k n w [(0, .ref 2000000), (1, .ref 0), (2, .ref 89), (3, .ref 100), (4, .ref 101), (5, .int (nI (4 * q)))] [] 1036 := by
  have J9 := J
  obtain ⟨hct, hmd, ⟨qo, hqo⟩, ⟨qd, hqd⟩, hOK⟩ := J
  have hI : SInv ((f, g, sl, op, lo), hd, rs, np, tp, av, lg, pl, tk) := hOK.2.2.1
  have hnp : np ≤ 4 := hI.2.2
  have h25 : f 25 = 0 := hI.1.2.1
  have hop : op = 0 ∨ op = 1 := hI.1.2.2.1
  have hpos : ∀ j, j < 25 → ¬ f j < 0 := hI.1.1.1
  have hlg : ¬ lg < 0 := hI.2.1
  have hea := hOK.2.2.2.2.2.2.2.2.1
  have hfa := hOK.2.2.2.2.2.2.2.2.2
  obtain ⟨fc0, hc0⟩ := hct.ob
  obtain ⟨fm0, hm0⟩ := hmd.ob
  refine r_aload_n hC dL_law_1036 rfl (j := 1) rfl ?_
  refine r_aload_n hC dL_law_1037 rfl (j := 0) rfl ?_
  refine r_iload hC dL_law_1038 (j := 5) rfl ?_
  refine r_iconst hC dL_law_1040 (v := 1) (by decide) ?_
  refine r_iadd hC dL_law_1041 ?_
  rw [show nI (4 * q) + 1 = nI (4 * q + 1) from nI_add (4 * q) 1]
  refine r_ialdX hC dL_law_1042 (j := (4 * q + 1)) hX (mIx_nI (by omega) (by omega)) ?_
  refine r_aload_n hC dL_law_1043 rfl (j := 0) rfl ?_
  refine r_iload hC dL_law_1044 (j := 5) rfl ?_
  refine r_iconst hC dL_law_1046 (v := 2) (by decide) ?_
  refine r_iadd hC dL_law_1047 ?_
  rw [show nI (4 * q) + 2 = nI (4 * q + 2) from nI_add (4 * q) 2]
  refine r_ialdX hC dL_law_1048 (j := (4 * q + 2)) hX (mIx_nI (by omega) (by omega)) ?_
  refine r_aload_n hC dL_law_1049 rfl (j := 3) rfl ?_
  
  refine r_callH hC (vs := [.ref 0, .int (xs (4 * q + 1)), .int (xs (4 * q + 2)), .ref 100]) wL_law_1050 (lw_topplesIf (d := d) (c := (xs (4 * q + 1))) (n := (xs (4 * q + 2))) hct hqo (Or.inr (by decide)) hI) rfl (by omega) (by omega) (by omega) (Nat.le_of_ble_eq_true rfl) (fun v_1 w_1 hP_1 hlen_1 => ?_)
  rcases hP_1 with ⟨hc, hv_1, Lw⟩ | ⟨hc, hv_1, Lw⟩ | ⟨hc, hv_1, Lw⟩
  · have f1 : ∀ z, (z < 0 ∨ 0 + 88 < z) → z ≠ 100 → w_1[z]? = w[z]? := Lw.2.2
    have hm1 := hmd.frame (fun z _ _ => f1 z (by omega) (by omega))
    obtain ⟨fs1, hb1⟩ := hm1.ob
    obtain ⟨q1, hq1, hr1⟩ := Lw.2.1
    rw [hv_1]
    show Wp X (k + 2) (n + 12) w_1 [(0, .ref 2000000), (1, .ref 0), (2, .ref 89), (3, .ref 100), (4, .ref 101), (5, .int (nI (4 * q)))] [.int 0] 1053
    refine r_istore hC dL_law_1053 (by rw [hnl]; decide) (L' := [(6, .int 0), (0, .ref 2000000), (1, .ref 0), (2, .ref 89), (3, .ref 100), (4, .ref 101), (5, .int (nI (4 * q)))]) rfl ?_
    refine r_aload_n hC dL_law_1055 rfl (j := 3) rfl ?_
    refine r_aload_n hC dL_law_1056 rfl (j := 1) rfl ?_
    refine r_iload hC dL_law_1057 (j := 6) rfl ?_
    refine r_iconst hC dL_law_1059 (v := 1) (by decide) ?_
    refine r_iadd hC dL_law_1060 ?_
    rw [show nI (4 * q) + 1 = nI (4 * q + 1) from nI_add (4 * q) 1]
    refine r_ialdX hC dL_law_1061 (j := (4 * q + 1)) hX (mIx_nI (by omega) (by omega)) ?_
    refine r_aload_n hC dL_law_1062 rfl (j := 1) rfl ?_
    refine r_iload hC dL_law_1063 (j := 6) rfl ?_
    refine r_iconst hC dL_law_1065 (v := 2) (by decide) ?_
    refine r_iadd hC dL_law_1066 ?_
    rw [show nI (4 * q) + 2 = nI (4 * q + 2) from nI_add (4 * q) 2]
    refine r_ialdX hC dL_law_1067 (j := (4 * q + 2)) hX (mIx_nI (by omega) (by omega)) ?_
    
    refine r_callV hC (vs := [.int (xs (4 * q + 1)), .int (xs (4 * q + 2))]) vL_law_1068 (sm_topplesIf (d := d) (c := (xs (4 * q + 1))) (x := (xs (4 * q + 2))) hm1 h25 hop hlg (fun h1 h2 => (restF_inv (by decide) (trial_hill hI.1 (isC_lt h1).1 h2)).2)) hb1 rfl rfl (by omega) (by omega) (by omega) (Nat.le_of_ble_eq_true rfl) (fun v_2 w_2 hP_2 hlen_2 => ?_) (fun _ _ h => h.elim)
    rcases hP_2 with ⟨hm, hv_2, T_2⟩ | ⟨hm, hv_2, T_2⟩ | ⟨hm, hv_2, T_2⟩
    · have hqo2 := (T_2.2.2 100 (by omega)).trans hq1
      obtain ⟨fs2, hb2⟩ := T_2.1.ob
      rw [hv_2]
      show Wp X (k + 2) (n + 12) w_2 [(6, .int 0), (0, .ref 2000000), (1, .ref 0), (2, .ref 89), (3, .ref 100), (4, .ref 101), (5, .int (nI (4 * q)))] [.int (nI (hRestF (hPlace (f, g, sl, op, lo) (xs (4 * q + 1)).toNatClampNeg (xs (4 * q + 2)) (-1))).1)] 1071
      refine r_istore hC dL_law_1071 (by rw [hnl]; decide) (L' := [(7, .int (nI (hRestF (hPlace (f, g, sl, op, lo) (xs (4 * q + 1)).toNatClampNeg (xs (4 * q + 2)) (-1))).1)), (6, .int 0), (0, .ref 2000000), (1, .ref 0), (2, .ref 89), (3, .ref 100), (4, .ref 101), (5, .int (nI (4 * q)))]) rfl ?_
      refine r_aload_n hC dL_law_1073 rfl (j := 4) rfl ?_
      refine r_callV hC (vs := []) vL_law_1074 (sm_thrown (d := d) T_2.1) hb2 rfl rfl (by omega) (by omega) (by omega) (Nat.le_of_ble_eq_true rfl) (fun v_11 w_11 hP_11 hlen_11 => ?_) (fun _ _ h => h.elim)
      rw [hP_11.1, hP_11.2]
      show Wp X (k + 2) (n + 12) w_2 [(7, .int (nI (hRestF (hPlace (f, g, sl, op, lo) (xs (4 * q + 1)).toNatClampNeg (xs (4 * q + 2)) (-1))).1)), (6, .int 0), (0, .ref 2000000), (1, .ref 0), (2, .ref 89), (3, .ref 100), (4, .ref 101), (5, .int (nI (4 * q)))] [.int 0] 1077
      refine r_iload hC dL_law_1077 (j := 1) rfl ?_
      refine r_icmp_eq hC dL_law_1079 (tgt := 1084) (by decide) (fun _ => ?_) (fun h => absurd (by decide) h)
      refine r_iload hC dL_law_1084 (j := 1) rfl ?_
      refine r_if_ne hC dL_law_1086 (tgt := 1101) (by decide) (fun h => absurd (by decide) h) (fun _ => ?_)
      refine r_aload_n hC dL_law_1089 rfl (j := 5) rfl ?_
      refine r_iconst hC dL_law_1090 (v := 0) (by decide) ?_
      refine r_lald hC dL_law_1091 (j := 0) hqo2 ⟨by decide, by decide, by decide⟩ ?_
      rw [hr1]
      refine r_iload hC dL_law_1092 (j := 0) rfl ?_
      refine r_i2l hC dL_law_1094 rfl ?_
      refine r_lcmp hC dL_law_1095 ?_
      rw [cmp_self _]
      refine r_if_eq hC dL_law_1096 (tgt := 1101) (by decide) (fun _ => ?_) (fun h => absurd (by decide) h)
      refine r_goto hC dL_law_1101 (tgt := 2109) (by decide) ?_
      refine r_locals [2, 3, 4, 5, 6, 7] (L' := [(0, .ref 2000000), (1, .ref 0), (2, .ref 89), (3, .ref 100), (4, .ref 101), (5, .int (nI (4 * q)))]) rfl ?_
      exact Wp.wid (by omega) (by omega) (kk w_2 (hlen_2.trans hlen_1) (J9.step Lw.1 (fun z h1 h2 h3 => f1 z h1 h2) ⟨q1, hq1⟩ ⟨qd, (f1 101 (by omega) (by omega)).trans hqd⟩ T_2 (hOK)))
    · exfalso
      first | exact absurd hc hm | exact absurd hm hc | (rw [hc] at hm; cases hm; done) | (rw [hc.1] at hm; cases hm; done) | (rw [hc] at hm; exact absurd hm.1 (by decide)) | (rw [hc.1] at hm; exact absurd hm.1 (by decide)) | exact absurd hm.2 hc.2 | exact absurd hc.2 hm.2 | (have h9 := hm.2; rw [hc.2] at h9; cases h9; done)
    · exfalso
      first | exact absurd hc hm | exact absurd hm hc | (rw [hc] at hm; cases hm; done) | (rw [hc.1] at hm; cases hm; done) | (rw [hc] at hm; exact absurd hm.1 (by decide)) | (rw [hc.1] at hm; exact absurd hm.1 (by decide)) | exact absurd hm.2 hc.2 | exact absurd hc.2 hm.2 | (have h9 := hm.2; rw [hc.2] at h9; cases h9; done)
  · have f1 : ∀ z, (z < 0 ∨ 0 + 88 < z) → z ≠ 100 → w_1[z]? = w[z]? := Lw.2.2
    have hm1 := hmd.frame (fun z _ _ => f1 z (by omega) (by omega))
    obtain ⟨fs1, hb1⟩ := hm1.ob
    obtain ⟨q1, hq1⟩ := Lw.2.1
    rw [hv_1]
    show Wp X (k + 2) (n + 12) w_1 [(0, .ref 2000000), (1, .ref 0), (2, .ref 89), (3, .ref 100), (4, .ref 101), (5, .int (nI (4 * q)))] [.int 1] 1053
    refine r_istore hC dL_law_1053 (by rw [hnl]; decide) (L' := [(6, .int 1), (0, .ref 2000000), (1, .ref 0), (2, .ref 89), (3, .ref 100), (4, .ref 101), (5, .int (nI (4 * q)))]) rfl ?_
    refine r_aload_n hC dL_law_1055 rfl (j := 3) rfl ?_
    refine r_aload_n hC dL_law_1056 rfl (j := 1) rfl ?_
    refine r_iload hC dL_law_1057 (j := 6) rfl ?_
    refine r_iconst hC dL_law_1059 (v := 1) (by decide) ?_
    refine r_iadd hC dL_law_1060 ?_
    rw [show nI (4 * q) + 1 = nI (4 * q + 1) from nI_add (4 * q) 1]
    refine r_ialdX hC dL_law_1061 (j := (4 * q + 1)) hX (mIx_nI (by omega) (by omega)) ?_
    refine r_aload_n hC dL_law_1062 rfl (j := 1) rfl ?_
    refine r_iload hC dL_law_1063 (j := 6) rfl ?_
    refine r_iconst hC dL_law_1065 (v := 2) (by decide) ?_
    refine r_iadd hC dL_law_1066 ?_
    rw [show nI (4 * q) + 2 = nI (4 * q + 2) from nI_add (4 * q) 2]
    refine r_ialdX hC dL_law_1067 (j := (4 * q + 2)) hX (mIx_nI (by omega) (by omega)) ?_
    
    refine r_callV hC (vs := [.int (xs (4 * q + 1)), .int (xs (4 * q + 2))]) vL_law_1068 (sm_topplesIf (d := d) (c := (xs (4 * q + 1))) (x := (xs (4 * q + 2))) hm1 h25 hop hlg (fun h1 h2 => (restF_inv (by decide) (trial_hill hI.1 (isC_lt h1).1 h2)).2)) hb1 rfl rfl (by omega) (by omega) (by omega) (Nat.le_of_ble_eq_true rfl) (fun v_2 w_2 hP_2 hlen_2 => ?_) (fun _ _ h => h.elim)
    rcases hP_2 with ⟨hm, hv_2, T_2⟩ | ⟨hm, hv_2, T_2⟩ | ⟨hm, hv_2, T_2⟩
    · exfalso
      first | exact absurd hc hm | exact absurd hm hc | (rw [hc] at hm; cases hm; done) | (rw [hc.1] at hm; cases hm; done) | (rw [hc] at hm; exact absurd hm.1 (by decide)) | (rw [hc.1] at hm; exact absurd hm.1 (by decide)) | exact absurd hm.2 hc.2 | exact absurd hc.2 hm.2 | (have h9 := hm.2; rw [hc.2] at h9; cases h9; done)
    · exfalso
      first | exact absurd hc hm | exact absurd hm hc | (rw [hc] at hm; cases hm; done) | (rw [hc.1] at hm; cases hm; done) | (rw [hc] at hm; exact absurd hm.1 (by decide)) | (rw [hc.1] at hm; exact absurd hm.1 (by decide)) | exact absurd hm.2 hc.2 | exact absurd hc.2 hm.2 | (have h9 := hm.2; rw [hc.2] at h9; cases h9; done)
    · have hqo2 := (T_2.2.2 100 (by omega)).trans hq1
      obtain ⟨fs2, hb2⟩ := T_2.1.ob
      rw [hv_2]
      show Wp X (k + 2) (n + 12) w_2 [(6, .int 1), (0, .ref 2000000), (1, .ref 0), (2, .ref 89), (3, .ref 100), (4, .ref 101), (5, .int (nI (4 * q)))] [.int 0] 1071
      refine r_istore hC dL_law_1071 (by rw [hnl]; decide) (L' := [(7, .int 0), (6, .int 1), (0, .ref 2000000), (1, .ref 0), (2, .ref 89), (3, .ref 100), (4, .ref 101), (5, .int (nI (4 * q)))]) rfl ?_
      refine r_aload_n hC dL_law_1073 rfl (j := 4) rfl ?_
      refine r_callV hC (vs := []) vL_law_1074 (sm_thrown (d := d) T_2.1) hb2 rfl rfl (by omega) (by omega) (by omega) (Nat.le_of_ble_eq_true rfl) (fun v_11 w_11 hP_11 hlen_11 => ?_) (fun _ _ h => h.elim)
      rw [hP_11.1, hP_11.2]
      show Wp X (k + 2) (n + 12) w_2 [(7, .int 0), (6, .int 1), (0, .ref 2000000), (1, .ref 0), (2, .ref 89), (3, .ref 100), (4, .ref 101), (5, .int (nI (4 * q)))] [.int 1] 1077
      refine r_iload hC dL_law_1077 (j := 1) rfl ?_
      refine r_icmp_eq hC dL_law_1079 (tgt := 1084) (by decide) (fun _ => ?_) (fun h => absurd (by decide) h)
      refine r_iload hC dL_law_1084 (j := 1) rfl ?_
      refine r_if_ne hC dL_law_1086 (tgt := 1101) (by decide) (fun _ => ?_) (fun h => absurd h (by decide))
      refine r_goto hC dL_law_1101 (tgt := 2109) (by decide) ?_
      refine r_locals [2, 3, 4, 5, 6, 7] (L' := [(0, .ref 2000000), (1, .ref 0), (2, .ref 89), (3, .ref 100), (4, .ref 101), (5, .int (nI (4 * q)))]) rfl ?_
      exact Wp.wid (by omega) (by omega) (kk w_2 (hlen_2.trans hlen_1) (J9.step Lw.1 (fun z h1 h2 h3 => f1 z h1 h2) ⟨q1, hq1⟩ ⟨qd, (f1 101 (by omega) (by omega)).trans hqd⟩ T_2 (hOK)))
  · have f1 : ∀ z, (z < 0 ∨ 0 + 88 < z) → z ≠ 100 → w_1[z]? = w[z]? := Lw.2.2
    have hm1 := hmd.frame (fun z _ _ => f1 z (by omega) (by omega))
    obtain ⟨fs1, hb1⟩ := hm1.ob
    obtain ⟨q1, hq1⟩ := Lw.2.1
    rw [hv_1]
    show Wp X (k + 2) (n + 12) w_1 [(0, .ref 2000000), (1, .ref 0), (2, .ref 89), (3, .ref 100), (4, .ref 101), (5, .int (nI (4 * q)))] [.int 2] 1053
    refine r_istore hC dL_law_1053 (by rw [hnl]; decide) (L' := [(6, .int 2), (0, .ref 2000000), (1, .ref 0), (2, .ref 89), (3, .ref 100), (4, .ref 101), (5, .int (nI (4 * q)))]) rfl ?_
    refine r_aload_n hC dL_law_1055 rfl (j := 3) rfl ?_
    refine r_aload_n hC dL_law_1056 rfl (j := 1) rfl ?_
    refine r_iload hC dL_law_1057 (j := 6) rfl ?_
    refine r_iconst hC dL_law_1059 (v := 1) (by decide) ?_
    refine r_iadd hC dL_law_1060 ?_
    rw [show nI (4 * q) + 1 = nI (4 * q + 1) from nI_add (4 * q) 1]
    refine r_ialdX hC dL_law_1061 (j := (4 * q + 1)) hX (mIx_nI (by omega) (by omega)) ?_
    refine r_aload_n hC dL_law_1062 rfl (j := 1) rfl ?_
    refine r_iload hC dL_law_1063 (j := 6) rfl ?_
    refine r_iconst hC dL_law_1065 (v := 2) (by decide) ?_
    refine r_iadd hC dL_law_1066 ?_
    rw [show nI (4 * q) + 2 = nI (4 * q + 2) from nI_add (4 * q) 2]
    refine r_ialdX hC dL_law_1067 (j := (4 * q + 2)) hX (mIx_nI (by omega) (by omega)) ?_
    
    refine r_callV hC (vs := [.int (xs (4 * q + 1)), .int (xs (4 * q + 2))]) vL_law_1068 (sm_topplesIf (d := d) (c := (xs (4 * q + 1))) (x := (xs (4 * q + 2))) hm1 h25 hop hlg (fun h1 h2 => (restF_inv (by decide) (trial_hill hI.1 (isC_lt h1).1 h2)).2)) hb1 rfl rfl (by omega) (by omega) (by omega) (Nat.le_of_ble_eq_true rfl) (fun v_2 w_2 hP_2 hlen_2 => ?_) (fun _ _ h => h.elim)
    rcases hP_2 with ⟨hm, hv_2, T_2⟩ | ⟨hm, hv_2, T_2⟩ | ⟨hm, hv_2, T_2⟩
    · exfalso
      first | exact absurd hc hm | exact absurd hm hc | (rw [hc] at hm; cases hm; done) | (rw [hc.1] at hm; cases hm; done) | (rw [hc] at hm; exact absurd hm.1 (by decide)) | (rw [hc.1] at hm; exact absurd hm.1 (by decide)) | exact absurd hm.2 hc.2 | exact absurd hc.2 hm.2 | (have h9 := hm.2; rw [hc.2] at h9; cases h9; done)
    · have hqo2 := (T_2.2.2 100 (by omega)).trans hq1
      obtain ⟨fs2, hb2⟩ := T_2.1.ob
      rw [hv_2]
      show Wp X (k + 2) (n + 12) w_2 [(6, .int 2), (0, .ref 2000000), (1, .ref 0), (2, .ref 89), (3, .ref 100), (4, .ref 101), (5, .int (nI (4 * q)))] [.int 0] 1071
      refine r_istore hC dL_law_1071 (by rw [hnl]; decide) (L' := [(7, .int 0), (6, .int 2), (0, .ref 2000000), (1, .ref 0), (2, .ref 89), (3, .ref 100), (4, .ref 101), (5, .int (nI (4 * q)))]) rfl ?_
      refine r_aload_n hC dL_law_1073 rfl (j := 4) rfl ?_
      refine r_callV hC (vs := []) vL_law_1074 (sm_thrown (d := d) T_2.1) hb2 rfl rfl (by omega) (by omega) (by omega) (Nat.le_of_ble_eq_true rfl) (fun v_11 w_11 hP_11 hlen_11 => ?_) (fun _ _ h => h.elim)
      rw [hP_11.1, hP_11.2]
      show Wp X (k + 2) (n + 12) w_2 [(7, .int 0), (6, .int 2), (0, .ref 2000000), (1, .ref 0), (2, .ref 89), (3, .ref 100), (4, .ref 101), (5, .int (nI (4 * q)))] [.int 2] 1077
      refine r_iload hC dL_law_1077 (j := 1) rfl ?_
      refine r_icmp_eq hC dL_law_1079 (tgt := 1084) (by decide) (fun _ => ?_) (fun h => absurd (by decide) h)
      refine r_iload hC dL_law_1084 (j := 1) rfl ?_
      refine r_if_ne hC dL_law_1086 (tgt := 1101) (by decide) (fun _ => ?_) (fun h => absurd h (by decide))
      refine r_goto hC dL_law_1101 (tgt := 2109) (by decide) ?_
      refine r_locals [2, 3, 4, 5, 6, 7] (L' := [(0, .ref 2000000), (1, .ref 0), (2, .ref 89), (3, .ref 100), (4, .ref 101), (5, .int (nI (4 * q)))]) rfl ?_
      exact Wp.wid (by omega) (by omega) (kk w_2 (hlen_2.trans hlen_1) (J9.step Lw.1 (fun z h1 h2 h3 => f1 z h1 h2) ⟨q1, hq1⟩ ⟨qd, (f1 101 (by omega) (by omega)).trans hqd⟩ T_2 (hOK)))
    · exfalso
      first | exact absurd hc hm | exact absurd hm hc | (rw [hc] at hm; cases hm; done) | (rw [hc.1] at hm; cases hm; done) | (rw [hc] at hm; exact absurd hm.1 (by decide)) | (rw [hc.1] at hm; exact absurd hm.1 (by decide)) | exact absurd hm.2 hc.2 | exact absurd hc.2 hm.2 | (have h9 := hm.2; rw [hc.2] at h9; cases h9; done)
set_option maxRecDepth 100000 in
set_option maxHeartbeats 4000000 in
theorem op_20 {X : mC} {d q mc ms k n : Nat} {w : mW} {N : Nat} {xs : Nat → Int32} {th : Int32} {f g : Nat → Int32} {sl op lo : Int32} {hd rs : Nat → Int32} {np : Nat} {tp av lg pl tk : Int32} {l : List sv} {ea fa : Int32} {so : Option sv} {txl lnl : List Nat} {tx : Nat → Int32} {tn : Nat} {lf : Nat → Int32} {ln : Nat} (hX : mScr X N xs) (J : JI w th ((f, g, sl, op, lo), hd, rs, np, tp, av, lg, pl, tk) l ea fa so txl lnl tx tn lf ln) (hC : Cx X RL cL_law (d + 12) mc ms) (hnl : mNL X = 9) (hq : 4 * q + 4 ≤ N) (hN : N ≤ 2048) (hk : k + 25 ≤ mc) (hn : n + 3100 ≤ ms) (kk : ∀ w', w'.length = w.length → JV w' → Wp X (k + 25) (n + 3100) w' [(0, .ref 2000000), (1, .ref 0), (2, .ref 89), (3, .ref 100), (4, .ref 101), (5, .int (nI (4 * q)))] [] 2109)  : Wp X k n w [(0, .ref 2000000), (1, .ref 0), (2, .ref 89), (3, .ref 100), (4, .ref 101), (5, .int (nI (4 * q)))] [] 1104 := by
  have J9 := J
  obtain ⟨hct, hmd, ⟨qo, hqo⟩, ⟨qd, hqd⟩, hOK⟩ := J
  have hI : SInv ((f, g, sl, op, lo), hd, rs, np, tp, av, lg, pl, tk) := hOK.2.2.1
  have hnp : np ≤ 4 := hI.2.2
  have h25 : f 25 = 0 := hI.1.2.1
  have hop : op = 0 ∨ op = 1 := hI.1.2.2.1
  have hpos : ∀ j, j < 25 → ¬ f j < 0 := hI.1.1.1
  have hlg : ¬ lg < 0 := hI.2.1
  have hea := hOK.2.2.2.2.2.2.2.2.1
  have hfa := hOK.2.2.2.2.2.2.2.2.2
  obtain ⟨fc0, hc0⟩ := hct.ob
  obtain ⟨fm0, hm0⟩ := hmd.ob
  refine r_aload_n hC dL_law_1104 rfl (j := 1) rfl ?_
  refine r_aload_n hC dL_law_1105 rfl (j := 0) rfl ?_
  refine r_iload hC dL_law_1106 (j := 5) rfl ?_
  refine r_iconst hC dL_law_1108 (v := 1) (by decide) ?_
  refine r_iadd hC dL_law_1109 ?_
  rw [show nI (4 * q) + 1 = nI (4 * q + 1) from nI_add (4 * q) 1]
  refine r_ialdX hC dL_law_1110 (j := (4 * q + 1)) hX (mIx_nI (by omega) (by omega)) ?_
  refine r_aload_n hC dL_law_1111 rfl (j := 0) rfl ?_
  refine r_iload hC dL_law_1112 (j := 5) rfl ?_
  refine r_iconst hC dL_law_1114 (v := 2) (by decide) ?_
  refine r_iadd hC dL_law_1115 ?_
  rw [show nI (4 * q) + 2 = nI (4 * q + 2) from nI_add (4 * q) 2]
  refine r_ialdX hC dL_law_1116 (j := (4 * q + 2)) hX (mIx_nI (by omega) (by omega)) ?_
  refine r_aload_n hC dL_law_1117 rfl (j := 3) rfl ?_
  
  refine r_callH hC (vs := [.ref 0, .int (xs (4 * q + 1)), .int (xs (4 * q + 2)), .ref 100]) wL_law_1118 (lw_topplesIfByScan (d := d) (c := (xs (4 * q + 1))) (n := (xs (4 * q + 2))) hct hqo (Or.inr (by decide)) hI) rfl (by omega) (by omega) (by omega) (Nat.le_of_ble_eq_true rfl) (fun v_1 w_1 hP_1 hlen_1 => ?_)
  rcases hP_1 with ⟨hc, hv_1, Lw⟩ | ⟨hc, hv_1, Lw⟩ | ⟨hc, hv_1, Lw⟩
  · have f1 : ∀ z, (z < 0 ∨ 0 + 88 < z) → z ≠ 100 → w_1[z]? = w[z]? := Lw.2.2
    have hm1 := hmd.frame (fun z _ _ => f1 z (by omega) (by omega))
    obtain ⟨fs1, hb1⟩ := hm1.ob
    obtain ⟨q1, hq1, hr1⟩ := Lw.2.1
    rw [hv_1]
    show Wp X (k + 2) (n + 12) w_1 [(0, .ref 2000000), (1, .ref 0), (2, .ref 89), (3, .ref 100), (4, .ref 101), (5, .int (nI (4 * q)))] [.int 0] 1121
    refine r_istore hC dL_law_1121 (by rw [hnl]; decide) (L' := [(6, .int 0), (0, .ref 2000000), (1, .ref 0), (2, .ref 89), (3, .ref 100), (4, .ref 101), (5, .int (nI (4 * q)))]) rfl ?_
    refine r_aload_n hC dL_law_1123 rfl (j := 3) rfl ?_
    refine r_aload_n hC dL_law_1124 rfl (j := 1) rfl ?_
    refine r_iload hC dL_law_1125 (j := 6) rfl ?_
    refine r_iconst hC dL_law_1127 (v := 1) (by decide) ?_
    refine r_iadd hC dL_law_1128 ?_
    rw [show nI (4 * q) + 1 = nI (4 * q + 1) from nI_add (4 * q) 1]
    refine r_ialdX hC dL_law_1129 (j := (4 * q + 1)) hX (mIx_nI (by omega) (by omega)) ?_
    refine r_aload_n hC dL_law_1130 rfl (j := 1) rfl ?_
    refine r_iload hC dL_law_1131 (j := 6) rfl ?_
    refine r_iconst hC dL_law_1133 (v := 2) (by decide) ?_
    refine r_iadd hC dL_law_1134 ?_
    rw [show nI (4 * q) + 2 = nI (4 * q + 2) from nI_add (4 * q) 2]
    refine r_ialdX hC dL_law_1135 (j := (4 * q + 2)) hX (mIx_nI (by omega) (by omega)) ?_
    
    refine r_callV hC (vs := [.int (xs (4 * q + 1)), .int (xs (4 * q + 2))]) vL_law_1136 (sm_topplesIfByScan (d := d) (c := (xs (4 * q + 1))) (x := (xs (4 * q + 2))) hm1 h25 hop hlg (fun h1 h2 => (restF_inv (by decide) (trial_hill hI.1 (isC_lt h1).1 h2)).2)) hb1 rfl rfl (by omega) (by omega) (by omega) (Nat.le_of_ble_eq_true rfl) (fun v_2 w_2 hP_2 hlen_2 => ?_) (fun _ _ h => h.elim)
    rcases hP_2 with ⟨hm, hv_2, T_2⟩ | ⟨hm, hv_2, T_2⟩ | ⟨hm, hv_2, T_2⟩
    · have hqo2 := (T_2.2.2 100 (by omega)).trans hq1
      obtain ⟨fs2, hb2⟩ := T_2.1.ob
      rw [hv_2]
      show Wp X (k + 2) (n + 12) w_2 [(6, .int 0), (0, .ref 2000000), (1, .ref 0), (2, .ref 89), (3, .ref 100), (4, .ref 101), (5, .int (nI (4 * q)))] [.int (nI (hRestF (hPlace (f, g, sl, op, lo) (xs (4 * q + 1)).toNatClampNeg (xs (4 * q + 2)) (-1))).1)] 1139
      refine r_istore hC dL_law_1139 (by rw [hnl]; decide) (L' := [(7, .int (nI (hRestF (hPlace (f, g, sl, op, lo) (xs (4 * q + 1)).toNatClampNeg (xs (4 * q + 2)) (-1))).1)), (6, .int 0), (0, .ref 2000000), (1, .ref 0), (2, .ref 89), (3, .ref 100), (4, .ref 101), (5, .int (nI (4 * q)))]) rfl ?_
      refine r_aload_n hC dL_law_1141 rfl (j := 4) rfl ?_
      refine r_callV hC (vs := []) vL_law_1142 (sm_thrown (d := d) T_2.1) hb2 rfl rfl (by omega) (by omega) (by omega) (Nat.le_of_ble_eq_true rfl) (fun v_11 w_11 hP_11 hlen_11 => ?_) (fun _ _ h => h.elim)
      rw [hP_11.1, hP_11.2]
      show Wp X (k + 2) (n + 12) w_2 [(7, .int (nI (hRestF (hPlace (f, g, sl, op, lo) (xs (4 * q + 1)).toNatClampNeg (xs (4 * q + 2)) (-1))).1)), (6, .int 0), (0, .ref 2000000), (1, .ref 0), (2, .ref 89), (3, .ref 100), (4, .ref 101), (5, .int (nI (4 * q)))] [.int 0] 1145
      refine r_iload hC dL_law_1145 (j := 1) rfl ?_
      refine r_icmp_eq hC dL_law_1147 (tgt := 1152) (by decide) (fun _ => ?_) (fun h => absurd (by decide) h)
      refine r_iload hC dL_law_1152 (j := 1) rfl ?_
      refine r_if_ne hC dL_law_1154 (tgt := 1169) (by decide) (fun h => absurd (by decide) h) (fun _ => ?_)
      refine r_aload_n hC dL_law_1157 rfl (j := 5) rfl ?_
      refine r_iconst hC dL_law_1158 (v := 0) (by decide) ?_
      refine r_lald hC dL_law_1159 (j := 0) hqo2 ⟨by decide, by decide, by decide⟩ ?_
      rw [hr1]
      refine r_iload hC dL_law_1160 (j := 0) rfl ?_
      refine r_i2l hC dL_law_1162 rfl ?_
      refine r_lcmp hC dL_law_1163 ?_
      rw [cmp_self _]
      refine r_if_eq hC dL_law_1164 (tgt := 1169) (by decide) (fun _ => ?_) (fun h => absurd (by decide) h)
      refine r_goto hC dL_law_1169 (tgt := 2109) (by decide) ?_
      refine r_locals [2, 3, 4, 5, 6, 7] (L' := [(0, .ref 2000000), (1, .ref 0), (2, .ref 89), (3, .ref 100), (4, .ref 101), (5, .int (nI (4 * q)))]) rfl ?_
      exact Wp.wid (by omega) (by omega) (kk w_2 (hlen_2.trans hlen_1) (J9.step Lw.1 (fun z h1 h2 h3 => f1 z h1 h2) ⟨q1, hq1⟩ ⟨qd, (f1 101 (by omega) (by omega)).trans hqd⟩ T_2 (hOK)))
    · exfalso
      first | exact absurd hc hm | exact absurd hm hc | (rw [hc] at hm; cases hm; done) | (rw [hc.1] at hm; cases hm; done) | (rw [hc] at hm; exact absurd hm.1 (by decide)) | (rw [hc.1] at hm; exact absurd hm.1 (by decide)) | exact absurd hm.2 hc.2 | exact absurd hc.2 hm.2 | (have h9 := hm.2; rw [hc.2] at h9; cases h9; done)
    · exfalso
      first | exact absurd hc hm | exact absurd hm hc | (rw [hc] at hm; cases hm; done) | (rw [hc.1] at hm; cases hm; done) | (rw [hc] at hm; exact absurd hm.1 (by decide)) | (rw [hc.1] at hm; exact absurd hm.1 (by decide)) | exact absurd hm.2 hc.2 | exact absurd hc.2 hm.2 | (have h9 := hm.2; rw [hc.2] at h9; cases h9; done)
  · have f1 : ∀ z, (z < 0 ∨ 0 + 88 < z) → z ≠ 100 → w_1[z]? = w[z]? := Lw.2.2
    have hm1 := hmd.frame (fun z _ _ => f1 z (by omega) (by omega))
    obtain ⟨fs1, hb1⟩ := hm1.ob
    obtain ⟨q1, hq1⟩ := Lw.2.1
    rw [hv_1]
    show Wp X (k + 2) (n + 12) w_1 [(0, .ref 2000000), (1, .ref 0), (2, .ref 89), (3, .ref 100), (4, .ref 101), (5, .int (nI (4 * q)))] [.int 1] 1121
    refine r_istore hC dL_law_1121 (by rw [hnl]; decide) (L' := [(6, .int 1), (0, .ref 2000000), (1, .ref 0), (2, .ref 89), (3, .ref 100), (4, .ref 101), (5, .int (nI (4 * q)))]) rfl ?_
    refine r_aload_n hC dL_law_1123 rfl (j := 3) rfl ?_
    refine r_aload_n hC dL_law_1124 rfl (j := 1) rfl ?_
    refine r_iload hC dL_law_1125 (j := 6) rfl ?_
    refine r_iconst hC dL_law_1127 (v := 1) (by decide) ?_
    refine r_iadd hC dL_law_1128 ?_
    rw [show nI (4 * q) + 1 = nI (4 * q + 1) from nI_add (4 * q) 1]
    refine r_ialdX hC dL_law_1129 (j := (4 * q + 1)) hX (mIx_nI (by omega) (by omega)) ?_
    refine r_aload_n hC dL_law_1130 rfl (j := 1) rfl ?_
    refine r_iload hC dL_law_1131 (j := 6) rfl ?_
    refine r_iconst hC dL_law_1133 (v := 2) (by decide) ?_
    refine r_iadd hC dL_law_1134 ?_
    rw [show nI (4 * q) + 2 = nI (4 * q + 2) from nI_add (4 * q) 2]
    refine r_ialdX hC dL_law_1135 (j := (4 * q + 2)) hX (mIx_nI (by omega) (by omega)) ?_
    
    refine r_callV hC (vs := [.int (xs (4 * q + 1)), .int (xs (4 * q + 2))]) vL_law_1136 (sm_topplesIfByScan (d := d) (c := (xs (4 * q + 1))) (x := (xs (4 * q + 2))) hm1 h25 hop hlg (fun h1 h2 => (restF_inv (by decide) (trial_hill hI.1 (isC_lt h1).1 h2)).2)) hb1 rfl rfl (by omega) (by omega) (by omega) (Nat.le_of_ble_eq_true rfl) (fun v_2 w_2 hP_2 hlen_2 => ?_) (fun _ _ h => h.elim)
    rcases hP_2 with ⟨hm, hv_2, T_2⟩ | ⟨hm, hv_2, T_2⟩ | ⟨hm, hv_2, T_2⟩
    · exfalso
      first | exact absurd hc hm | exact absurd hm hc | (rw [hc] at hm; cases hm; done) | (rw [hc.1] at hm; cases hm; done) | (rw [hc] at hm; exact absurd hm.1 (by decide)) | (rw [hc.1] at hm; exact absurd hm.1 (by decide)) | exact absurd hm.2 hc.2 | exact absurd hc.2 hm.2 | (have h9 := hm.2; rw [hc.2] at h9; cases h9; done)
    · exfalso
      first | exact absurd hc hm | exact absurd hm hc | (rw [hc] at hm; cases hm; done) | (rw [hc.1] at hm; cases hm; done) | (rw [hc] at hm; exact absurd hm.1 (by decide)) | (rw [hc.1] at hm; exact absurd hm.1 (by decide)) | exact absurd hm.2 hc.2 | exact absurd hc.2 hm.2 | (have h9 := hm.2; rw [hc.2] at h9; cases h9; done)
    · have hqo2 := (T_2.2.2 100 (by omega)).trans hq1
      obtain ⟨fs2, hb2⟩ := T_2.1.ob
      rw [hv_2]
      show Wp X (k + 2) (n + 12) w_2 [(6, .int 1), (0, .ref 2000000), (1, .ref 0), (2, .ref 89), (3, .ref 100), (4, .ref 101), (5, .int (nI (4 * q)))] [.int 0] 1139
      refine r_istore hC dL_law_1139 (by rw [hnl]; decide) (L' := [(7, .int 0), (6, .int 1), (0, .ref 2000000), (1, .ref 0), (2, .ref 89), (3, .ref 100), (4, .ref 101), (5, .int (nI (4 * q)))]) rfl ?_
      refine r_aload_n hC dL_law_1141 rfl (j := 4) rfl ?_
      refine r_callV hC (vs := []) vL_law_1142 (sm_thrown (d := d) T_2.1) hb2 rfl rfl (by omega) (by omega) (by omega) (Nat.le_of_ble_eq_true rfl) (fun v_11 w_11 hP_11 hlen_11 => ?_) (fun _ _ h => h.elim)
      rw [hP_11.1, hP_11.2]
      show Wp X (k + 2) (n + 12) w_2 [(7, .int 0), (6, .int 1), (0, .ref 2000000), (1, .ref 0), (2, .ref 89), (3, .ref 100), (4, .ref 101), (5, .int (nI (4 * q)))] [.int 1] 1145
      refine r_iload hC dL_law_1145 (j := 1) rfl ?_
      refine r_icmp_eq hC dL_law_1147 (tgt := 1152) (by decide) (fun _ => ?_) (fun h => absurd (by decide) h)
      refine r_iload hC dL_law_1152 (j := 1) rfl ?_
      refine r_if_ne hC dL_law_1154 (tgt := 1169) (by decide) (fun _ => ?_) (fun h => absurd h (by decide))
      refine r_goto hC dL_law_1169 (tgt := 2109) (by decide) ?_
      refine r_locals [2, 3, 4, 5, 6, 7] (L' := [(0, .ref 2000000), (1, .ref 0), (2, .ref 89), (3, .ref 100), (4, .ref 101), (5, .int (nI (4 * q)))]) rfl ?_
      exact Wp.wid (by omega) (by omega) (kk w_2 (hlen_2.trans hlen_1) (J9.step Lw.1 (fun z h1 h2 h3 => f1 z h1 h2) ⟨q1, hq1⟩ ⟨qd, (f1 101 (by omega) (by omega)).trans hqd⟩ T_2 (hOK)))
  · have f1 : ∀ z, (z < 0 ∨ 0 + 88 < z) → z ≠ 100 → w_1[z]? = w[z]? := Lw.2.2
    have hm1 := hmd.frame (fun z _ _ => f1 z (by omega) (by omega))
    obtain ⟨fs1, hb1⟩ := hm1.ob
    obtain ⟨q1, hq1⟩ := Lw.2.1
    rw [hv_1]
    show Wp X (k + 2) (n + 12) w_1 [(0, .ref 2000000), (1, .ref 0), (2, .ref 89), (3, .ref 100), (4, .ref 101), (5, .int (nI (4 * q)))] [.int 2] 1121
    refine r_istore hC dL_law_1121 (by rw [hnl]; decide) (L' := [(6, .int 2), (0, .ref 2000000), (1, .ref 0), (2, .ref 89), (3, .ref 100), (4, .ref 101), (5, .int (nI (4 * q)))]) rfl ?_
    refine r_aload_n hC dL_law_1123 rfl (j := 3) rfl ?_
    refine r_aload_n hC dL_law_1124 rfl (j := 1) rfl ?_
    refine r_iload hC dL_law_1125 (j := 6) rfl ?_
    refine r_iconst hC dL_law_1127 (v := 1) (by decide) ?_
    refine r_iadd hC dL_law_1128 ?_
    rw [show nI (4 * q) + 1 = nI (4 * q + 1) from nI_add (4 * q) 1]
    refine r_ialdX hC dL_law_1129 (j := (4 * q + 1)) hX (mIx_nI (by omega) (by omega)) ?_
    refine r_aload_n hC dL_law_1130 rfl (j := 1) rfl ?_
    refine r_iload hC dL_law_1131 (j := 6) rfl ?_
    refine r_iconst hC dL_law_1133 (v := 2) (by decide) ?_
    refine r_iadd hC dL_law_1134 ?_
    rw [show nI (4 * q) + 2 = nI (4 * q + 2) from nI_add (4 * q) 2]
    refine r_ialdX hC dL_law_1135 (j := (4 * q + 2)) hX (mIx_nI (by omega) (by omega)) ?_
    
    refine r_callV hC (vs := [.int (xs (4 * q + 1)), .int (xs (4 * q + 2))]) vL_law_1136 (sm_topplesIfByScan (d := d) (c := (xs (4 * q + 1))) (x := (xs (4 * q + 2))) hm1 h25 hop hlg (fun h1 h2 => (restF_inv (by decide) (trial_hill hI.1 (isC_lt h1).1 h2)).2)) hb1 rfl rfl (by omega) (by omega) (by omega) (Nat.le_of_ble_eq_true rfl) (fun v_2 w_2 hP_2 hlen_2 => ?_) (fun _ _ h => h.elim)
    rcases hP_2 with ⟨hm, hv_2, T_2⟩ | ⟨hm, hv_2, T_2⟩ | ⟨hm, hv_2, T_2⟩
    · exfalso
      first | exact absurd hc hm | exact absurd hm hc | (rw [hc] at hm; cases hm; done) | (rw [hc.1] at hm; cases hm; done) | (rw [hc] at hm; exact absurd hm.1 (by decide)) | (rw [hc.1] at hm; exact absurd hm.1 (by decide)) | exact absurd hm.2 hc.2 | exact absurd hc.2 hm.2 | (have h9 := hm.2; rw [hc.2] at h9; cases h9; done)
    · have hqo2 := (T_2.2.2 100 (by omega)).trans hq1
      obtain ⟨fs2, hb2⟩ := T_2.1.ob
      rw [hv_2]
      show Wp X (k + 2) (n + 12) w_2 [(6, .int 2), (0, .ref 2000000), (1, .ref 0), (2, .ref 89), (3, .ref 100), (4, .ref 101), (5, .int (nI (4 * q)))] [.int 0] 1139
      refine r_istore hC dL_law_1139 (by rw [hnl]; decide) (L' := [(7, .int 0), (6, .int 2), (0, .ref 2000000), (1, .ref 0), (2, .ref 89), (3, .ref 100), (4, .ref 101), (5, .int (nI (4 * q)))]) rfl ?_
      refine r_aload_n hC dL_law_1141 rfl (j := 4) rfl ?_
      refine r_callV hC (vs := []) vL_law_1142 (sm_thrown (d := d) T_2.1) hb2 rfl rfl (by omega) (by omega) (by omega) (Nat.le_of_ble_eq_true rfl) (fun v_11 w_11 hP_11 hlen_11 => ?_) (fun _ _ h => h.elim)
      rw [hP_11.1, hP_11.2]
      show Wp X (k + 2) (n + 12) w_2 [(7, .int 0), (6, .int 2), (0, .ref 2000000), (1, .ref 0), (2, .ref 89), (3, .ref 100), (4, .ref 101), (5, .int (nI (4 * q)))] [.int 2] 1145
      refine r_iload hC dL_law_1145 (j := 1) rfl ?_
      refine r_icmp_eq hC dL_law_1147 (tgt := 1152) (by decide) (fun _ => ?_) (fun h => absurd (by decide) h)
      refine r_iload hC dL_law_1152 (j := 1) rfl ?_
      refine r_if_ne hC dL_law_1154 (tgt := 1169) (by decide) (fun _ => ?_) (fun h => absurd h (by decide))
      refine r_goto hC dL_law_1169 (tgt := 2109) (by decide) ?_
      refine r_locals [2, 3, 4, 5, 6, 7] (L' := [(0, .ref 2000000), (1, .ref 0), (2, .ref 89), (3, .ref 100), (4, .ref 101), (5, .int (nI (4 * q)))]) rfl ?_
      exact Wp.wid (by omega) (by omega) (kk w_2 (hlen_2.trans hlen_1) (J9.step Lw.1 (fun z h1 h2 h3 => f1 z h1 h2) ⟨q1, hq1⟩ ⟨qd, (f1 101 (by omega) (by omega)).trans hqd⟩ T_2 (hOK)))
    · exfalso
      first | exact absurd hc hm | exact absurd hm hc | (rw [hc] at hm; cases hm; done) | (rw [hc.1] at hm; cases hm; done) | (rw [hc] at hm; exact absurd hm.1 (by decide)) | (rw [hc.1] at hm; exact absurd hm.1 (by decide)) | exact absurd hm.2 hc.2 | exact absurd hc.2 hm.2 | (have h9 := hm.2; rw [hc.2] at h9; cases h9; done)
end LP
