section LP3
set_option maxRecDepth 100000 in
set_option maxHeartbeats 4000000 in
theorem op_0 {X : mC} {d q mc ms k n : Nat} {w : mW} {N : Nat} {xs : Nat → Int32} {th : Int32} {f g : Nat → Int32} {sl op lo : Int32} {hd rs : Nat → Int32} {np : Nat} {tp av lg pl tk : Int32} {l : List sv} {ea fa : Int32} {so : Option sv} {txl lnl : List Nat} {tx : Nat → Int32} {tn : Nat} {lf : Nat → Int32} {ln : Nat} (hX : mScr X N xs) (J : JI w th ((f, g, sl, op, lo), hd, rs, np, tp, av, lg, pl, tk) l ea fa so txl lnl tx tn lf ln) (hC : Cx X RL cL_law (d + 12) mc ms) (hnl : mNL X = 9) (hq : 4 * q + 4 ≤ N) (hN : N ≤ 2048) (hk : k + 25 ≤ mc) (hn : n + 3100 ≤ ms) (kk : ∀ w', w'.length = w.length → JV w' → Wp X (k + 25) (n + 3100) w' [(0, .ref 2000000), (1, .ref 0), (2, .ref 89), (3, .ref 100), (4, .ref 101), (5, .int (nI (4 * q)))] [] 2109)  : Wp X k n w [(0, .ref 2000000), (1, .ref 0), (2, .ref 89), (3, .ref 100), (4, .ref 101), (5, .int (nI (4 * q)))] [] 240 := by
  have J9 := J
  obtain ⟨hct, hmd, ⟨qo, hqo⟩, ⟨qd, hqd⟩, hOK⟩ := J
  have hI : SInv ((f, g, sl, op, lo), hd, rs, np, tp, av, lg, pl, tk) := hOK.2.2.1
  have hnp : np ≤ 4 := hI.2.2
  have h25 : f 25 = 0 := hI.1.2.1
  have hop : op = 0 ∨ op = 1 := hI.1.2.2.1
  have hpos : ∀ j, j < 25 → ¬ f j < 0 := hI.1.1.1
  have hlg : ¬ lg < 0 := hI.2.1
  have hea := hOK.2.2.2.2.2.2.2.2.1
  have hfa := hOK.2.2.2.2.2.2.2.2.2
  obtain ⟨fc0, hc0⟩ := hct.ob
  obtain ⟨fm0, hm0⟩ := hmd.ob
  have hI9 : fltEntry np (xs (4 * q + 1)) = 1000010 → SInv ((f, g, sl, op, lo), upd hd np (xs (4 * q + 1)), upd rs np 0, np + 1, tp, av, lg, pl, tk) := fun h => inv_0 hI h
  refine r_aload_n hC dL_law_240 rfl (j := 1) rfl ?_
  refine r_aload_n hC dL_law_241 rfl (j := 0) rfl ?_
  refine r_iload hC dL_law_242 (j := 5) rfl ?_
  refine r_iconst hC dL_law_244 (v := 1) (by decide) ?_
  refine r_iadd hC dL_law_245 ?_
  rw [show nI (4 * q) + 1 = nI (4 * q + 1) from nI_add (4 * q) 1]
  refine r_ialdX hC dL_law_246 (j := (4 * q + 1)) hX (mIx_nI (by omega) (by omega)) ?_
  refine r_aload_n hC dL_law_247 rfl (j := 3) rfl ?_
  
  refine r_callH hC (vs := [.ref 0, .int (xs (4 * q + 1)), .ref 100]) wL_law_248 (lw_addPlayer (d := d) (n := (xs (4 * q + 1))) hct hqo (Or.inr (by decide)) hI) rfl (by omega) (by omega) (by omega) (Nat.le_of_ble_eq_true rfl) (fun v_1 w_1 hP_1 hlen_1 => ?_)
  rcases hP_1 with ⟨hc, hv_1, Lw⟩ | ⟨hc, hv_1, Lw⟩
  · have f1 : ∀ z, (z < 0 ∨ 0 + 88 < z) → z ≠ 100 → w_1[z]? = w[z]? := Lw.2.2
    have hm1 := hmd.frame (fun z _ _ => f1 z (by omega) (by omega))
    obtain ⟨fs1, hb1⟩ := hm1.ob
    obtain ⟨q1, hq1, hr1⟩ := Lw.2.1
    rw [hv_1]
    show Wp X (k + 1) (n + 6) w_1 [(0, .ref 2000000), (1, .ref 0), (2, .ref 89), (3, .ref 100), (4, .ref 101), (5, .int (nI (4 * q)))] [.int 0] 251
    refine r_istore hC dL_law_251 (by rw [hnl]; decide) (L' := [(6, .int 0), (0, .ref 2000000), (1, .ref 0), (2, .ref 89), (3, .ref 100), (4, .ref 101), (5, .int (nI (4 * q)))]) rfl ?_
    refine r_aload_n hC dL_law_253 rfl (j := 3) rfl ?_
    refine r_aload_n hC dL_law_254 rfl (j := 1) rfl ?_
    refine r_iload hC dL_law_255 (j := 6) rfl ?_
    refine r_iconst hC dL_law_257 (v := 1) (by decide) ?_
    refine r_iadd hC dL_law_258 ?_
    rw [show nI (4 * q) + 1 = nI (4 * q + 1) from nI_add (4 * q) 1]
    refine r_ialdX hC dL_law_259 (j := (4 * q + 1)) hX (mIx_nI (by omega) (by omega)) ?_
    
    refine r_callV hC (vs := [.int (xs (4 * q + 1))]) vL_law_260 (sm_addPlayer (d := d) (x := (xs (4 * q + 1))) hm1 hnp) hb1 rfl rfl (by omega) (by omega) (by omega) (Nat.le_of_ble_eq_true rfl) (fun v_2 w_2 hP_2 hlen_2 => ?_) (fun _ _ h => h.elim)
    rcases hP_2 with ⟨hm, hv_2, T_2⟩ | ⟨hm, hv_2, T_2⟩
    · have hqo2 := (T_2.2.2 100 (by omega)).trans hq1
      obtain ⟨fs2, hb2⟩ := T_2.1.ob
      rw [hv_2]
      show Wp X (k + 1) (n + 6) w_2 [(6, .int 0), (0, .ref 2000000), (1, .ref 0), (2, .ref 89), (3, .ref 100), (4, .ref 101), (5, .int (nI (4 * q)))] [.int (nI np)] 263
      refine r_istore hC dL_law_263 (by rw [hnl]; decide) (L' := [(7, .int (nI np)), (6, .int 0), (0, .ref 2000000), (1, .ref 0), (2, .ref 89), (3, .ref 100), (4, .ref 101), (5, .int (nI (4 * q)))]) rfl ?_
      refine r_aload_n hC dL_law_265 rfl (j := 4) rfl ?_
      refine r_callV hC (vs := []) vL_law_266 (sm_thrown (d := d) T_2.1) hb2 rfl rfl (by omega) (by omega) (by omega) (Nat.le_of_ble_eq_true rfl) (fun v_11 w_11 hP_11 hlen_11 => ?_) (fun _ _ h => h.elim)
      rw [hP_11.1, hP_11.2]
      show Wp X (k + 1) (n + 6) w_2 [(7, .int (nI np)), (6, .int 0), (0, .ref 2000000), (1, .ref 0), (2, .ref 89), (3, .ref 100), (4, .ref 101), (5, .int (nI (4 * q)))] [.int 0] 269
      refine r_iload hC dL_law_269 (j := 1) rfl ?_
      refine r_icmp_eq hC dL_law_271 (tgt := 276) (by decide) (fun _ => ?_) (fun h => absurd (by decide) h)
      refine r_iload hC dL_law_276 (j := 1) rfl ?_
      refine r_if_ne hC dL_law_278 (tgt := 293) (by decide) (fun h => absurd (by decide) h) (fun _ => ?_)
      refine r_aload_n hC dL_law_281 rfl (j := 5) rfl ?_
      refine r_iconst hC dL_law_282 (v := 0) (by decide) ?_
      refine r_lald hC dL_law_283 (j := 0) hqo2 ⟨by decide, by decide, by decide⟩ ?_
      rw [hr1]
      refine r_iload hC dL_law_284 (j := 0) rfl ?_
      refine r_i2l hC dL_law_286 rfl ?_
      refine r_lcmp hC dL_law_287 ?_
      rw [cmp_self _]
      refine r_if_eq hC dL_law_288 (tgt := 293) (by decide) (fun _ => ?_) (fun h => absurd (by decide) h)
      refine r_goto hC dL_law_293 (tgt := 2109) (by decide) ?_
      refine r_locals [2, 3, 4, 5, 6, 7] (L' := [(0, .ref 2000000), (1, .ref 0), (2, .ref 89), (3, .ref 100), (4, .ref 101), (5, .int (nI (4 * q)))]) rfl ?_
      exact Wp.wid (by omega) (by omega) (kk w_2 (hlen_2.trans hlen_1) (J9.step Lw.1 (fun z h1 h2 h3 => f1 z h1 h2) ⟨q1, hq1⟩ ⟨qd, (f1 101 (by omega) (by omega)).trans hqd⟩ T_2 (⟨hOK.1, hOK.2.1, hI9 hc, all_push hOK.2.2.2.1 hI, hOK.2.2.2.2⟩)))
    · exfalso
      first | exact absurd hc hm | exact absurd hm hc | (rw [hc] at hm; cases hm; done) | (rw [hc.1] at hm; cases hm; done) | (rw [hc] at hm; exact absurd hm.1 (by decide)) | (rw [hc.1] at hm; exact absurd hm.1 (by decide)) | exact absurd hm.2 hc.2 | exact absurd hc.2 hm.2 | (have h9 := hm.2; rw [hc.2] at h9; cases h9; done)
  · have f1 : ∀ z, (z < 0 ∨ 0 + 88 < z) → z ≠ 100 → w_1[z]? = w[z]? := Lw.2.2
    have hm1 := hmd.frame (fun z _ _ => f1 z (by omega) (by omega))
    obtain ⟨fs1, hb1⟩ := hm1.ob
    obtain ⟨q1, hq1⟩ := Lw.2.1
    rw [hv_1]
    show Wp X (k + 1) (n + 6) w_1 [(0, .ref 2000000), (1, .ref 0), (2, .ref 89), (3, .ref 100), (4, .ref 101), (5, .int (nI (4 * q)))] [.int (nE (fltEntry np (xs (4 * q + 1))))] 251
    refine r_istore hC dL_law_251 (by rw [hnl]; decide) (L' := [(6, .int (nE (fltEntry np (xs (4 * q + 1))))), (0, .ref 2000000), (1, .ref 0), (2, .ref 89), (3, .ref 100), (4, .ref 101), (5, .int (nI (4 * q)))]) rfl ?_
    refine r_aload_n hC dL_law_253 rfl (j := 3) rfl ?_
    refine r_aload_n hC dL_law_254 rfl (j := 1) rfl ?_
    refine r_iload hC dL_law_255 (j := 6) rfl ?_
    refine r_iconst hC dL_law_257 (v := 1) (by decide) ?_
    refine r_iadd hC dL_law_258 ?_
    rw [show nI (4 * q) + 1 = nI (4 * q + 1) from nI_add (4 * q) 1]
    refine r_ialdX hC dL_law_259 (j := (4 * q + 1)) hX (mIx_nI (by omega) (by omega)) ?_
    
    refine r_callV hC (vs := [.int (xs (4 * q + 1))]) vL_law_260 (sm_addPlayer (d := d) (x := (xs (4 * q + 1))) hm1 hnp) hb1 rfl rfl (by omega) (by omega) (by omega) (Nat.le_of_ble_eq_true rfl) (fun v_2 w_2 hP_2 hlen_2 => ?_) (fun _ _ h => h.elim)
    rcases hP_2 with ⟨hm, hv_2, T_2⟩ | ⟨hm, hv_2, T_2⟩
    · exfalso
      first | exact absurd hc hm | exact absurd hm hc | (rw [hc] at hm; cases hm; done) | (rw [hc.1] at hm; cases hm; done) | (rw [hc] at hm; exact absurd hm.1 (by decide)) | (rw [hc.1] at hm; exact absurd hm.1 (by decide)) | exact absurd hm.2 hc.2 | exact absurd hc.2 hm.2 | (have h9 := hm.2; rw [hc.2] at h9; cases h9; done)
    · have hqo2 := (T_2.2.2 100 (by omega)).trans hq1
      obtain ⟨fs2, hb2⟩ := T_2.1.ob
      rw [hv_2]
      show Wp X (k + 1) (n + 6) w_2 [(6, .int (nE (fltEntry np (xs (4 * q + 1))))), (0, .ref 2000000), (1, .ref 0), (2, .ref 89), (3, .ref 100), (4, .ref 101), (5, .int (nI (4 * q)))] [.int 0] 263
      refine r_istore hC dL_law_263 (by rw [hnl]; decide) (L' := [(7, .int 0), (6, .int (nE (fltEntry np (xs (4 * q + 1))))), (0, .ref 2000000), (1, .ref 0), (2, .ref 89), (3, .ref 100), (4, .ref 101), (5, .int (nI (4 * q)))]) rfl ?_
      refine r_aload_n hC dL_law_265 rfl (j := 4) rfl ?_
      refine r_callV hC (vs := []) vL_law_266 (sm_thrown (d := d) T_2.1) hb2 rfl rfl (by omega) (by omega) (by omega) (Nat.le_of_ble_eq_true rfl) (fun v_11 w_11 hP_11 hlen_11 => ?_) (fun _ _ h => h.elim)
      rw [hP_11.1, hP_11.2]
      show Wp X (k + 1) (n + 6) w_2 [(7, .int 0), (6, .int (nE (fltEntry np (xs (4 * q + 1))))), (0, .ref 2000000), (1, .ref 0), (2, .ref 89), (3, .ref 100), (4, .ref 101), (5, .int (nI (4 * q)))] [.int (nE (fltEntry np (xs (4 * q + 1))))] 269
      refine r_iload hC dL_law_269 (j := 1) rfl ?_
      refine r_icmp_eq hC dL_law_271 (tgt := 276) (by decide) (fun _ => ?_) (fun h => absurd rfl h)
      refine r_iload hC dL_law_276 (j := 1) rfl ?_
      refine r_if_ne hC dL_law_278 (tgt := 293) (by decide) (fun _ => ?_) (fun h => absurd h nE_ne)
      refine r_goto hC dL_law_293 (tgt := 2109) (by decide) ?_
      refine r_locals [2, 3, 4, 5, 6, 7] (L' := [(0, .ref 2000000), (1, .ref 0), (2, .ref 89), (3, .ref 100), (4, .ref 101), (5, .int (nI (4 * q)))]) rfl ?_
      exact Wp.wid (by omega) (by omega) (kk w_2 (hlen_2.trans hlen_1) (J9.step Lw.1 (fun z h1 h2 h3 => f1 z h1 h2) ⟨q1, hq1⟩ ⟨qd, (f1 101 (by omega) (by omega)).trans hqd⟩ T_2 (hOK)))
set_option maxRecDepth 100000 in
set_option maxHeartbeats 4000000 in
theorem op_8 {X : mC} {d q mc ms k n : Nat} {w : mW} {N : Nat} {xs : Nat → Int32} {th : Int32} {f g : Nat → Int32} {sl op lo : Int32} {hd rs : Nat → Int32} {np : Nat} {tp av lg pl tk : Int32} {l : List sv} {ea fa : Int32} {so : Option sv} {txl lnl : List Nat} {tx : Nat → Int32} {tn : Nat} {lf : Nat → Int32} {ln : Nat} (hX : mScr X N xs) (J : JI w th ((f, g, sl, op, lo), hd, rs, np, tp, av, lg, pl, tk) l ea fa so txl lnl tx tn lf ln) (hC : Cx X RL cL_law (d + 12) mc ms) (hnl : mNL X = 9) (hq : 4 * q + 4 ≤ N) (hN : N ≤ 2048) (hk : k + 25 ≤ mc) (hn : n + 3100 ≤ ms) (kk : ∀ w', w'.length = w.length → JV w' → Wp X (k + 25) (n + 3100) w' [(0, .ref 2000000), (1, .ref 0), (2, .ref 89), (3, .ref 100), (4, .ref 101), (5, .int (nI (4 * q)))] [] 2109)  : Wp X k n w [(0, .ref 2000000), (1, .ref 0), (2, .ref 89), (3, .ref 100), (4, .ref 101), (5, .int (nI (4 * q)))] [] 650 := by
  have J9 := J
  obtain ⟨hct, hmd, ⟨qo, hqo⟩, ⟨qd, hqd⟩, hOK⟩ := J
  have hI : SInv ((f, g, sl, op, lo), hd, rs, np, tp, av, lg, pl, tk) := hOK.2.2.1
  have hnp : np ≤ 4 := hI.2.2
  have h25 : f 25 = 0 := hI.1.2.1
  have hop : op = 0 ∨ op = 1 := hI.1.2.2.1
  have hpos : ∀ j, j < 25 → ¬ f j < 0 := hI.1.1.1
  have hlg : ¬ lg < 0 := hI.2.1
  have hea := hOK.2.2.2.2.2.2.2.2.1
  have hfa := hOK.2.2.2.2.2.2.2.2.2
  obtain ⟨fc0, hc0⟩ := hct.ob
  obtain ⟨fm0, hm0⟩ := hmd.ob
  have hI9 : fltSlope (xs (4 * q + 1)) = 1000010 → SInv (sSlope ((f, g, sl, op, lo), hd, rs, np, tp, av, lg, pl, tk) (xs (4 * q + 1))) := fun h => (inv_5 hI h).1
  have hT9 : fltSlope (xs (4 * q + 1)) = 1000010 → hNx (hRestF (f, g, (xs (4 * q + 1)), op, lo)).2 = none := fun h => (inv_5 hI h).2
  refine r_aload_n hC dL_law_650 rfl (j := 1) rfl ?_
  refine r_aload_n hC dL_law_651 rfl (j := 0) rfl ?_
  refine r_iload hC dL_law_652 (j := 5) rfl ?_
  refine r_iconst hC dL_law_654 (v := 1) (by decide) ?_
  refine r_iadd hC dL_law_655 ?_
  rw [show nI (4 * q) + 1 = nI (4 * q + 1) from nI_add (4 * q) 1]
  refine r_ialdX hC dL_law_656 (j := (4 * q + 1)) hX (mIx_nI (by omega) (by omega)) ?_
  refine r_aload_n hC dL_law_657 rfl (j := 3) rfl ?_
  
  refine r_callH hC (vs := [.ref 0, .int (xs (4 * q + 1)), .ref 100]) wL_law_658 (lw_setSlope (d := d) (n := (xs (4 * q + 1))) hct hqo (Or.inr (by decide)) hI) rfl (by omega) (by omega) (by omega) (Nat.le_of_ble_eq_true rfl) (fun v_1 w_1 hP_1 hlen_1 => ?_)
  rcases hP_1 with ⟨hc, hv_1, Lw⟩ | ⟨hc, hv_1, Lw⟩
  · have f1 : ∀ z, (z < 0 ∨ 0 + 88 < z) → z ≠ 100 → w_1[z]? = w[z]? := Lw.2.2
    have hm1 := hmd.frame (fun z _ _ => f1 z (by omega) (by omega))
    obtain ⟨fs1, hb1⟩ := hm1.ob
    obtain ⟨q1, hq1, hr1⟩ := Lw.2.1
    rw [hv_1]
    show Wp X (k + 1) (n + 6) w_1 [(0, .ref 2000000), (1, .ref 0), (2, .ref 89), (3, .ref 100), (4, .ref 101), (5, .int (nI (4 * q)))] [.int 0] 661
    refine r_istore hC dL_law_661 (by rw [hnl]; decide) (L' := [(6, .int 0), (0, .ref 2000000), (1, .ref 0), (2, .ref 89), (3, .ref 100), (4, .ref 101), (5, .int (nI (4 * q)))]) rfl ?_
    refine r_aload_n hC dL_law_663 rfl (j := 3) rfl ?_
    refine r_aload_n hC dL_law_664 rfl (j := 1) rfl ?_
    refine r_iload hC dL_law_665 (j := 6) rfl ?_
    refine r_iconst hC dL_law_667 (v := 1) (by decide) ?_
    refine r_iadd hC dL_law_668 ?_
    rw [show nI (4 * q) + 1 = nI (4 * q + 1) from nI_add (4 * q) 1]
    refine r_ialdX hC dL_law_669 (j := (4 * q + 1)) hX (mIx_nI (by omega) (by omega)) ?_
    
    refine r_callV hC (vs := [.int (xs (4 * q + 1))]) vL_law_670 (sm_setSlope (d := d) (x := (xs (4 * q + 1))) hm1 h25 hop hlg hT9) hb1 rfl rfl (by omega) (by omega) (by omega) (Nat.le_of_ble_eq_true rfl) (fun v_2 w_2 hP_2 hlen_2 => ?_) (fun _ _ h => h.elim)
    rcases hP_2 with ⟨hm, hv_2, T_2⟩ | ⟨hm, hv_2, T_2⟩
    · have hqo2 := (T_2.2.2 100 (by omega)).trans hq1
      obtain ⟨fs2, hb2⟩ := T_2.1.ob
      rw [hv_2]
      show Wp X (k + 1) (n + 6) w_2 [(6, .int 0), (0, .ref 2000000), (1, .ref 0), (2, .ref 89), (3, .ref 100), (4, .ref 101), (5, .int (nI (4 * q)))] [.int (nI (hRestF (f, g, (xs (4 * q + 1)), op, lo)).1)] 673
      refine r_istore hC dL_law_673 (by rw [hnl]; decide) (L' := [(7, .int (nI (hRestF (f, g, (xs (4 * q + 1)), op, lo)).1)), (6, .int 0), (0, .ref 2000000), (1, .ref 0), (2, .ref 89), (3, .ref 100), (4, .ref 101), (5, .int (nI (4 * q)))]) rfl ?_
      refine r_aload_n hC dL_law_675 rfl (j := 4) rfl ?_
      refine r_callV hC (vs := []) vL_law_676 (sm_thrown (d := d) T_2.1) hb2 rfl rfl (by omega) (by omega) (by omega) (Nat.le_of_ble_eq_true rfl) (fun v_11 w_11 hP_11 hlen_11 => ?_) (fun _ _ h => h.elim)
      rw [hP_11.1, hP_11.2]
      show Wp X (k + 1) (n + 6) w_2 [(7, .int (nI (hRestF (f, g, (xs (4 * q + 1)), op, lo)).1)), (6, .int 0), (0, .ref 2000000), (1, .ref 0), (2, .ref 89), (3, .ref 100), (4, .ref 101), (5, .int (nI (4 * q)))] [.int 0] 679
      refine r_iload hC dL_law_679 (j := 1) rfl ?_
      refine r_icmp_eq hC dL_law_681 (tgt := 686) (by decide) (fun _ => ?_) (fun h => absurd (by decide) h)
      refine r_iload hC dL_law_686 (j := 1) rfl ?_
      refine r_if_ne hC dL_law_688 (tgt := 703) (by decide) (fun h => absurd (by decide) h) (fun _ => ?_)
      refine r_aload_n hC dL_law_691 rfl (j := 5) rfl ?_
      refine r_iconst hC dL_law_692 (v := 0) (by decide) ?_
      refine r_lald hC dL_law_693 (j := 0) hqo2 ⟨by decide, by decide, by decide⟩ ?_
      rw [hr1]
      refine r_iload hC dL_law_694 (j := 0) rfl ?_
      refine r_i2l hC dL_law_696 rfl ?_
      refine r_lcmp hC dL_law_697 ?_
      rw [cmp_self _]
      refine r_if_eq hC dL_law_698 (tgt := 703) (by decide) (fun _ => ?_) (fun h => absurd (by decide) h)
      refine r_goto hC dL_law_703 (tgt := 2109) (by decide) ?_
      refine r_locals [2, 3, 4, 5, 6, 7] (L' := [(0, .ref 2000000), (1, .ref 0), (2, .ref 89), (3, .ref 100), (4, .ref 101), (5, .int (nI (4 * q)))]) rfl ?_
      exact Wp.wid (by omega) (by omega) (kk w_2 (hlen_2.trans hlen_1) (J9.step Lw.1 (fun z h1 h2 h3 => f1 z h1 h2) ⟨q1, hq1⟩ ⟨qd, (f1 101 (by omega) (by omega)).trans hqd⟩ T_2 (⟨hOK.1, hOK.2.1, hI9 hc, all_push hOK.2.2.2.1 hI, hOK.2.2.2.2⟩)))
    · exfalso
      first | exact absurd hc hm | exact absurd hm hc | (rw [hc] at hm; cases hm; done) | (rw [hc.1] at hm; cases hm; done) | (rw [hc] at hm; exact absurd hm.1 (by decide)) | (rw [hc.1] at hm; exact absurd hm.1 (by decide)) | exact absurd hm.2 hc.2 | exact absurd hc.2 hm.2 | (have h9 := hm.2; rw [hc.2] at h9; cases h9; done)
  · have f1 : ∀ z, (z < 0 ∨ 0 + 88 < z) → z ≠ 100 → w_1[z]? = w[z]? := Lw.2.2
    have hm1 := hmd.frame (fun z _ _ => f1 z (by omega) (by omega))
    obtain ⟨fs1, hb1⟩ := hm1.ob
    obtain ⟨q1, hq1⟩ := Lw.2.1
    rw [hv_1]
    show Wp X (k + 1) (n + 6) w_1 [(0, .ref 2000000), (1, .ref 0), (2, .ref 89), (3, .ref 100), (4, .ref 101), (5, .int (nI (4 * q)))] [.int (nE (fltSlope (xs (4 * q + 1))))] 661
    refine r_istore hC dL_law_661 (by rw [hnl]; decide) (L' := [(6, .int (nE (fltSlope (xs (4 * q + 1))))), (0, .ref 2000000), (1, .ref 0), (2, .ref 89), (3, .ref 100), (4, .ref 101), (5, .int (nI (4 * q)))]) rfl ?_
    refine r_aload_n hC dL_law_663 rfl (j := 3) rfl ?_
    refine r_aload_n hC dL_law_664 rfl (j := 1) rfl ?_
    refine r_iload hC dL_law_665 (j := 6) rfl ?_
    refine r_iconst hC dL_law_667 (v := 1) (by decide) ?_
    refine r_iadd hC dL_law_668 ?_
    rw [show nI (4 * q) + 1 = nI (4 * q + 1) from nI_add (4 * q) 1]
    refine r_ialdX hC dL_law_669 (j := (4 * q + 1)) hX (mIx_nI (by omega) (by omega)) ?_
    
    refine r_callV hC (vs := [.int (xs (4 * q + 1))]) vL_law_670 (sm_setSlope (d := d) (x := (xs (4 * q + 1))) hm1 h25 hop hlg hT9) hb1 rfl rfl (by omega) (by omega) (by omega) (Nat.le_of_ble_eq_true rfl) (fun v_2 w_2 hP_2 hlen_2 => ?_) (fun _ _ h => h.elim)
    rcases hP_2 with ⟨hm, hv_2, T_2⟩ | ⟨hm, hv_2, T_2⟩
    · exfalso
      first | exact absurd hc hm | exact absurd hm hc | (rw [hc] at hm; cases hm; done) | (rw [hc.1] at hm; cases hm; done) | (rw [hc] at hm; exact absurd hm.1 (by decide)) | (rw [hc.1] at hm; exact absurd hm.1 (by decide)) | exact absurd hm.2 hc.2 | exact absurd hc.2 hm.2 | (have h9 := hm.2; rw [hc.2] at h9; cases h9; done)
    · have hqo2 := (T_2.2.2 100 (by omega)).trans hq1
      obtain ⟨fs2, hb2⟩ := T_2.1.ob
      rw [hv_2]
      show Wp X (k + 1) (n + 6) w_2 [(6, .int (nE (fltSlope (xs (4 * q + 1))))), (0, .ref 2000000), (1, .ref 0), (2, .ref 89), (3, .ref 100), (4, .ref 101), (5, .int (nI (4 * q)))] [.int 0] 673
      refine r_istore hC dL_law_673 (by rw [hnl]; decide) (L' := [(7, .int 0), (6, .int (nE (fltSlope (xs (4 * q + 1))))), (0, .ref 2000000), (1, .ref 0), (2, .ref 89), (3, .ref 100), (4, .ref 101), (5, .int (nI (4 * q)))]) rfl ?_
      refine r_aload_n hC dL_law_675 rfl (j := 4) rfl ?_
      refine r_callV hC (vs := []) vL_law_676 (sm_thrown (d := d) T_2.1) hb2 rfl rfl (by omega) (by omega) (by omega) (Nat.le_of_ble_eq_true rfl) (fun v_11 w_11 hP_11 hlen_11 => ?_) (fun _ _ h => h.elim)
      rw [hP_11.1, hP_11.2]
      show Wp X (k + 1) (n + 6) w_2 [(7, .int 0), (6, .int (nE (fltSlope (xs (4 * q + 1))))), (0, .ref 2000000), (1, .ref 0), (2, .ref 89), (3, .ref 100), (4, .ref 101), (5, .int (nI (4 * q)))] [.int (nE (fltSlope (xs (4 * q + 1))))] 679
      refine r_iload hC dL_law_679 (j := 1) rfl ?_
      refine r_icmp_eq hC dL_law_681 (tgt := 686) (by decide) (fun _ => ?_) (fun h => absurd rfl h)
      refine r_iload hC dL_law_686 (j := 1) rfl ?_
      refine r_if_ne hC dL_law_688 (tgt := 703) (by decide) (fun _ => ?_) (fun h => absurd h nE_ne)
      refine r_goto hC dL_law_703 (tgt := 2109) (by decide) ?_
      refine r_locals [2, 3, 4, 5, 6, 7] (L' := [(0, .ref 2000000), (1, .ref 0), (2, .ref 89), (3, .ref 100), (4, .ref 101), (5, .int (nI (4 * q)))]) rfl ?_
      exact Wp.wid (by omega) (by omega) (kk w_2 (hlen_2.trans hlen_1) (J9.step Lw.1 (fun z h1 h2 h3 => f1 z h1 h2) ⟨q1, hq1⟩ ⟨qd, (f1 101 (by omega) (by omega)).trans hqd⟩ T_2 (hOK)))
set_option maxRecDepth 100000 in
set_option maxHeartbeats 4000000 in
theorem op_2 {X : mC} {d q mc ms k n : Nat} {w : mW} {N : Nat} {xs : Nat → Int32} {th : Int32} {f g : Nat → Int32} {sl op lo : Int32} {hd rs : Nat → Int32} {np : Nat} {tp av lg pl tk : Int32} {l : List sv} {ea fa : Int32} {so : Option sv} {txl lnl : List Nat} {tx : Nat → Int32} {tn : Nat} {lf : Nat → Int32} {ln : Nat} (hX : mScr X N xs) (J : JI w th ((f, g, sl, op, lo), hd, rs, np, tp, av, lg, pl, tk) l ea fa so txl lnl tx tn lf ln) (hC : Cx X RL cL_law (d + 12) mc ms) (hnl : mNL X = 9) (hq : 4 * q + 4 ≤ N) (hN : N ≤ 2048) (hk : k + 25 ≤ mc) (hn : n + 3100 ≤ ms) (kk : ∀ w', w'.length = w.length → JV w' → Wp X (k + 25) (n + 3100) w' [(0, .ref 2000000), (1, .ref 0), (2, .ref 89), (3, .ref 100), (4, .ref 101), (5, .int (nI (4 * q)))] [] 2109)  : Wp X k n w [(0, .ref 2000000), (1, .ref 0), (2, .ref 89), (3, .ref 100), (4, .ref 101), (5, .int (nI (4 * q)))] [] 376 := by
  have J9 := J
  obtain ⟨hct, hmd, ⟨qo, hqo⟩, ⟨qd, hqd⟩, hOK⟩ := J
  have hI : SInv ((f, g, sl, op, lo), hd, rs, np, tp, av, lg, pl, tk) := hOK.2.2.1
  have hnp : np ≤ 4 := hI.2.2
  have h25 : f 25 = 0 := hI.1.2.1
  have hop : op = 0 ∨ op = 1 := hI.1.2.2.1
  have hpos : ∀ j, j < 25 → ¬ f j < 0 := hI.1.1.1
  have hlg : ¬ lg < 0 := hI.2.1
  have hea := hOK.2.2.2.2.2.2.2.2.1
  have hfa := hOK.2.2.2.2.2.2.2.2.2
  obtain ⟨fc0, hc0⟩ := hct.ob
  obtain ⟨fm0, hm0⟩ := hmd.ob
  have hI9 : fltPile f (xs (4 * q + 1)) (xs (4 * q + 2)) = 1000010 → SInv (sPile ((f, g, sl, op, lo), hd, rs, np, tp, av, lg, pl, tk) (xs (4 * q + 1)).toNatClampNeg (xs (4 * q + 2))) := fun h => (inv_2 hI h).1
  have hT9 : fltPile f (xs (4 * q + 1)) (xs (4 * q + 2)) = 1000010 → hNx (hRestF (hPlace (f, g, sl, op, lo) (xs (4 * q + 1)).toNatClampNeg (xs (4 * q + 2)) (-1))).2 = none := fun h => (inv_2 hI h).2
  refine r_aload_n hC dL_law_376 rfl (j := 1) rfl ?_
  refine r_aload_n hC dL_law_377 rfl (j := 0) rfl ?_
  refine r_iload hC dL_law_378 (j := 5) rfl ?_
  refine r_iconst hC dL_law_380 (v := 1) (by decide) ?_
  refine r_iadd hC dL_law_381 ?_
  rw [show nI (4 * q) + 1 = nI (4 * q + 1) from nI_add (4 * q) 1]
  refine r_ialdX hC dL_law_382 (j := (4 * q + 1)) hX (mIx_nI (by omega) (by omega)) ?_
  refine r_aload_n hC dL_law_383 rfl (j := 0) rfl ?_
  refine r_iload hC dL_law_384 (j := 5) rfl ?_
  refine r_iconst hC dL_law_386 (v := 2) (by decide) ?_
  refine r_iadd hC dL_law_387 ?_
  rw [show nI (4 * q) + 2 = nI (4 * q + 2) from nI_add (4 * q) 2]
  refine r_ialdX hC dL_law_388 (j := (4 * q + 2)) hX (mIx_nI (by omega) (by omega)) ?_
  refine r_aload_n hC dL_law_389 rfl (j := 3) rfl ?_
  
  refine r_callH hC (vs := [.ref 0, .int (xs (4 * q + 1)), .int (xs (4 * q + 2)), .ref 100]) wL_law_390 (lw_pile (d := d) (c := (xs (4 * q + 1))) (n := (xs (4 * q + 2))) hct hqo (Or.inr (by decide)) hI) rfl (by omega) (by omega) (by omega) (Nat.le_of_ble_eq_true rfl) (fun v_1 w_1 hP_1 hlen_1 => ?_)
  rcases hP_1 with ⟨hc, hv_1, Lw⟩ | ⟨hc, hv_1, Lw⟩
  · have f1 : ∀ z, (z < 0 ∨ 0 + 88 < z) → z ≠ 100 → w_1[z]? = w[z]? := Lw.2.2
    have hm1 := hmd.frame (fun z _ _ => f1 z (by omega) (by omega))
    obtain ⟨fs1, hb1⟩ := hm1.ob
    obtain ⟨q1, hq1, hr1⟩ := Lw.2.1
    rw [hv_1]
    show Wp X (k + 1) (n + 6) w_1 [(0, .ref 2000000), (1, .ref 0), (2, .ref 89), (3, .ref 100), (4, .ref 101), (5, .int (nI (4 * q)))] [.int 0] 393
    refine r_istore hC dL_law_393 (by rw [hnl]; decide) (L' := [(6, .int 0), (0, .ref 2000000), (1, .ref 0), (2, .ref 89), (3, .ref 100), (4, .ref 101), (5, .int (nI (4 * q)))]) rfl ?_
    refine r_aload_n hC dL_law_395 rfl (j := 3) rfl ?_
    refine r_aload_n hC dL_law_396 rfl (j := 1) rfl ?_
    refine r_iload hC dL_law_397 (j := 6) rfl ?_
    refine r_iconst hC dL_law_399 (v := 1) (by decide) ?_
    refine r_iadd hC dL_law_400 ?_
    rw [show nI (4 * q) + 1 = nI (4 * q + 1) from nI_add (4 * q) 1]
    refine r_ialdX hC dL_law_401 (j := (4 * q + 1)) hX (mIx_nI (by omega) (by omega)) ?_
    refine r_aload_n hC dL_law_402 rfl (j := 1) rfl ?_
    refine r_iload hC dL_law_403 (j := 6) rfl ?_
    refine r_iconst hC dL_law_405 (v := 2) (by decide) ?_
    refine r_iadd hC dL_law_406 ?_
    rw [show nI (4 * q) + 2 = nI (4 * q + 2) from nI_add (4 * q) 2]
    refine r_ialdX hC dL_law_407 (j := (4 * q + 2)) hX (mIx_nI (by omega) (by omega)) ?_
    
    refine r_callV hC (vs := [.int (xs (4 * q + 1)), .int (xs (4 * q + 2))]) vL_law_408 (sm_pile (d := d) (c := (xs (4 * q + 1))) (x := (xs (4 * q + 2))) hm1 h25 hop hlg hT9) hb1 rfl rfl (by omega) (by omega) (by omega) (Nat.le_of_ble_eq_true rfl) (fun v_2 w_2 hP_2 hlen_2 => ?_) (fun _ _ h => h.elim)
    rcases hP_2 with ⟨hm, hv_2, T_2⟩ | ⟨hm, hv_2, T_2⟩
    · have hqo2 := (T_2.2.2 100 (by omega)).trans hq1
      obtain ⟨fs2, hb2⟩ := T_2.1.ob
      rw [hv_2]
      show Wp X (k + 1) (n + 6) w_2 [(6, .int 0), (0, .ref 2000000), (1, .ref 0), (2, .ref 89), (3, .ref 100), (4, .ref 101), (5, .int (nI (4 * q)))] [.int (sDropN ((f, g, sl, op, lo), hd, rs, np, tp, av, lg, pl, tk) (xs (4 * q + 1)).toNatClampNeg (xs (4 * q + 2)) (-1))] 411
      refine r_istore hC dL_law_411 (by rw [hnl]; decide) (L' := [(7, .int (sDropN ((f, g, sl, op, lo), hd, rs, np, tp, av, lg, pl, tk) (xs (4 * q + 1)).toNatClampNeg (xs (4 * q + 2)) (-1))), (6, .int 0), (0, .ref 2000000), (1, .ref 0), (2, .ref 89), (3, .ref 100), (4, .ref 101), (5, .int (nI (4 * q)))]) rfl ?_
      refine r_aload_n hC dL_law_413 rfl (j := 4) rfl ?_
      refine r_callV hC (vs := []) vL_law_414 (sm_thrown (d := d) T_2.1) hb2 rfl rfl (by omega) (by omega) (by omega) (Nat.le_of_ble_eq_true rfl) (fun v_11 w_11 hP_11 hlen_11 => ?_) (fun _ _ h => h.elim)
      rw [hP_11.1, hP_11.2]
      show Wp X (k + 1) (n + 6) w_2 [(7, .int (sDropN ((f, g, sl, op, lo), hd, rs, np, tp, av, lg, pl, tk) (xs (4 * q + 1)).toNatClampNeg (xs (4 * q + 2)) (-1))), (6, .int 0), (0, .ref 2000000), (1, .ref 0), (2, .ref 89), (3, .ref 100), (4, .ref 101), (5, .int (nI (4 * q)))] [.int 0] 417
      refine r_iload hC dL_law_417 (j := 1) rfl ?_
      refine r_icmp_eq hC dL_law_419 (tgt := 424) (by decide) (fun _ => ?_) (fun h => absurd (by decide) h)
      refine r_iload hC dL_law_424 (j := 1) rfl ?_
      refine r_if_ne hC dL_law_426 (tgt := 441) (by decide) (fun h => absurd (by decide) h) (fun _ => ?_)
      refine r_aload_n hC dL_law_429 rfl (j := 5) rfl ?_
      refine r_iconst hC dL_law_430 (v := 0) (by decide) ?_
      refine r_lald hC dL_law_431 (j := 0) hqo2 ⟨by decide, by decide, by decide⟩ ?_
      rw [hr1]
      refine r_iload hC dL_law_432 (j := 0) rfl ?_
      refine r_i2l hC dL_law_434 rfl ?_
      refine r_lcmp hC dL_law_435 ?_
      rw [cmp_self _]
      refine r_if_eq hC dL_law_436 (tgt := 441) (by decide) (fun _ => ?_) (fun h => absurd (by decide) h)
      refine r_goto hC dL_law_441 (tgt := 2109) (by decide) ?_
      refine r_locals [2, 3, 4, 5, 6, 7] (L' := [(0, .ref 2000000), (1, .ref 0), (2, .ref 89), (3, .ref 100), (4, .ref 101), (5, .int (nI (4 * q)))]) rfl ?_
      exact Wp.wid (by omega) (by omega) (kk w_2 (hlen_2.trans hlen_1) (J9.step Lw.1 (fun z h1 h2 h3 => f1 z h1 h2) ⟨q1, hq1⟩ ⟨qd, (f1 101 (by omega) (by omega)).trans hqd⟩ T_2 (⟨hOK.1, hOK.2.1, hI9 hc, all_push hOK.2.2.2.1 hI, hOK.2.2.2.2⟩)))
    · exfalso
      first | exact absurd hc hm | exact absurd hm hc | (rw [hc] at hm; cases hm; done) | (rw [hc.1] at hm; cases hm; done) | (rw [hc] at hm; exact absurd hm.1 (by decide)) | (rw [hc.1] at hm; exact absurd hm.1 (by decide)) | exact absurd hm.2 hc.2 | exact absurd hc.2 hm.2 | (have h9 := hm.2; rw [hc.2] at h9; cases h9; done)
  · have f1 : ∀ z, (z < 0 ∨ 0 + 88 < z) → z ≠ 100 → w_1[z]? = w[z]? := Lw.2.2
    have hm1 := hmd.frame (fun z _ _ => f1 z (by omega) (by omega))
    obtain ⟨fs1, hb1⟩ := hm1.ob
    obtain ⟨q1, hq1⟩ := Lw.2.1
    rw [hv_1]
    show Wp X (k + 1) (n + 6) w_1 [(0, .ref 2000000), (1, .ref 0), (2, .ref 89), (3, .ref 100), (4, .ref 101), (5, .int (nI (4 * q)))] [.int (nD (fltPile f (xs (4 * q + 1)) (xs (4 * q + 2))))] 393
    refine r_istore hC dL_law_393 (by rw [hnl]; decide) (L' := [(6, .int (nD (fltPile f (xs (4 * q + 1)) (xs (4 * q + 2))))), (0, .ref 2000000), (1, .ref 0), (2, .ref 89), (3, .ref 100), (4, .ref 101), (5, .int (nI (4 * q)))]) rfl ?_
    refine r_aload_n hC dL_law_395 rfl (j := 3) rfl ?_
    refine r_aload_n hC dL_law_396 rfl (j := 1) rfl ?_
    refine r_iload hC dL_law_397 (j := 6) rfl ?_
    refine r_iconst hC dL_law_399 (v := 1) (by decide) ?_
    refine r_iadd hC dL_law_400 ?_
    rw [show nI (4 * q) + 1 = nI (4 * q + 1) from nI_add (4 * q) 1]
    refine r_ialdX hC dL_law_401 (j := (4 * q + 1)) hX (mIx_nI (by omega) (by omega)) ?_
    refine r_aload_n hC dL_law_402 rfl (j := 1) rfl ?_
    refine r_iload hC dL_law_403 (j := 6) rfl ?_
    refine r_iconst hC dL_law_405 (v := 2) (by decide) ?_
    refine r_iadd hC dL_law_406 ?_
    rw [show nI (4 * q) + 2 = nI (4 * q + 2) from nI_add (4 * q) 2]
    refine r_ialdX hC dL_law_407 (j := (4 * q + 2)) hX (mIx_nI (by omega) (by omega)) ?_
    
    refine r_callV hC (vs := [.int (xs (4 * q + 1)), .int (xs (4 * q + 2))]) vL_law_408 (sm_pile (d := d) (c := (xs (4 * q + 1))) (x := (xs (4 * q + 2))) hm1 h25 hop hlg hT9) hb1 rfl rfl (by omega) (by omega) (by omega) (Nat.le_of_ble_eq_true rfl) (fun v_2 w_2 hP_2 hlen_2 => ?_) (fun _ _ h => h.elim)
    rcases hP_2 with ⟨hm, hv_2, T_2⟩ | ⟨hm, hv_2, T_2⟩
    · exfalso
      first | exact absurd hc hm | exact absurd hm hc | (rw [hc] at hm; cases hm; done) | (rw [hc.1] at hm; cases hm; done) | (rw [hc] at hm; exact absurd hm.1 (by decide)) | (rw [hc.1] at hm; exact absurd hm.1 (by decide)) | exact absurd hm.2 hc.2 | exact absurd hc.2 hm.2 | (have h9 := hm.2; rw [hc.2] at h9; cases h9; done)
    · have hqo2 := (T_2.2.2 100 (by omega)).trans hq1
      obtain ⟨fs2, hb2⟩ := T_2.1.ob
      rw [hv_2]
      show Wp X (k + 1) (n + 6) w_2 [(6, .int (nD (fltPile f (xs (4 * q + 1)) (xs (4 * q + 2))))), (0, .ref 2000000), (1, .ref 0), (2, .ref 89), (3, .ref 100), (4, .ref 101), (5, .int (nI (4 * q)))] [.int 0] 411
      refine r_istore hC dL_law_411 (by rw [hnl]; decide) (L' := [(7, .int 0), (6, .int (nD (fltPile f (xs (4 * q + 1)) (xs (4 * q + 2))))), (0, .ref 2000000), (1, .ref 0), (2, .ref 89), (3, .ref 100), (4, .ref 101), (5, .int (nI (4 * q)))]) rfl ?_
      refine r_aload_n hC dL_law_413 rfl (j := 4) rfl ?_
      refine r_callV hC (vs := []) vL_law_414 (sm_thrown (d := d) T_2.1) hb2 rfl rfl (by omega) (by omega) (by omega) (Nat.le_of_ble_eq_true rfl) (fun v_11 w_11 hP_11 hlen_11 => ?_) (fun _ _ h => h.elim)
      rw [hP_11.1, hP_11.2]
      show Wp X (k + 1) (n + 6) w_2 [(7, .int 0), (6, .int (nD (fltPile f (xs (4 * q + 1)) (xs (4 * q + 2))))), (0, .ref 2000000), (1, .ref 0), (2, .ref 89), (3, .ref 100), (4, .ref 101), (5, .int (nI (4 * q)))] [.int (nD (fltPile f (xs (4 * q + 1)) (xs (4 * q + 2))))] 417
      refine r_iload hC dL_law_417 (j := 1) rfl ?_
      refine r_icmp_eq hC dL_law_419 (tgt := 424) (by decide) (fun _ => ?_) (fun h => absurd rfl h)
      refine r_iload hC dL_law_424 (j := 1) rfl ?_
      refine r_if_ne hC dL_law_426 (tgt := 441) (by decide) (fun _ => ?_) (fun h => absurd h nD_ne)
      refine r_goto hC dL_law_441 (tgt := 2109) (by decide) ?_
      refine r_locals [2, 3, 4, 5, 6, 7] (L' := [(0, .ref 2000000), (1, .ref 0), (2, .ref 89), (3, .ref 100), (4, .ref 101), (5, .int (nI (4 * q)))]) rfl ?_
      exact Wp.wid (by omega) (by omega) (kk w_2 (hlen_2.trans hlen_1) (J9.step Lw.1 (fun z h1 h2 h3 => f1 z h1 h2) ⟨q1, hq1⟩ ⟨qd, (f1 101 (by omega) (by omega)).trans hqd⟩ T_2 (hOK)))
set_option maxRecDepth 100000 in
set_option maxHeartbeats 4000000 in
theorem op_3 {X : mC} {d q mc ms k n : Nat} {w : mW} {N : Nat} {xs : Nat → Int32} {th : Int32} {f g : Nat → Int32} {sl op lo : Int32} {hd rs : Nat → Int32} {np : Nat} {tp av lg pl tk : Int32} {l : List sv} {ea fa : Int32} {so : Option sv} {txl lnl : List Nat} {tx : Nat → Int32} {tn : Nat} {lf : Nat → Int32} {ln : Nat} (hX : mScr X N xs) (J : JI w th ((f, g, sl, op, lo), hd, rs, np, tp, av, lg, pl, tk) l ea fa so txl lnl tx tn lf ln) (hC : Cx X RL cL_law (d + 12) mc ms) (hnl : mNL X = 9) (hq : 4 * q + 4 ≤ N) (hN : N ≤ 2048) (hk : k + 25 ≤ mc) (hn : n + 3100 ≤ ms) (kk : ∀ w', w'.length = w.length → JV w' → Wp X (k + 25) (n + 3100) w' [(0, .ref 2000000), (1, .ref 0), (2, .ref 89), (3, .ref 100), (4, .ref 101), (5, .int (nI (4 * q)))] [] 2109)  : Wp X k n w [(0, .ref 2000000), (1, .ref 0), (2, .ref 89), (3, .ref 100), (4, .ref 101), (5, .int (nI (4 * q)))] [] 444 := by
  have J9 := J
  obtain ⟨hct, hmd, ⟨qo, hqo⟩, ⟨qd, hqd⟩, hOK⟩ := J
  have hI : SInv ((f, g, sl, op, lo), hd, rs, np, tp, av, lg, pl, tk) := hOK.2.2.1
  have hnp : np ≤ 4 := hI.2.2
  have h25 : f 25 = 0 := hI.1.2.1
  have hop : op = 0 ∨ op = 1 := hI.1.2.2.1
  have hpos : ∀ j, j < 25 → ¬ f j < 0 := hI.1.1.1
  have hlg : ¬ lg < 0 := hI.2.1
  have hea := hOK.2.2.2.2.2.2.2.2.1
  have hfa := hOK.2.2.2.2.2.2.2.2.2
  obtain ⟨fc0, hc0⟩ := hct.ob
  obtain ⟨fm0, hm0⟩ := hmd.ob
  have hI9 : fltTake f g np (xs (4 * q + 1)) (xs (4 * q + 2)) = 1000010 → SInv (sTake ((f, g, sl, op, lo), hd, rs, np, tp, av, lg, pl, tk) (xs (4 * q + 1)).toNatClampNeg (xs (4 * q + 2)).toNatClampNeg) := fun h => (inv_3 hI h).1
  have hT9 : fltTake f g np (xs (4 * q + 1)) (xs (4 * q + 2)) = 1000010 → hNx (hRestF (hRem (f, g, sl, op, lo) (xs (4 * q + 2)).toNatClampNeg)).2 = none := fun h => (inv_3 hI h).2
  refine r_aload_n hC dL_law_444 rfl (j := 1) rfl ?_
  refine r_aload_n hC dL_law_445 rfl (j := 0) rfl ?_
  refine r_iload hC dL_law_446 (j := 5) rfl ?_
  refine r_iconst hC dL_law_448 (v := 1) (by decide) ?_
  refine r_iadd hC dL_law_449 ?_
  rw [show nI (4 * q) + 1 = nI (4 * q + 1) from nI_add (4 * q) 1]
  refine r_ialdX hC dL_law_450 (j := (4 * q + 1)) hX (mIx_nI (by omega) (by omega)) ?_
  refine r_aload_n hC dL_law_451 rfl (j := 0) rfl ?_
  refine r_iload hC dL_law_452 (j := 5) rfl ?_
  refine r_iconst hC dL_law_454 (v := 2) (by decide) ?_
  refine r_iadd hC dL_law_455 ?_
  rw [show nI (4 * q) + 2 = nI (4 * q + 2) from nI_add (4 * q) 2]
  refine r_ialdX hC dL_law_456 (j := (4 * q + 2)) hX (mIx_nI (by omega) (by omega)) ?_
  refine r_aload_n hC dL_law_457 rfl (j := 3) rfl ?_
  
  refine r_callH hC (vs := [.ref 0, .int (xs (4 * q + 1)), .int (xs (4 * q + 2)), .ref 100]) wL_law_458 (lw_take (d := d) (p := (xs (4 * q + 1))) (c := (xs (4 * q + 2))) hct hqo (Or.inr (by decide)) hI) rfl (by omega) (by omega) (by omega) (Nat.le_of_ble_eq_true rfl) (fun v_1 w_1 hP_1 hlen_1 => ?_)
  rcases hP_1 with ⟨hc, hv_1, Lw⟩ | ⟨hc, hv_1, Lw⟩
  · have f1 : ∀ z, (z < 0 ∨ 0 + 88 < z) → z ≠ 100 → w_1[z]? = w[z]? := Lw.2.2
    have hm1 := hmd.frame (fun z _ _ => f1 z (by omega) (by omega))
    obtain ⟨fs1, hb1⟩ := hm1.ob
    obtain ⟨q1, hq1, hr1⟩ := Lw.2.1
    rw [hv_1]
    show Wp X (k + 1) (n + 6) w_1 [(0, .ref 2000000), (1, .ref 0), (2, .ref 89), (3, .ref 100), (4, .ref 101), (5, .int (nI (4 * q)))] [.int 0] 461
    refine r_istore hC dL_law_461 (by rw [hnl]; decide) (L' := [(6, .int 0), (0, .ref 2000000), (1, .ref 0), (2, .ref 89), (3, .ref 100), (4, .ref 101), (5, .int (nI (4 * q)))]) rfl ?_
    refine r_aload_n hC dL_law_463 rfl (j := 3) rfl ?_
    refine r_aload_n hC dL_law_464 rfl (j := 1) rfl ?_
    refine r_iload hC dL_law_465 (j := 6) rfl ?_
    refine r_iconst hC dL_law_467 (v := 1) (by decide) ?_
    refine r_iadd hC dL_law_468 ?_
    rw [show nI (4 * q) + 1 = nI (4 * q + 1) from nI_add (4 * q) 1]
    refine r_ialdX hC dL_law_469 (j := (4 * q + 1)) hX (mIx_nI (by omega) (by omega)) ?_
    refine r_aload_n hC dL_law_470 rfl (j := 1) rfl ?_
    refine r_iload hC dL_law_471 (j := 6) rfl ?_
    refine r_iconst hC dL_law_473 (v := 2) (by decide) ?_
    refine r_iadd hC dL_law_474 ?_
    rw [show nI (4 * q) + 2 = nI (4 * q + 2) from nI_add (4 * q) 2]
    refine r_ialdX hC dL_law_475 (j := (4 * q + 2)) hX (mIx_nI (by omega) (by omega)) ?_
    
    refine r_callV hC (vs := [.int (xs (4 * q + 1)), .int (xs (4 * q + 2))]) vL_law_476 (sm_take (d := d) (q := (xs (4 * q + 1))) (c := (xs (4 * q + 2))) hm1 h25 hop hlg hnp hT9) hb1 rfl rfl (by omega) (by omega) (by omega) (Nat.le_of_ble_eq_true rfl) (fun v_2 w_2 hP_2 hlen_2 => ?_) (fun _ _ h => h.elim)
    rcases hP_2 with ⟨hm, hv_2, T_2⟩ | ⟨hm, hv_2, T_2⟩
    · have hqo2 := (T_2.2.2 100 (by omega)).trans hq1
      obtain ⟨fs2, hb2⟩ := T_2.1.ob
      rw [hv_2]
      show Wp X (k + 1) (n + 6) w_2 [(6, .int 0), (0, .ref 2000000), (1, .ref 0), (2, .ref 89), (3, .ref 100), (4, .ref 101), (5, .int (nI (4 * q)))] [.int (nI (hRestF (hRem (f, g, sl, op, lo) (xs (4 * q + 2)).toNatClampNeg)).1)] 479
      refine r_istore hC dL_law_479 (by rw [hnl]; decide) (L' := [(7, .int (nI (hRestF (hRem (f, g, sl, op, lo) (xs (4 * q + 2)).toNatClampNeg)).1)), (6, .int 0), (0, .ref 2000000), (1, .ref 0), (2, .ref 89), (3, .ref 100), (4, .ref 101), (5, .int (nI (4 * q)))]) rfl ?_
      refine r_aload_n hC dL_law_481 rfl (j := 4) rfl ?_
      refine r_callV hC (vs := []) vL_law_482 (sm_thrown (d := d) T_2.1) hb2 rfl rfl (by omega) (by omega) (by omega) (Nat.le_of_ble_eq_true rfl) (fun v_11 w_11 hP_11 hlen_11 => ?_) (fun _ _ h => h.elim)
      rw [hP_11.1, hP_11.2]
      show Wp X (k + 1) (n + 6) w_2 [(7, .int (nI (hRestF (hRem (f, g, sl, op, lo) (xs (4 * q + 2)).toNatClampNeg)).1)), (6, .int 0), (0, .ref 2000000), (1, .ref 0), (2, .ref 89), (3, .ref 100), (4, .ref 101), (5, .int (nI (4 * q)))] [.int 0] 485
      refine r_iload hC dL_law_485 (j := 1) rfl ?_
      refine r_icmp_eq hC dL_law_487 (tgt := 492) (by decide) (fun _ => ?_) (fun h => absurd (by decide) h)
      refine r_iload hC dL_law_492 (j := 1) rfl ?_
      refine r_if_ne hC dL_law_494 (tgt := 509) (by decide) (fun h => absurd (by decide) h) (fun _ => ?_)
      refine r_aload_n hC dL_law_497 rfl (j := 5) rfl ?_
      refine r_iconst hC dL_law_498 (v := 0) (by decide) ?_
      refine r_lald hC dL_law_499 (j := 0) hqo2 ⟨by decide, by decide, by decide⟩ ?_
      rw [hr1]
      refine r_iload hC dL_law_500 (j := 0) rfl ?_
      refine r_i2l hC dL_law_502 rfl ?_
      refine r_lcmp hC dL_law_503 ?_
      rw [cmp_self _]
      refine r_if_eq hC dL_law_504 (tgt := 509) (by decide) (fun _ => ?_) (fun h => absurd (by decide) h)
      refine r_goto hC dL_law_509 (tgt := 2109) (by decide) ?_
      refine r_locals [2, 3, 4, 5, 6, 7] (L' := [(0, .ref 2000000), (1, .ref 0), (2, .ref 89), (3, .ref 100), (4, .ref 101), (5, .int (nI (4 * q)))]) rfl ?_
      exact Wp.wid (by omega) (by omega) (kk w_2 (hlen_2.trans hlen_1) (J9.step Lw.1 (fun z h1 h2 h3 => f1 z h1 h2) ⟨q1, hq1⟩ ⟨qd, (f1 101 (by omega) (by omega)).trans hqd⟩ T_2 (⟨hOK.1, hOK.2.1, hI9 hc, all_push hOK.2.2.2.1 hI, hOK.2.2.2.2⟩)))
    · exfalso
      first | exact absurd hc hm | exact absurd hm hc | (rw [hc] at hm; cases hm; done) | (rw [hc.1] at hm; cases hm; done) | (rw [hc] at hm; exact absurd hm.1 (by decide)) | (rw [hc.1] at hm; exact absurd hm.1 (by decide)) | exact absurd hm.2 hc.2 | exact absurd hc.2 hm.2 | (have h9 := hm.2; rw [hc.2] at h9; cases h9; done)
  · have f1 : ∀ z, (z < 0 ∨ 0 + 88 < z) → z ≠ 100 → w_1[z]? = w[z]? := Lw.2.2
    have hm1 := hmd.frame (fun z _ _ => f1 z (by omega) (by omega))
    obtain ⟨fs1, hb1⟩ := hm1.ob
    obtain ⟨q1, hq1⟩ := Lw.2.1
    rw [hv_1]
    show Wp X (k + 1) (n + 6) w_1 [(0, .ref 2000000), (1, .ref 0), (2, .ref 89), (3, .ref 100), (4, .ref 101), (5, .int (nI (4 * q)))] [.int (nT (fltTake f g np (xs (4 * q + 1)) (xs (4 * q + 2))))] 461
    refine r_istore hC dL_law_461 (by rw [hnl]; decide) (L' := [(6, .int (nT (fltTake f g np (xs (4 * q + 1)) (xs (4 * q + 2))))), (0, .ref 2000000), (1, .ref 0), (2, .ref 89), (3, .ref 100), (4, .ref 101), (5, .int (nI (4 * q)))]) rfl ?_
    refine r_aload_n hC dL_law_463 rfl (j := 3) rfl ?_
    refine r_aload_n hC dL_law_464 rfl (j := 1) rfl ?_
    refine r_iload hC dL_law_465 (j := 6) rfl ?_
    refine r_iconst hC dL_law_467 (v := 1) (by decide) ?_
    refine r_iadd hC dL_law_468 ?_
    rw [show nI (4 * q) + 1 = nI (4 * q + 1) from nI_add (4 * q) 1]
    refine r_ialdX hC dL_law_469 (j := (4 * q + 1)) hX (mIx_nI (by omega) (by omega)) ?_
    refine r_aload_n hC dL_law_470 rfl (j := 1) rfl ?_
    refine r_iload hC dL_law_471 (j := 6) rfl ?_
    refine r_iconst hC dL_law_473 (v := 2) (by decide) ?_
    refine r_iadd hC dL_law_474 ?_
    rw [show nI (4 * q) + 2 = nI (4 * q + 2) from nI_add (4 * q) 2]
    refine r_ialdX hC dL_law_475 (j := (4 * q + 2)) hX (mIx_nI (by omega) (by omega)) ?_
    
    refine r_callV hC (vs := [.int (xs (4 * q + 1)), .int (xs (4 * q + 2))]) vL_law_476 (sm_take (d := d) (q := (xs (4 * q + 1))) (c := (xs (4 * q + 2))) hm1 h25 hop hlg hnp hT9) hb1 rfl rfl (by omega) (by omega) (by omega) (Nat.le_of_ble_eq_true rfl) (fun v_2 w_2 hP_2 hlen_2 => ?_) (fun _ _ h => h.elim)
    rcases hP_2 with ⟨hm, hv_2, T_2⟩ | ⟨hm, hv_2, T_2⟩
    · exfalso
      first | exact absurd hc hm | exact absurd hm hc | (rw [hc] at hm; cases hm; done) | (rw [hc.1] at hm; cases hm; done) | (rw [hc] at hm; exact absurd hm.1 (by decide)) | (rw [hc.1] at hm; exact absurd hm.1 (by decide)) | exact absurd hm.2 hc.2 | exact absurd hc.2 hm.2 | (have h9 := hm.2; rw [hc.2] at h9; cases h9; done)
    · have hqo2 := (T_2.2.2 100 (by omega)).trans hq1
      obtain ⟨fs2, hb2⟩ := T_2.1.ob
      rw [hv_2]
      show Wp X (k + 1) (n + 6) w_2 [(6, .int (nT (fltTake f g np (xs (4 * q + 1)) (xs (4 * q + 2))))), (0, .ref 2000000), (1, .ref 0), (2, .ref 89), (3, .ref 100), (4, .ref 101), (5, .int (nI (4 * q)))] [.int 0] 479
      refine r_istore hC dL_law_479 (by rw [hnl]; decide) (L' := [(7, .int 0), (6, .int (nT (fltTake f g np (xs (4 * q + 1)) (xs (4 * q + 2))))), (0, .ref 2000000), (1, .ref 0), (2, .ref 89), (3, .ref 100), (4, .ref 101), (5, .int (nI (4 * q)))]) rfl ?_
      refine r_aload_n hC dL_law_481 rfl (j := 4) rfl ?_
      refine r_callV hC (vs := []) vL_law_482 (sm_thrown (d := d) T_2.1) hb2 rfl rfl (by omega) (by omega) (by omega) (Nat.le_of_ble_eq_true rfl) (fun v_11 w_11 hP_11 hlen_11 => ?_) (fun _ _ h => h.elim)
      rw [hP_11.1, hP_11.2]
      show Wp X (k + 1) (n + 6) w_2 [(7, .int 0), (6, .int (nT (fltTake f g np (xs (4 * q + 1)) (xs (4 * q + 2))))), (0, .ref 2000000), (1, .ref 0), (2, .ref 89), (3, .ref 100), (4, .ref 101), (5, .int (nI (4 * q)))] [.int (nT (fltTake f g np (xs (4 * q + 1)) (xs (4 * q + 2))))] 485
      refine r_iload hC dL_law_485 (j := 1) rfl ?_
      refine r_icmp_eq hC dL_law_487 (tgt := 492) (by decide) (fun _ => ?_) (fun h => absurd rfl h)
      refine r_iload hC dL_law_492 (j := 1) rfl ?_
      refine r_if_ne hC dL_law_494 (tgt := 509) (by decide) (fun _ => ?_) (fun h => absurd h nT_ne)
      refine r_goto hC dL_law_509 (tgt := 2109) (by decide) ?_
      refine r_locals [2, 3, 4, 5, 6, 7] (L' := [(0, .ref 2000000), (1, .ref 0), (2, .ref 89), (3, .ref 100), (4, .ref 101), (5, .int (nI (4 * q)))]) rfl ?_
      exact Wp.wid (by omega) (by omega) (kk w_2 (hlen_2.trans hlen_1) (J9.step Lw.1 (fun z h1 h2 h3 => f1 z h1 h2) ⟨q1, hq1⟩ ⟨qd, (f1 101 (by omega) (by omega)).trans hqd⟩ T_2 (hOK)))
set_option maxRecDepth 100000 in
set_option maxHeartbeats 4000000 in
theorem op_1 {X : mC} {d q mc ms k n : Nat} {w : mW} {N : Nat} {xs : Nat → Int32} {th : Int32} {f g : Nat → Int32} {sl op lo : Int32} {hd rs : Nat → Int32} {np : Nat} {tp av lg pl tk : Int32} {l : List sv} {ea fa : Int32} {so : Option sv} {txl lnl : List Nat} {tx : Nat → Int32} {tn : Nat} {lf : Nat → Int32} {ln : Nat} (hX : mScr X N xs) (J : JI w th ((f, g, sl, op, lo), hd, rs, np, tp, av, lg, pl, tk) l ea fa so txl lnl tx tn lf ln) (hC : Cx X RL cL_law (d + 12) mc ms) (hnl : mNL X = 9) (hq : 4 * q + 4 ≤ N) (hN : N ≤ 2048) (hk : k + 25 ≤ mc) (hn : n + 3100 ≤ ms) (kk : ∀ w', w'.length = w.length → JV w' → Wp X (k + 25) (n + 3100) w' [(0, .ref 2000000), (1, .ref 0), (2, .ref 89), (3, .ref 100), (4, .ref 101), (5, .int (nI (4 * q)))] [] 2109)  : Wp X k n w [(0, .ref 2000000), (1, .ref 0), (2, .ref 89), (3, .ref 100), (4, .ref 101), (5, .int (nI (4 * q)))] [] 296 := by
  have J9 := J
  obtain ⟨hct, hmd, ⟨qo, hqo⟩, ⟨qd, hqd⟩, hOK⟩ := J
  have hI : SInv ((f, g, sl, op, lo), hd, rs, np, tp, av, lg, pl, tk) := hOK.2.2.1
  have hnp : np ≤ 4 := hI.2.2
  have h25 : f 25 = 0 := hI.1.2.1
  have hop : op = 0 ∨ op = 1 := hI.1.2.2.1
  have hpos : ∀ j, j < 25 → ¬ f j < 0 := hI.1.1.1
  have hlg : ¬ lg < 0 := hI.2.1
  have hea := hOK.2.2.2.2.2.2.2.2.1
  have hfa := hOK.2.2.2.2.2.2.2.2.2
  obtain ⟨fc0, hc0⟩ := hct.ob
  obtain ⟨fm0, hm0⟩ := hmd.ob
  have hI9 : fltDrop f hd rs np (xs (4 * q + 1)) (xs (4 * q + 2)) (xs (4 * q + 3)) = 1000010 → SInv (sDrop ((f, g, sl, op, lo), hd, rs, np, tp, av, lg, pl, tk) (xs (4 * q + 1)).toNatClampNeg (xs (4 * q + 2)).toNatClampNeg (xs (4 * q + 3))) := fun h => (inv_1 hI h).1
  have hT9 : fltDrop f hd rs np (xs (4 * q + 1)) (xs (4 * q + 2)) (xs (4 * q + 3)) = 1000010 → hNx (hRestF (hPlace (f, g, sl, op, lo) (xs (4 * q + 2)).toNatClampNeg (xs (4 * q + 3)) (nI (xs (4 * q + 1)).toNatClampNeg))).2 = none := fun h => (inv_1 hI h).2
  refine r_aload_n hC dL_law_296 rfl (j := 1) rfl ?_
  refine r_aload_n hC dL_law_297 rfl (j := 0) rfl ?_
  refine r_iload hC dL_law_298 (j := 5) rfl ?_
  refine r_iconst hC dL_law_300 (v := 1) (by decide) ?_
  refine r_iadd hC dL_law_301 ?_
  rw [show nI (4 * q) + 1 = nI (4 * q + 1) from nI_add (4 * q) 1]
  refine r_ialdX hC dL_law_302 (j := (4 * q + 1)) hX (mIx_nI (by omega) (by omega)) ?_
  refine r_aload_n hC dL_law_303 rfl (j := 0) rfl ?_
  refine r_iload hC dL_law_304 (j := 5) rfl ?_
  refine r_iconst hC dL_law_306 (v := 2) (by decide) ?_
  refine r_iadd hC dL_law_307 ?_
  rw [show nI (4 * q) + 2 = nI (4 * q + 2) from nI_add (4 * q) 2]
  refine r_ialdX hC dL_law_308 (j := (4 * q + 2)) hX (mIx_nI (by omega) (by omega)) ?_
  refine r_aload_n hC dL_law_309 rfl (j := 0) rfl ?_
  refine r_iload hC dL_law_310 (j := 5) rfl ?_
  refine r_iconst hC dL_law_312 (v := 3) (by decide) ?_
  refine r_iadd hC dL_law_313 ?_
  rw [show nI (4 * q) + 3 = nI (4 * q + 3) from nI_add (4 * q) 3]
  refine r_ialdX hC dL_law_314 (j := (4 * q + 3)) hX (mIx_nI (by omega) (by omega)) ?_
  refine r_aload_n hC dL_law_315 rfl (j := 3) rfl ?_
  
  refine r_callH hC (vs := [.ref 0, .int (xs (4 * q + 1)), .int (xs (4 * q + 2)), .int (xs (4 * q + 3)), .ref 100]) wL_law_316 (lw_drop (d := d) (p := (xs (4 * q + 1))) (c := (xs (4 * q + 2))) (n := (xs (4 * q + 3))) hct hqo (Or.inr (by decide)) hI) rfl (by omega) (by omega) (by omega) (Nat.le_of_ble_eq_true rfl) (fun v_1 w_1 hP_1 hlen_1 => ?_)
  rcases hP_1 with ⟨hc, hv_1, Lw⟩ | ⟨hc, hv_1, Lw⟩
  · have f1 : ∀ z, (z < 0 ∨ 0 + 88 < z) → z ≠ 100 → w_1[z]? = w[z]? := Lw.2.2
    have hm1 := hmd.frame (fun z _ _ => f1 z (by omega) (by omega))
    obtain ⟨fs1, hb1⟩ := hm1.ob
    obtain ⟨q1, hq1, hr1⟩ := Lw.2.1
    rw [hv_1]
    show Wp X (k + 1) (n + 6) w_1 [(0, .ref 2000000), (1, .ref 0), (2, .ref 89), (3, .ref 100), (4, .ref 101), (5, .int (nI (4 * q)))] [.int 0] 319
    refine r_istore hC dL_law_319 (by rw [hnl]; decide) (L' := [(6, .int 0), (0, .ref 2000000), (1, .ref 0), (2, .ref 89), (3, .ref 100), (4, .ref 101), (5, .int (nI (4 * q)))]) rfl ?_
    refine r_aload_n hC dL_law_321 rfl (j := 3) rfl ?_
    refine r_aload_n hC dL_law_322 rfl (j := 1) rfl ?_
    refine r_iload hC dL_law_323 (j := 6) rfl ?_
    refine r_iconst hC dL_law_325 (v := 1) (by decide) ?_
    refine r_iadd hC dL_law_326 ?_
    rw [show nI (4 * q) + 1 = nI (4 * q + 1) from nI_add (4 * q) 1]
    refine r_ialdX hC dL_law_327 (j := (4 * q + 1)) hX (mIx_nI (by omega) (by omega)) ?_
    refine r_aload_n hC dL_law_328 rfl (j := 1) rfl ?_
    refine r_iload hC dL_law_329 (j := 6) rfl ?_
    refine r_iconst hC dL_law_331 (v := 2) (by decide) ?_
    refine r_iadd hC dL_law_332 ?_
    rw [show nI (4 * q) + 2 = nI (4 * q + 2) from nI_add (4 * q) 2]
    refine r_ialdX hC dL_law_333 (j := (4 * q + 2)) hX (mIx_nI (by omega) (by omega)) ?_
    refine r_aload_n hC dL_law_334 rfl (j := 1) rfl ?_
    refine r_iload hC dL_law_335 (j := 6) rfl ?_
    refine r_iconst hC dL_law_337 (v := 3) (by decide) ?_
    refine r_iadd hC dL_law_338 ?_
    rw [show nI (4 * q) + 3 = nI (4 * q + 3) from nI_add (4 * q) 3]
    refine r_ialdX hC dL_law_339 (j := (4 * q + 3)) hX (mIx_nI (by omega) (by omega)) ?_
    
    refine r_callV hC (vs := [.int (xs (4 * q + 1)), .int (xs (4 * q + 2)), .int (xs (4 * q + 3))]) vL_law_340 (sm_drop (d := d) (q := (xs (4 * q + 1))) (c := (xs (4 * q + 2))) (x := (xs (4 * q + 3))) hm1 h25 hop hlg hnp hT9) hb1 rfl rfl (by omega) (by omega) (by omega) (Nat.le_of_ble_eq_true rfl) (fun v_2 w_2 hP_2 hlen_2 => ?_) (fun _ _ h => h.elim)
    rcases hP_2 with ⟨hm, hv_2, T_2⟩ | ⟨hm, hv_2, T_2⟩
    · have hqo2 := (T_2.2.2 100 (by omega)).trans hq1
      obtain ⟨fs2, hb2⟩ := T_2.1.ob
      rw [hv_2]
      show Wp X (k + 1) (n + 6) w_2 [(6, .int 0), (0, .ref 2000000), (1, .ref 0), (2, .ref 89), (3, .ref 100), (4, .ref 101), (5, .int (nI (4 * q)))] [.int (sDropN ((f, g, sl, op, lo), hd, rs, np, tp, av, lg, pl, tk) (xs (4 * q + 2)).toNatClampNeg (xs (4 * q + 3)) (nI (xs (4 * q + 1)).toNatClampNeg))] 343
      refine r_istore hC dL_law_343 (by rw [hnl]; decide) (L' := [(7, .int (sDropN ((f, g, sl, op, lo), hd, rs, np, tp, av, lg, pl, tk) (xs (4 * q + 2)).toNatClampNeg (xs (4 * q + 3)) (nI (xs (4 * q + 1)).toNatClampNeg))), (6, .int 0), (0, .ref 2000000), (1, .ref 0), (2, .ref 89), (3, .ref 100), (4, .ref 101), (5, .int (nI (4 * q)))]) rfl ?_
      refine r_aload_n hC dL_law_345 rfl (j := 4) rfl ?_
      refine r_callV hC (vs := []) vL_law_346 (sm_thrown (d := d) T_2.1) hb2 rfl rfl (by omega) (by omega) (by omega) (Nat.le_of_ble_eq_true rfl) (fun v_11 w_11 hP_11 hlen_11 => ?_) (fun _ _ h => h.elim)
      rw [hP_11.1, hP_11.2]
      show Wp X (k + 1) (n + 6) w_2 [(7, .int (sDropN ((f, g, sl, op, lo), hd, rs, np, tp, av, lg, pl, tk) (xs (4 * q + 2)).toNatClampNeg (xs (4 * q + 3)) (nI (xs (4 * q + 1)).toNatClampNeg))), (6, .int 0), (0, .ref 2000000), (1, .ref 0), (2, .ref 89), (3, .ref 100), (4, .ref 101), (5, .int (nI (4 * q)))] [.int 0] 349
      refine r_iload hC dL_law_349 (j := 1) rfl ?_
      refine r_icmp_eq hC dL_law_351 (tgt := 356) (by decide) (fun _ => ?_) (fun h => absurd (by decide) h)
      refine r_iload hC dL_law_356 (j := 1) rfl ?_
      refine r_if_ne hC dL_law_358 (tgt := 373) (by decide) (fun h => absurd (by decide) h) (fun _ => ?_)
      refine r_aload_n hC dL_law_361 rfl (j := 5) rfl ?_
      refine r_iconst hC dL_law_362 (v := 0) (by decide) ?_
      refine r_lald hC dL_law_363 (j := 0) hqo2 ⟨by decide, by decide, by decide⟩ ?_
      rw [hr1]
      refine r_iload hC dL_law_364 (j := 0) rfl ?_
      refine r_i2l hC dL_law_366 rfl ?_
      refine r_lcmp hC dL_law_367 ?_
      rw [cmp_self _]
      refine r_if_eq hC dL_law_368 (tgt := 373) (by decide) (fun _ => ?_) (fun h => absurd (by decide) h)
      refine r_goto hC dL_law_373 (tgt := 2109) (by decide) ?_
      refine r_locals [2, 3, 4, 5, 6, 7] (L' := [(0, .ref 2000000), (1, .ref 0), (2, .ref 89), (3, .ref 100), (4, .ref 101), (5, .int (nI (4 * q)))]) rfl ?_
      exact Wp.wid (by omega) (by omega) (kk w_2 (hlen_2.trans hlen_1) (J9.step Lw.1 (fun z h1 h2 h3 => f1 z h1 h2) ⟨q1, hq1⟩ ⟨qd, (f1 101 (by omega) (by omega)).trans hqd⟩ T_2 (⟨hOK.1, hOK.2.1, hI9 hc, all_push hOK.2.2.2.1 hI, hOK.2.2.2.2⟩)))
    · exfalso
      first | exact absurd hc hm | exact absurd hm hc | (rw [hc] at hm; cases hm; done) | (rw [hc.1] at hm; cases hm; done) | (rw [hc] at hm; exact absurd hm.1 (by decide)) | (rw [hc.1] at hm; exact absurd hm.1 (by decide)) | exact absurd hm.2 hc.2 | exact absurd hc.2 hm.2 | (have h9 := hm.2; rw [hc.2] at h9; cases h9; done)
  · have f1 : ∀ z, (z < 0 ∨ 0 + 88 < z) → z ≠ 100 → w_1[z]? = w[z]? := Lw.2.2
    have hm1 := hmd.frame (fun z _ _ => f1 z (by omega) (by omega))
    obtain ⟨fs1, hb1⟩ := hm1.ob
    obtain ⟨q1, hq1⟩ := Lw.2.1
    rw [hv_1]
    show Wp X (k + 1) (n + 6) w_1 [(0, .ref 2000000), (1, .ref 0), (2, .ref 89), (3, .ref 100), (4, .ref 101), (5, .int (nI (4 * q)))] [.int (nD (fltDrop f hd rs np (xs (4 * q + 1)) (xs (4 * q + 2)) (xs (4 * q + 3))))] 319
    refine r_istore hC dL_law_319 (by rw [hnl]; decide) (L' := [(6, .int (nD (fltDrop f hd rs np (xs (4 * q + 1)) (xs (4 * q + 2)) (xs (4 * q + 3))))), (0, .ref 2000000), (1, .ref 0), (2, .ref 89), (3, .ref 100), (4, .ref 101), (5, .int (nI (4 * q)))]) rfl ?_
    refine r_aload_n hC dL_law_321 rfl (j := 3) rfl ?_
    refine r_aload_n hC dL_law_322 rfl (j := 1) rfl ?_
    refine r_iload hC dL_law_323 (j := 6) rfl ?_
    refine r_iconst hC dL_law_325 (v := 1) (by decide) ?_
    refine r_iadd hC dL_law_326 ?_
    rw [show nI (4 * q) + 1 = nI (4 * q + 1) from nI_add (4 * q) 1]
    refine r_ialdX hC dL_law_327 (j := (4 * q + 1)) hX (mIx_nI (by omega) (by omega)) ?_
    refine r_aload_n hC dL_law_328 rfl (j := 1) rfl ?_
    refine r_iload hC dL_law_329 (j := 6) rfl ?_
    refine r_iconst hC dL_law_331 (v := 2) (by decide) ?_
    refine r_iadd hC dL_law_332 ?_
    rw [show nI (4 * q) + 2 = nI (4 * q + 2) from nI_add (4 * q) 2]
    refine r_ialdX hC dL_law_333 (j := (4 * q + 2)) hX (mIx_nI (by omega) (by omega)) ?_
    refine r_aload_n hC dL_law_334 rfl (j := 1) rfl ?_
    refine r_iload hC dL_law_335 (j := 6) rfl ?_
    refine r_iconst hC dL_law_337 (v := 3) (by decide) ?_
    refine r_iadd hC dL_law_338 ?_
    rw [show nI (4 * q) + 3 = nI (4 * q + 3) from nI_add (4 * q) 3]
    refine r_ialdX hC dL_law_339 (j := (4 * q + 3)) hX (mIx_nI (by omega) (by omega)) ?_
    
    refine r_callV hC (vs := [.int (xs (4 * q + 1)), .int (xs (4 * q + 2)), .int (xs (4 * q + 3))]) vL_law_340 (sm_drop (d := d) (q := (xs (4 * q + 1))) (c := (xs (4 * q + 2))) (x := (xs (4 * q + 3))) hm1 h25 hop hlg hnp hT9) hb1 rfl rfl (by omega) (by omega) (by omega) (Nat.le_of_ble_eq_true rfl) (fun v_2 w_2 hP_2 hlen_2 => ?_) (fun _ _ h => h.elim)
    rcases hP_2 with ⟨hm, hv_2, T_2⟩ | ⟨hm, hv_2, T_2⟩
    · exfalso
      first | exact absurd hc hm | exact absurd hm hc | (rw [hc] at hm; cases hm; done) | (rw [hc.1] at hm; cases hm; done) | (rw [hc] at hm; exact absurd hm.1 (by decide)) | (rw [hc.1] at hm; exact absurd hm.1 (by decide)) | exact absurd hm.2 hc.2 | exact absurd hc.2 hm.2 | (have h9 := hm.2; rw [hc.2] at h9; cases h9; done)
    · have hqo2 := (T_2.2.2 100 (by omega)).trans hq1
      obtain ⟨fs2, hb2⟩ := T_2.1.ob
      rw [hv_2]
      show Wp X (k + 1) (n + 6) w_2 [(6, .int (nD (fltDrop f hd rs np (xs (4 * q + 1)) (xs (4 * q + 2)) (xs (4 * q + 3))))), (0, .ref 2000000), (1, .ref 0), (2, .ref 89), (3, .ref 100), (4, .ref 101), (5, .int (nI (4 * q)))] [.int 0] 343
      refine r_istore hC dL_law_343 (by rw [hnl]; decide) (L' := [(7, .int 0), (6, .int (nD (fltDrop f hd rs np (xs (4 * q + 1)) (xs (4 * q + 2)) (xs (4 * q + 3))))), (0, .ref 2000000), (1, .ref 0), (2, .ref 89), (3, .ref 100), (4, .ref 101), (5, .int (nI (4 * q)))]) rfl ?_
      refine r_aload_n hC dL_law_345 rfl (j := 4) rfl ?_
      refine r_callV hC (vs := []) vL_law_346 (sm_thrown (d := d) T_2.1) hb2 rfl rfl (by omega) (by omega) (by omega) (Nat.le_of_ble_eq_true rfl) (fun v_11 w_11 hP_11 hlen_11 => ?_) (fun _ _ h => h.elim)
      rw [hP_11.1, hP_11.2]
      show Wp X (k + 1) (n + 6) w_2 [(7, .int 0), (6, .int (nD (fltDrop f hd rs np (xs (4 * q + 1)) (xs (4 * q + 2)) (xs (4 * q + 3))))), (0, .ref 2000000), (1, .ref 0), (2, .ref 89), (3, .ref 100), (4, .ref 101), (5, .int (nI (4 * q)))] [.int (nD (fltDrop f hd rs np (xs (4 * q + 1)) (xs (4 * q + 2)) (xs (4 * q + 3))))] 349
      refine r_iload hC dL_law_349 (j := 1) rfl ?_
      refine r_icmp_eq hC dL_law_351 (tgt := 356) (by decide) (fun _ => ?_) (fun h => absurd rfl h)
      refine r_iload hC dL_law_356 (j := 1) rfl ?_
      refine r_if_ne hC dL_law_358 (tgt := 373) (by decide) (fun _ => ?_) (fun h => absurd h nD_ne)
      refine r_goto hC dL_law_373 (tgt := 2109) (by decide) ?_
      refine r_locals [2, 3, 4, 5, 6, 7] (L' := [(0, .ref 2000000), (1, .ref 0), (2, .ref 89), (3, .ref 100), (4, .ref 101), (5, .int (nI (4 * q)))]) rfl ?_
      exact Wp.wid (by omega) (by omega) (kk w_2 (hlen_2.trans hlen_1) (J9.step Lw.1 (fun z h1 h2 h3 => f1 z h1 h2) ⟨q1, hq1⟩ ⟨qd, (f1 101 (by omega) (by omega)).trans hqd⟩ T_2 (hOK)))
end LP3
