section LP
set_option maxRecDepth 100000 in
set_option maxHeartbeats 4000000 in
theorem op_23 {X : mC} {d q mc ms k n : Nat} {w : mW} {N : Nat} {xs : Nat → Int32} {th : Int32} {f g : Nat → Int32} {sl op lo : Int32} {hd rs : Nat → Int32} {np : Nat} {tp av lg pl tk : Int32} {l : List sv} {ea fa : Int32} {so : Option sv} {txl lnl : List Nat} {tx : Nat → Int32} {tn : Nat} {lf : Nat → Int32} {ln : Nat} (hX : mScr X N xs) (J : JI w th ((f, g, sl, op, lo), hd, rs, np, tp, av, lg, pl, tk) l ea fa so txl lnl tx tn lf ln) (hC : Cx X RL cL_law (d + 12) mc ms) (hnl : mNL X = 9) (hq : 4 * q + 4 ≤ N) (hN : N ≤ 2048) (hk : k + 25 ≤ mc) (hn : n + 3100 ≤ ms) (kk : ∀ w', w'.length = w.length → JV w' → Wp X (k + 25) (n + 3100) w' [(0, .ref 2000000), (1, .ref 0), (2, .ref 89), (3, .ref 100), (4, .ref 101), (5, .int (nI (4 * q)))] [] 2109)  : Wp X k n w [(0, .ref 2000000), (1, .ref 0), (2, .ref 89), (3, .ref 100), (4, .ref 101), (5, .int (nI (4 * q)))] [] 1248 := by
  have J9 := J
  obtain ⟨hct, hmd, ⟨qo, hqo⟩, ⟨qd, hqd⟩, hOK⟩ := J
  have hI : SInv ((f, g, sl, op, lo), hd, rs, np, tp, av, lg, pl, tk) := hOK.2.2.1
  have hnp : np ≤ 4 := hI.2.2
  have h25 : f 25 = 0 := hI.1.2.1
  have hop : op = 0 ∨ op = 1 := hI.1.2.2.1
  have hpos : ∀ j, j < 25 → ¬ f j < 0 := hI.1.1.1
  have hlg : ¬ lg < 0 := hI.2.1
  have hea := hOK.2.2.2.2.2.2.2.2.1
  have hfa := hOK.2.2.2.2.2.2.2.2.2
  obtain ⟨fc0, hc0⟩ := hct.ob
  obtain ⟨fm0, hm0⟩ := hmd.ob
  refine r_aload_n hC dL_law_1248 rfl (j := 1) rfl ?_
  refine r_aload_n hC dL_law_1249 rfl (j := 0) rfl ?_
  refine r_iload hC dL_law_1250 (j := 5) rfl ?_
  refine r_iconst hC dL_law_1252 (v := 1) (by decide) ?_
  refine r_iadd hC dL_law_1253 ?_
  rw [show nI (4 * q) + 1 = nI (4 * q + 1) from nI_add (4 * q) 1]
  refine r_ialdX hC dL_law_1254 (j := (4 * q + 1)) hX (mIx_nI (by omega) (by omega)) ?_
  refine r_aload_n hC dL_law_1255 rfl (j := 3) rfl ?_
  
  refine r_callH hC (vs := [.ref 0, .int (xs (4 * q + 1)), .ref 100]) wL_law_1256 (lw_peakAt (d := d) (r := (xs (4 * q + 1))) hct hqo (Or.inr (by decide)) ) rfl (by omega) (by omega) (by omega) (Nat.le_of_ble_eq_true rfl) (fun v_1 w_1 hP_1 hlen_1 => ?_)
  rcases hP_1 with ⟨k1, hk1, hk2, hk3, hv_1, Lw⟩ | ⟨hc, hv_1, Lw⟩
  · have f1 : ∀ z, (z < 0 ∨ 0 + 88 < z) → z ≠ 100 → w_1[z]? = w[z]? := Lw.2.2
    have hm1 := hmd.frame (fun z _ _ => f1 z (by omega) (by omega))
    obtain ⟨fs1, hb1⟩ := hm1.ob
    obtain ⟨q1, hq1, hr1⟩ := Lw.2.1
    rw [hv_1]
    show Wp X (k + 1) (n + 6) w_1 [(0, .ref 2000000), (1, .ref 0), (2, .ref 89), (3, .ref 100), (4, .ref 101), (5, .int (nI (4 * q)))] [.int 0] 1259
    refine r_istore hC dL_law_1259 (by rw [hnl]; decide) (L' := [(6, .int 0), (0, .ref 2000000), (1, .ref 0), (2, .ref 89), (3, .ref 100), (4, .ref 101), (5, .int (nI (4 * q)))]) rfl ?_
    refine r_aload_n hC dL_law_1261 rfl (j := 3) rfl ?_
    refine r_aload_n hC dL_law_1262 rfl (j := 1) rfl ?_
    refine r_iload hC dL_law_1263 (j := 6) rfl ?_
    refine r_iconst hC dL_law_1265 (v := 1) (by decide) ?_
    refine r_iadd hC dL_law_1266 ?_
    rw [show nI (4 * q) + 1 = nI (4 * q + 1) from nI_add (4 * q) 1]
    refine r_ialdX hC dL_law_1267 (j := (4 * q + 1)) hX (mIx_nI (by omega) (by omega)) ?_
    
    refine r_callV hC (vs := [.int (xs (4 * q + 1))]) vL_law_1268 (sm_peakAt (d := d) (r := (xs (4 * q + 1))) hm1 h25 hpos) hb1 rfl rfl (by omega) (by omega) (by omega) (Nat.le_of_ble_eq_true rfl) (fun v_2 w_2 hP_2 hlen_2 => ?_) (fun _ _ h => h.elim)
    rcases hP_2 with ⟨k2, hj1, hj2, hj3, hv_2, T_2⟩ | ⟨hm, hv_2, T_2⟩
    · obtain rfl : k1 = k2 := rank_eq hk2 hk3 hj2 hj3
      have hqo2 := (T_2.2.2 100 (by omega)).trans hq1
      obtain ⟨fs2, hb2⟩ := T_2.1.ob
      rw [hv_2]
      show Wp X (k + 1) (n + 6) w_2 [(6, .int 0), (0, .ref 2000000), (1, .ref 0), (2, .ref 89), (3, .ref 100), (4, .ref 101), (5, .int (nI (4 * q)))] [.int (nI k1)] 1271
      refine r_istore hC dL_law_1271 (by rw [hnl]; decide) (L' := [(7, .int (nI k1)), (6, .int 0), (0, .ref 2000000), (1, .ref 0), (2, .ref 89), (3, .ref 100), (4, .ref 101), (5, .int (nI (4 * q)))]) rfl ?_
      refine r_aload_n hC dL_law_1273 rfl (j := 4) rfl ?_
      refine r_callV hC (vs := []) vL_law_1274 (sm_thrown (d := d) T_2.1) hb2 rfl rfl (by omega) (by omega) (by omega) (Nat.le_of_ble_eq_true rfl) (fun v_11 w_11 hP_11 hlen_11 => ?_) (fun _ _ h => h.elim)
      rw [hP_11.1, hP_11.2]
      show Wp X (k + 1) (n + 6) w_2 [(7, .int (nI k1)), (6, .int 0), (0, .ref 2000000), (1, .ref 0), (2, .ref 89), (3, .ref 100), (4, .ref 101), (5, .int (nI (4 * q)))] [.int 0] 1277
      refine r_iload hC dL_law_1277 (j := 1) rfl ?_
      refine r_icmp_eq hC dL_law_1279 (tgt := 1284) (by decide) (fun _ => ?_) (fun h => absurd (by decide) h)
      refine r_iload hC dL_law_1284 (j := 1) rfl ?_
      refine r_if_ne hC dL_law_1286 (tgt := 1301) (by decide) (fun h => absurd (by decide) h) (fun _ => ?_)
      refine r_aload_n hC dL_law_1289 rfl (j := 5) rfl ?_
      refine r_iconst hC dL_law_1290 (v := 0) (by decide) ?_
      refine r_lald hC dL_law_1291 (j := 0) hqo2 ⟨by decide, by decide, by decide⟩ ?_
      rw [hr1]
      refine r_iload hC dL_law_1292 (j := 0) rfl ?_
      refine r_i2l hC dL_law_1294 rfl ?_
      refine r_lcmp hC dL_law_1295 ?_
      rw [cmp_self _]
      refine r_if_eq hC dL_law_1296 (tgt := 1301) (by decide) (fun _ => ?_) (fun h => absurd (by decide) h)
      refine r_goto hC dL_law_1301 (tgt := 2109) (by decide) ?_
      refine r_locals [2, 3, 4, 5, 6, 7] (L' := [(0, .ref 2000000), (1, .ref 0), (2, .ref 89), (3, .ref 100), (4, .ref 101), (5, .int (nI (4 * q)))]) rfl ?_
      exact Wp.wid (by omega) (by omega) (kk w_2 (hlen_2.trans hlen_1) (J9.step Lw.1 (fun z h1 h2 h3 => f1 z h1 h2) ⟨q1, hq1⟩ ⟨qd, (f1 101 (by omega) (by omega)).trans hqd⟩ T_2 (hOK)))
    · exfalso
      first | (rw [hc k2 hj1] at hj2; cases hj2) | (rw [hm k1 hk1] at hk2; cases hk2)
  · have f1 : ∀ z, (z < 0 ∨ 0 + 88 < z) → z ≠ 100 → w_1[z]? = w[z]? := Lw.2.2
    have hm1 := hmd.frame (fun z _ _ => f1 z (by omega) (by omega))
    obtain ⟨fs1, hb1⟩ := hm1.ob
    obtain ⟨q1, hq1⟩ := Lw.2.1
    rw [hv_1]
    show Wp X (k + 1) (n + 6) w_1 [(0, .ref 2000000), (1, .ref 0), (2, .ref 89), (3, .ref 100), (4, .ref 101), (5, .int (nI (4 * q)))] [.int 1] 1259
    refine r_istore hC dL_law_1259 (by rw [hnl]; decide) (L' := [(6, .int 1), (0, .ref 2000000), (1, .ref 0), (2, .ref 89), (3, .ref 100), (4, .ref 101), (5, .int (nI (4 * q)))]) rfl ?_
    refine r_aload_n hC dL_law_1261 rfl (j := 3) rfl ?_
    refine r_aload_n hC dL_law_1262 rfl (j := 1) rfl ?_
    refine r_iload hC dL_law_1263 (j := 6) rfl ?_
    refine r_iconst hC dL_law_1265 (v := 1) (by decide) ?_
    refine r_iadd hC dL_law_1266 ?_
    rw [show nI (4 * q) + 1 = nI (4 * q + 1) from nI_add (4 * q) 1]
    refine r_ialdX hC dL_law_1267 (j := (4 * q + 1)) hX (mIx_nI (by omega) (by omega)) ?_
    
    refine r_callV hC (vs := [.int (xs (4 * q + 1))]) vL_law_1268 (sm_peakAt (d := d) (r := (xs (4 * q + 1))) hm1 h25 hpos) hb1 rfl rfl (by omega) (by omega) (by omega) (Nat.le_of_ble_eq_true rfl) (fun v_2 w_2 hP_2 hlen_2 => ?_) (fun _ _ h => h.elim)
    rcases hP_2 with ⟨k2, hj1, hj2, hj3, hv_2, T_2⟩ | ⟨hm, hv_2, T_2⟩
    · exfalso
      first | (rw [hc k2 hj1] at hj2; cases hj2) | (rw [hm k1 hk1] at hk2; cases hk2)
    · have hqo2 := (T_2.2.2 100 (by omega)).trans hq1
      obtain ⟨fs2, hb2⟩ := T_2.1.ob
      rw [hv_2]
      show Wp X (k + 1) (n + 6) w_2 [(6, .int 1), (0, .ref 2000000), (1, .ref 0), (2, .ref 89), (3, .ref 100), (4, .ref 101), (5, .int (nI (4 * q)))] [.int 0] 1271
      refine r_istore hC dL_law_1271 (by rw [hnl]; decide) (L' := [(7, .int 0), (6, .int 1), (0, .ref 2000000), (1, .ref 0), (2, .ref 89), (3, .ref 100), (4, .ref 101), (5, .int (nI (4 * q)))]) rfl ?_
      refine r_aload_n hC dL_law_1273 rfl (j := 4) rfl ?_
      refine r_callV hC (vs := []) vL_law_1274 (sm_thrown (d := d) T_2.1) hb2 rfl rfl (by omega) (by omega) (by omega) (Nat.le_of_ble_eq_true rfl) (fun v_11 w_11 hP_11 hlen_11 => ?_) (fun _ _ h => h.elim)
      rw [hP_11.1, hP_11.2]
      show Wp X (k + 1) (n + 6) w_2 [(7, .int 0), (6, .int 1), (0, .ref 2000000), (1, .ref 0), (2, .ref 89), (3, .ref 100), (4, .ref 101), (5, .int (nI (4 * q)))] [.int 1] 1277
      refine r_iload hC dL_law_1277 (j := 1) rfl ?_
      refine r_icmp_eq hC dL_law_1279 (tgt := 1284) (by decide) (fun _ => ?_) (fun h => absurd (by decide) h)
      refine r_iload hC dL_law_1284 (j := 1) rfl ?_
      refine r_if_ne hC dL_law_1286 (tgt := 1301) (by decide) (fun _ => ?_) (fun h => absurd h (by decide))
      refine r_goto hC dL_law_1301 (tgt := 2109) (by decide) ?_
      refine r_locals [2, 3, 4, 5, 6, 7] (L' := [(0, .ref 2000000), (1, .ref 0), (2, .ref 89), (3, .ref 100), (4, .ref 101), (5, .int (nI (4 * q)))]) rfl ?_
      exact Wp.wid (by omega) (by omega) (kk w_2 (hlen_2.trans hlen_1) (J9.step Lw.1 (fun z h1 h2 h3 => f1 z h1 h2) ⟨q1, hq1⟩ ⟨qd, (f1 101 (by omega) (by omega)).trans hqd⟩ T_2 (hOK)))
set_option maxRecDepth 100000 in
set_option maxHeartbeats 4000000 in
theorem op_26 {X : mC} {d q mc ms k n : Nat} {w : mW} {N : Nat} {xs : Nat → Int32} {th : Int32} {f g : Nat → Int32} {sl op lo : Int32} {hd rs : Nat → Int32} {np : Nat} {tp av lg pl tk : Int32} {l : List sv} {ea fa : Int32} {so : Option sv} {txl lnl : List Nat} {tx : Nat → Int32} {tn : Nat} {lf : Nat → Int32} {ln : Nat} (hX : mScr X N xs) (J : JI w th ((f, g, sl, op, lo), hd, rs, np, tp, av, lg, pl, tk) l ea fa so txl lnl tx tn lf ln) (hC : Cx X RL cL_law (d + 12) mc ms) (hnl : mNL X = 9) (hq : 4 * q + 4 ≤ N) (hN : N ≤ 2048) (hk : k + 25 ≤ mc) (hn : n + 3100 ≤ ms) (kk : ∀ w', w'.length = w.length → JV w' → Wp X (k + 25) (n + 3100) w' [(0, .ref 2000000), (1, .ref 0), (2, .ref 89), (3, .ref 100), (4, .ref 101), (5, .int (nI (4 * q)))] [] 2109)  : Wp X k n w [(0, .ref 2000000), (1, .ref 0), (2, .ref 89), (3, .ref 100), (4, .ref 101), (5, .int (nI (4 * q)))] [] 1416 := by
  have J9 := J
  obtain ⟨hct, hmd, ⟨qo, hqo⟩, ⟨qd, hqd⟩, hOK⟩ := J
  have hI : SInv ((f, g, sl, op, lo), hd, rs, np, tp, av, lg, pl, tk) := hOK.2.2.1
  have hnp : np ≤ 4 := hI.2.2
  have h25 : f 25 = 0 := hI.1.2.1
  have hop : op = 0 ∨ op = 1 := hI.1.2.2.1
  have hpos : ∀ j, j < 25 → ¬ f j < 0 := hI.1.1.1
  have hlg : ¬ lg < 0 := hI.2.1
  have hea := hOK.2.2.2.2.2.2.2.2.1
  have hfa := hOK.2.2.2.2.2.2.2.2.2
  obtain ⟨fc0, hc0⟩ := hct.ob
  obtain ⟨fm0, hm0⟩ := hmd.ob
  refine r_aload_n hC dL_law_1416 rfl (j := 1) rfl ?_
  refine r_aload_n hC dL_law_1417 rfl (j := 0) rfl ?_
  refine r_iload hC dL_law_1418 (j := 5) rfl ?_
  refine r_iconst hC dL_law_1420 (v := 1) (by decide) ?_
  refine r_iadd hC dL_law_1421 ?_
  rw [show nI (4 * q) + 1 = nI (4 * q + 1) from nI_add (4 * q) 1]
  refine r_ialdX hC dL_law_1422 (j := (4 * q + 1)) hX (mIx_nI (by omega) (by omega)) ?_
  refine r_aload_n hC dL_law_1423 rfl (j := 3) rfl ?_
  
  refine r_callH hC (vs := [.ref 0, .int (xs (4 * q + 1)), .ref 100]) wL_law_1424 (lw_playerAtRank (d := d) (r := (xs (4 * q + 1))) hct hqo (Or.inr (by decide)) hnp) rfl (by omega) (by omega) (by omega) (Nat.le_of_ble_eq_true rfl) (fun v_1 w_1 hP_1 hlen_1 => ?_)
  rcases hP_1 with ⟨k1, hk1, hk2, hk3, hv_1, Lw⟩ | ⟨hc, hv_1, Lw⟩
  · have f1 : ∀ z, (z < 0 ∨ 0 + 88 < z) → z ≠ 100 → w_1[z]? = w[z]? := Lw.2.2
    have hm1 := hmd.frame (fun z _ _ => f1 z (by omega) (by omega))
    obtain ⟨fs1, hb1⟩ := hm1.ob
    obtain ⟨q1, hq1, hr1⟩ := Lw.2.1
    rw [hv_1]
    show Wp X (k + 1) (n + 6) w_1 [(0, .ref 2000000), (1, .ref 0), (2, .ref 89), (3, .ref 100), (4, .ref 101), (5, .int (nI (4 * q)))] [.int 0] 1427
    refine r_istore hC dL_law_1427 (by rw [hnl]; decide) (L' := [(6, .int 0), (0, .ref 2000000), (1, .ref 0), (2, .ref 89), (3, .ref 100), (4, .ref 101), (5, .int (nI (4 * q)))]) rfl ?_
    refine r_aload_n hC dL_law_1429 rfl (j := 3) rfl ?_
    refine r_aload_n hC dL_law_1430 rfl (j := 1) rfl ?_
    refine r_iload hC dL_law_1431 (j := 6) rfl ?_
    refine r_iconst hC dL_law_1433 (v := 1) (by decide) ?_
    refine r_iadd hC dL_law_1434 ?_
    rw [show nI (4 * q) + 1 = nI (4 * q + 1) from nI_add (4 * q) 1]
    refine r_ialdX hC dL_law_1435 (j := (4 * q + 1)) hX (mIx_nI (by omega) (by omega)) ?_
    
    refine r_callV hC (vs := [.int (xs (4 * q + 1))]) vL_law_1436 (sm_playerAtRank (d := d) (r := (xs (4 * q + 1))) hm1 h25 hpos hnp) hb1 rfl rfl (by omega) (by omega) (by omega) (Nat.le_of_ble_eq_true rfl) (fun v_2 w_2 hP_2 hlen_2 => ?_) (fun _ _ h => h.elim)
    rcases hP_2 with ⟨k2, hj1, hj2, hj3, hv_2, T_2⟩ | ⟨hm, hv_2, T_2⟩
    · obtain rfl : k1 = k2 := rank_eq hk2 hk3 hj2 hj3
      have hqo2 := (T_2.2.2 100 (by omega)).trans hq1
      obtain ⟨fs2, hb2⟩ := T_2.1.ob
      rw [hv_2]
      show Wp X (k + 1) (n + 6) w_2 [(6, .int 0), (0, .ref 2000000), (1, .ref 0), (2, .ref 89), (3, .ref 100), (4, .ref 101), (5, .int (nI (4 * q)))] [.int (nI k1)] 1439
      refine r_istore hC dL_law_1439 (by rw [hnl]; decide) (L' := [(7, .int (nI k1)), (6, .int 0), (0, .ref 2000000), (1, .ref 0), (2, .ref 89), (3, .ref 100), (4, .ref 101), (5, .int (nI (4 * q)))]) rfl ?_
      refine r_aload_n hC dL_law_1441 rfl (j := 4) rfl ?_
      refine r_callV hC (vs := []) vL_law_1442 (sm_thrown (d := d) T_2.1) hb2 rfl rfl (by omega) (by omega) (by omega) (Nat.le_of_ble_eq_true rfl) (fun v_11 w_11 hP_11 hlen_11 => ?_) (fun _ _ h => h.elim)
      rw [hP_11.1, hP_11.2]
      show Wp X (k + 1) (n + 6) w_2 [(7, .int (nI k1)), (6, .int 0), (0, .ref 2000000), (1, .ref 0), (2, .ref 89), (3, .ref 100), (4, .ref 101), (5, .int (nI (4 * q)))] [.int 0] 1445
      refine r_iload hC dL_law_1445 (j := 1) rfl ?_
      refine r_icmp_eq hC dL_law_1447 (tgt := 1452) (by decide) (fun _ => ?_) (fun h => absurd (by decide) h)
      refine r_iload hC dL_law_1452 (j := 1) rfl ?_
      refine r_if_ne hC dL_law_1454 (tgt := 1469) (by decide) (fun h => absurd (by decide) h) (fun _ => ?_)
      refine r_aload_n hC dL_law_1457 rfl (j := 5) rfl ?_
      refine r_iconst hC dL_law_1458 (v := 0) (by decide) ?_
      refine r_lald hC dL_law_1459 (j := 0) hqo2 ⟨by decide, by decide, by decide⟩ ?_
      rw [hr1]
      refine r_iload hC dL_law_1460 (j := 0) rfl ?_
      refine r_i2l hC dL_law_1462 rfl ?_
      refine r_lcmp hC dL_law_1463 ?_
      rw [cmp_self _]
      refine r_if_eq hC dL_law_1464 (tgt := 1469) (by decide) (fun _ => ?_) (fun h => absurd (by decide) h)
      refine r_goto hC dL_law_1469 (tgt := 2109) (by decide) ?_
      refine r_locals [2, 3, 4, 5, 6, 7] (L' := [(0, .ref 2000000), (1, .ref 0), (2, .ref 89), (3, .ref 100), (4, .ref 101), (5, .int (nI (4 * q)))]) rfl ?_
      exact Wp.wid (by omega) (by omega) (kk w_2 (hlen_2.trans hlen_1) (J9.step Lw.1 (fun z h1 h2 h3 => f1 z h1 h2) ⟨q1, hq1⟩ ⟨qd, (f1 101 (by omega) (by omega)).trans hqd⟩ T_2 (hOK)))
    · exfalso
      first | (rw [hc k2 hj1] at hj2; cases hj2) | (rw [hm k1 hk1] at hk2; cases hk2)
  · have f1 : ∀ z, (z < 0 ∨ 0 + 88 < z) → z ≠ 100 → w_1[z]? = w[z]? := Lw.2.2
    have hm1 := hmd.frame (fun z _ _ => f1 z (by omega) (by omega))
    obtain ⟨fs1, hb1⟩ := hm1.ob
    obtain ⟨q1, hq1⟩ := Lw.2.1
    rw [hv_1]
    show Wp X (k + 1) (n + 6) w_1 [(0, .ref 2000000), (1, .ref 0), (2, .ref 89), (3, .ref 100), (4, .ref 101), (5, .int (nI (4 * q)))] [.int 1] 1427
    refine r_istore hC dL_law_1427 (by rw [hnl]; decide) (L' := [(6, .int 1), (0, .ref 2000000), (1, .ref 0), (2, .ref 89), (3, .ref 100), (4, .ref 101), (5, .int (nI (4 * q)))]) rfl ?_
    refine r_aload_n hC dL_law_1429 rfl (j := 3) rfl ?_
    refine r_aload_n hC dL_law_1430 rfl (j := 1) rfl ?_
    refine r_iload hC dL_law_1431 (j := 6) rfl ?_
    refine r_iconst hC dL_law_1433 (v := 1) (by decide) ?_
    refine r_iadd hC dL_law_1434 ?_
    rw [show nI (4 * q) + 1 = nI (4 * q + 1) from nI_add (4 * q) 1]
    refine r_ialdX hC dL_law_1435 (j := (4 * q + 1)) hX (mIx_nI (by omega) (by omega)) ?_
    
    refine r_callV hC (vs := [.int (xs (4 * q + 1))]) vL_law_1436 (sm_playerAtRank (d := d) (r := (xs (4 * q + 1))) hm1 h25 hpos hnp) hb1 rfl rfl (by omega) (by omega) (by omega) (Nat.le_of_ble_eq_true rfl) (fun v_2 w_2 hP_2 hlen_2 => ?_) (fun _ _ h => h.elim)
    rcases hP_2 with ⟨k2, hj1, hj2, hj3, hv_2, T_2⟩ | ⟨hm, hv_2, T_2⟩
    · exfalso
      first | (rw [hc k2 hj1] at hj2; cases hj2) | (rw [hm k1 hk1] at hk2; cases hk2)
    · have hqo2 := (T_2.2.2 100 (by omega)).trans hq1
      obtain ⟨fs2, hb2⟩ := T_2.1.ob
      rw [hv_2]
      show Wp X (k + 1) (n + 6) w_2 [(6, .int 1), (0, .ref 2000000), (1, .ref 0), (2, .ref 89), (3, .ref 100), (4, .ref 101), (5, .int (nI (4 * q)))] [.int 0] 1439
      refine r_istore hC dL_law_1439 (by rw [hnl]; decide) (L' := [(7, .int 0), (6, .int 1), (0, .ref 2000000), (1, .ref 0), (2, .ref 89), (3, .ref 100), (4, .ref 101), (5, .int (nI (4 * q)))]) rfl ?_
      refine r_aload_n hC dL_law_1441 rfl (j := 4) rfl ?_
      refine r_callV hC (vs := []) vL_law_1442 (sm_thrown (d := d) T_2.1) hb2 rfl rfl (by omega) (by omega) (by omega) (Nat.le_of_ble_eq_true rfl) (fun v_11 w_11 hP_11 hlen_11 => ?_) (fun _ _ h => h.elim)
      rw [hP_11.1, hP_11.2]
      show Wp X (k + 1) (n + 6) w_2 [(7, .int 0), (6, .int 1), (0, .ref 2000000), (1, .ref 0), (2, .ref 89), (3, .ref 100), (4, .ref 101), (5, .int (nI (4 * q)))] [.int 1] 1445
      refine r_iload hC dL_law_1445 (j := 1) rfl ?_
      refine r_icmp_eq hC dL_law_1447 (tgt := 1452) (by decide) (fun _ => ?_) (fun h => absurd (by decide) h)
      refine r_iload hC dL_law_1452 (j := 1) rfl ?_
      refine r_if_ne hC dL_law_1454 (tgt := 1469) (by decide) (fun _ => ?_) (fun h => absurd h (by decide))
      refine r_goto hC dL_law_1469 (tgt := 2109) (by decide) ?_
      refine r_locals [2, 3, 4, 5, 6, 7] (L' := [(0, .ref 2000000), (1, .ref 0), (2, .ref 89), (3, .ref 100), (4, .ref 101), (5, .int (nI (4 * q)))]) rfl ?_
      exact Wp.wid (by omega) (by omega) (kk w_2 (hlen_2.trans hlen_1) (J9.step Lw.1 (fun z h1 h2 h3 => f1 z h1 h2) ⟨q1, hq1⟩ ⟨qd, (f1 101 (by omega) (by omega)).trans hqd⟩ T_2 (hOK)))
set_option maxRecDepth 100000 in
set_option maxHeartbeats 4000000 in
theorem op_36 {X : mC} {d q mc ms k n : Nat} {w : mW} {N : Nat} {xs : Nat → Int32} {th : Int32} {f g : Nat → Int32} {sl op lo : Int32} {hd rs : Nat → Int32} {np : Nat} {tp av lg pl tk : Int32} {l : List sv} {ea fa : Int32} {so : Option sv} {txl lnl : List Nat} {tx : Nat → Int32} {tn : Nat} {lf : Nat → Int32} {ln : Nat} (hX : mScr X N xs) (J : JI w th ((f, g, sl, op, lo), hd, rs, np, tp, av, lg, pl, tk) l ea fa so txl lnl tx tn lf ln) (hC : Cx X RL cL_law (d + 12) mc ms) (hnl : mNL X = 9) (hq : 4 * q + 4 ≤ N) (hN : N ≤ 2048) (hk : k + 25 ≤ mc) (hn : n + 3100 ≤ ms) (kk : ∀ w', w'.length = w.length → JV w' → Wp X (k + 25) (n + 3100) w' [(0, .ref 2000000), (1, .ref 0), (2, .ref 89), (3, .ref 100), (4, .ref 101), (5, .int (nI (4 * q)))] [] 2109)  : Wp X k n w [(0, .ref 2000000), (1, .ref 0), (2, .ref 89), (3, .ref 100), (4, .ref 101), (5, .int (nI (4 * q)))] [] 1730 := by
  have J9 := J
  obtain ⟨hct, hmd, ⟨qo, hqo⟩, ⟨qd, hqd⟩, hOK⟩ := J
  have hI : SInv ((f, g, sl, op, lo), hd, rs, np, tp, av, lg, pl, tk) := hOK.2.2.1
  have hnp : np ≤ 4 := hI.2.2
  have h25 : f 25 = 0 := hI.1.2.1
  have hop : op = 0 ∨ op = 1 := hI.1.2.2.1
  have hpos : ∀ j, j < 25 → ¬ f j < 0 := hI.1.1.1
  have hlg : ¬ lg < 0 := hI.2.1
  have hea := hOK.2.2.2.2.2.2.2.2.1
  have hfa := hOK.2.2.2.2.2.2.2.2.2
  obtain ⟨fc0, hc0⟩ := hct.ob
  obtain ⟨fm0, hm0⟩ := hmd.ob
  refine r_aload_n hC dL_law_1730 rfl (j := 1) rfl ?_
  refine r_aload_n hC dL_law_1731 rfl (j := 3) rfl ?_
  
  refine r_callH hC (vs := [.ref 0, .ref 100]) wL_law_1732 (lw_errorPosition (d := d) hct hqo (Or.inr (by decide))) rfl (by omega) (by omega) (by omega) (Nat.le_of_ble_eq_true rfl) (fun v_1 w_1 hP_1 hlen_1 => ?_)
  rcases hP_1 with ⟨hc, hv_1, Lw⟩ | ⟨hc, hv_1, Lw⟩
  · have f1 : ∀ z, (z < 0 ∨ 0 + 88 < z) → z ≠ 100 → w_1[z]? = w[z]? := Lw.2.2
    have hm1 := hmd.frame (fun z _ _ => f1 z (by omega) (by omega))
    obtain ⟨fs1, hb1⟩ := hm1.ob
    obtain ⟨q1, hq1, hr1⟩ := Lw.2.1
    rw [hv_1]
    show Wp X (k + 1) (n + 6) w_1 [(0, .ref 2000000), (1, .ref 0), (2, .ref 89), (3, .ref 100), (4, .ref 101), (5, .int (nI (4 * q)))] [.int 0] 1735
    refine r_istore hC dL_law_1735 (by rw [hnl]; decide) (L' := [(6, .int 0), (0, .ref 2000000), (1, .ref 0), (2, .ref 89), (3, .ref 100), (4, .ref 101), (5, .int (nI (4 * q)))]) rfl ?_
    refine r_aload_n hC dL_law_1737 rfl (j := 3) rfl ?_
    
    refine r_callV hC (vs := []) vL_law_1738 (sm_errorPosition (d := d) hm1) hb1 rfl rfl (by omega) (by omega) (by omega) (Nat.le_of_ble_eq_true rfl) (fun v_2 w_2 hP_2 hlen_2 => ?_) (fun _ _ h => h.elim)
    rcases hP_2 with ⟨hm, hv_2, T_2⟩ | ⟨hm, hv_2, T_2⟩
    · have hqo2 := (T_2.2.2 100 (by omega)).trans hq1
      obtain ⟨fs2, hb2⟩ := T_2.1.ob
      rw [hv_2]
      show Wp X (k + 1) (n + 6) w_2 [(6, .int 0), (0, .ref 2000000), (1, .ref 0), (2, .ref 89), (3, .ref 100), (4, .ref 101), (5, .int (nI (4 * q)))] [.int ea] 1741
      refine r_istore hC dL_law_1741 (by rw [hnl]; decide) (L' := [(7, .int ea), (6, .int 0), (0, .ref 2000000), (1, .ref 0), (2, .ref 89), (3, .ref 100), (4, .ref 101), (5, .int (nI (4 * q)))]) rfl ?_
      refine r_aload_n hC dL_law_1743 rfl (j := 4) rfl ?_
      refine r_callV hC (vs := []) vL_law_1744 (sm_thrown (d := d) T_2.1) hb2 rfl rfl (by omega) (by omega) (by omega) (Nat.le_of_ble_eq_true rfl) (fun v_11 w_11 hP_11 hlen_11 => ?_) (fun _ _ h => h.elim)
      rw [hP_11.1, hP_11.2]
      show Wp X (k + 1) (n + 6) w_2 [(7, .int ea), (6, .int 0), (0, .ref 2000000), (1, .ref 0), (2, .ref 89), (3, .ref 100), (4, .ref 101), (5, .int (nI (4 * q)))] [.int 0] 1747
      refine r_iload hC dL_law_1747 (j := 1) rfl ?_
      refine r_icmp_eq hC dL_law_1749 (tgt := 1754) (by decide) (fun _ => ?_) (fun h => absurd (by decide) h)
      refine r_iload hC dL_law_1754 (j := 1) rfl ?_
      refine r_if_ne hC dL_law_1756 (tgt := 1771) (by decide) (fun h => absurd (by decide) h) (fun _ => ?_)
      refine r_aload_n hC dL_law_1759 rfl (j := 5) rfl ?_
      refine r_iconst hC dL_law_1760 (v := 0) (by decide) ?_
      refine r_lald hC dL_law_1761 (j := 0) hqo2 ⟨by decide, by decide, by decide⟩ ?_
      rw [hr1]
      refine r_iload hC dL_law_1762 (j := 0) rfl ?_
      refine r_i2l hC dL_law_1764 rfl ?_
      refine r_lcmp hC dL_law_1765 ?_
      rw [cmp_self _]
      refine r_if_eq hC dL_law_1766 (tgt := 1771) (by decide) (fun _ => ?_) (fun h => absurd (by decide) h)
      refine r_goto hC dL_law_1771 (tgt := 2109) (by decide) ?_
      refine r_locals [2, 3, 4, 5, 6, 7] (L' := [(0, .ref 2000000), (1, .ref 0), (2, .ref 89), (3, .ref 100), (4, .ref 101), (5, .int (nI (4 * q)))]) rfl ?_
      exact Wp.wid (by omega) (by omega) (kk w_2 (hlen_2.trans hlen_1) (J9.step Lw.1 (fun z h1 h2 h3 => f1 z h1 h2) ⟨q1, hq1⟩ ⟨qd, (f1 101 (by omega) (by omega)).trans hqd⟩ T_2 (hOK)))
    · exfalso
      first | (rcases hea with h9 | h9; exact absurd h9 hc; exact absurd hm h9) | (rw [hc] at hm; exact absurd (by decide) hm)
  · have f1 : ∀ z, (z < 0 ∨ 0 + 88 < z) → z ≠ 100 → w_1[z]? = w[z]? := Lw.2.2
    have hm1 := hmd.frame (fun z _ _ => f1 z (by omega) (by omega))
    obtain ⟨fs1, hb1⟩ := hm1.ob
    obtain ⟨q1, hq1⟩ := Lw.2.1
    rw [hv_1]
    show Wp X (k + 1) (n + 6) w_1 [(0, .ref 2000000), (1, .ref 0), (2, .ref 89), (3, .ref 100), (4, .ref 101), (5, .int (nI (4 * q)))] [.int 1] 1735
    refine r_istore hC dL_law_1735 (by rw [hnl]; decide) (L' := [(6, .int 1), (0, .ref 2000000), (1, .ref 0), (2, .ref 89), (3, .ref 100), (4, .ref 101), (5, .int (nI (4 * q)))]) rfl ?_
    refine r_aload_n hC dL_law_1737 rfl (j := 3) rfl ?_
    
    refine r_callV hC (vs := []) vL_law_1738 (sm_errorPosition (d := d) hm1) hb1 rfl rfl (by omega) (by omega) (by omega) (Nat.le_of_ble_eq_true rfl) (fun v_2 w_2 hP_2 hlen_2 => ?_) (fun _ _ h => h.elim)
    rcases hP_2 with ⟨hm, hv_2, T_2⟩ | ⟨hm, hv_2, T_2⟩
    · exfalso
      first | (rcases hea with h9 | h9; exact absurd h9 hc; exact absurd hm h9) | (rw [hc] at hm; exact absurd (by decide) hm)
    · have hqo2 := (T_2.2.2 100 (by omega)).trans hq1
      obtain ⟨fs2, hb2⟩ := T_2.1.ob
      rw [hv_2]
      show Wp X (k + 1) (n + 6) w_2 [(6, .int 1), (0, .ref 2000000), (1, .ref 0), (2, .ref 89), (3, .ref 100), (4, .ref 101), (5, .int (nI (4 * q)))] [.int 0] 1741
      refine r_istore hC dL_law_1741 (by rw [hnl]; decide) (L' := [(7, .int 0), (6, .int 1), (0, .ref 2000000), (1, .ref 0), (2, .ref 89), (3, .ref 100), (4, .ref 101), (5, .int (nI (4 * q)))]) rfl ?_
      refine r_aload_n hC dL_law_1743 rfl (j := 4) rfl ?_
      refine r_callV hC (vs := []) vL_law_1744 (sm_thrown (d := d) T_2.1) hb2 rfl rfl (by omega) (by omega) (by omega) (Nat.le_of_ble_eq_true rfl) (fun v_11 w_11 hP_11 hlen_11 => ?_) (fun _ _ h => h.elim)
      rw [hP_11.1, hP_11.2]
      show Wp X (k + 1) (n + 6) w_2 [(7, .int 0), (6, .int 1), (0, .ref 2000000), (1, .ref 0), (2, .ref 89), (3, .ref 100), (4, .ref 101), (5, .int (nI (4 * q)))] [.int 1] 1747
      refine r_iload hC dL_law_1747 (j := 1) rfl ?_
      refine r_icmp_eq hC dL_law_1749 (tgt := 1754) (by decide) (fun _ => ?_) (fun h => absurd (by decide) h)
      refine r_iload hC dL_law_1754 (j := 1) rfl ?_
      refine r_if_ne hC dL_law_1756 (tgt := 1771) (by decide) (fun _ => ?_) (fun h => absurd h (by decide))
      refine r_goto hC dL_law_1771 (tgt := 2109) (by decide) ?_
      refine r_locals [2, 3, 4, 5, 6, 7] (L' := [(0, .ref 2000000), (1, .ref 0), (2, .ref 89), (3, .ref 100), (4, .ref 101), (5, .int (nI (4 * q)))]) rfl ?_
      exact Wp.wid (by omega) (by omega) (kk w_2 (hlen_2.trans hlen_1) (J9.step Lw.1 (fun z h1 h2 h3 => f1 z h1 h2) ⟨q1, hq1⟩ ⟨qd, (f1 101 (by omega) (by omega)).trans hqd⟩ T_2 (hOK)))
set_option maxRecDepth 100000 in
set_option maxHeartbeats 4000000 in
theorem op_37 {X : mC} {d q mc ms k n : Nat} {w : mW} {N : Nat} {xs : Nat → Int32} {th : Int32} {f g : Nat → Int32} {sl op lo : Int32} {hd rs : Nat → Int32} {np : Nat} {tp av lg pl tk : Int32} {l : List sv} {ea fa : Int32} {so : Option sv} {txl lnl : List Nat} {tx : Nat → Int32} {tn : Nat} {lf : Nat → Int32} {ln : Nat} (hX : mScr X N xs) (J : JI w th ((f, g, sl, op, lo), hd, rs, np, tp, av, lg, pl, tk) l ea fa so txl lnl tx tn lf ln) (hC : Cx X RL cL_law (d + 12) mc ms) (hnl : mNL X = 9) (hq : 4 * q + 4 ≤ N) (hN : N ≤ 2048) (hk : k + 25 ≤ mc) (hn : n + 3100 ≤ ms) (kk : ∀ w', w'.length = w.length → JV w' → Wp X (k + 25) (n + 3100) w' [(0, .ref 2000000), (1, .ref 0), (2, .ref 89), (3, .ref 100), (4, .ref 101), (5, .int (nI (4 * q)))] [] 2109)  : Wp X k n w [(0, .ref 2000000), (1, .ref 0), (2, .ref 89), (3, .ref 100), (4, .ref 101), (5, .int (nI (4 * q)))] [] 1774 := by
  have J9 := J
  obtain ⟨hct, hmd, ⟨qo, hqo⟩, ⟨qd, hqd⟩, hOK⟩ := J
  have hI : SInv ((f, g, sl, op, lo), hd, rs, np, tp, av, lg, pl, tk) := hOK.2.2.1
  have hnp : np ≤ 4 := hI.2.2
  have h25 : f 25 = 0 := hI.1.2.1
  have hop : op = 0 ∨ op = 1 := hI.1.2.2.1
  have hpos : ∀ j, j < 25 → ¬ f j < 0 := hI.1.1.1
  have hlg : ¬ lg < 0 := hI.2.1
  have hea := hOK.2.2.2.2.2.2.2.2.1
  have hfa := hOK.2.2.2.2.2.2.2.2.2
  obtain ⟨fc0, hc0⟩ := hct.ob
  obtain ⟨fm0, hm0⟩ := hmd.ob
  refine r_aload_n hC dL_law_1774 rfl (j := 1) rfl ?_
  refine r_aload_n hC dL_law_1775 rfl (j := 3) rfl ?_
  
  refine r_callH hC (vs := [.ref 0, .ref 100]) wL_law_1776 (lw_failedCommand (d := d) hct hqo (Or.inr (by decide))) rfl (by omega) (by omega) (by omega) (Nat.le_of_ble_eq_true rfl) (fun v_1 w_1 hP_1 hlen_1 => ?_)
  rcases hP_1 with ⟨hc, hv_1, Lw⟩ | ⟨hc, hv_1, Lw⟩
  · have f1 : ∀ z, (z < 0 ∨ 0 + 88 < z) → z ≠ 100 → w_1[z]? = w[z]? := Lw.2.2
    have hm1 := hmd.frame (fun z _ _ => f1 z (by omega) (by omega))
    obtain ⟨fs1, hb1⟩ := hm1.ob
    obtain ⟨q1, hq1, hr1⟩ := Lw.2.1
    rw [hv_1]
    show Wp X (k + 1) (n + 6) w_1 [(0, .ref 2000000), (1, .ref 0), (2, .ref 89), (3, .ref 100), (4, .ref 101), (5, .int (nI (4 * q)))] [.int 0] 1779
    refine r_istore hC dL_law_1779 (by rw [hnl]; decide) (L' := [(6, .int 0), (0, .ref 2000000), (1, .ref 0), (2, .ref 89), (3, .ref 100), (4, .ref 101), (5, .int (nI (4 * q)))]) rfl ?_
    refine r_aload_n hC dL_law_1781 rfl (j := 3) rfl ?_
    
    refine r_callV hC (vs := []) vL_law_1782 (sm_failedCommand (d := d) hm1) hb1 rfl rfl (by omega) (by omega) (by omega) (Nat.le_of_ble_eq_true rfl) (fun v_2 w_2 hP_2 hlen_2 => ?_) (fun _ _ h => h.elim)
    rcases hP_2 with ⟨hm, hv_2, T_2⟩ | ⟨hm, hv_2, T_2⟩
    · have hqo2 := (T_2.2.2 100 (by omega)).trans hq1
      obtain ⟨fs2, hb2⟩ := T_2.1.ob
      rw [hv_2]
      show Wp X (k + 1) (n + 6) w_2 [(6, .int 0), (0, .ref 2000000), (1, .ref 0), (2, .ref 89), (3, .ref 100), (4, .ref 101), (5, .int (nI (4 * q)))] [.int fa] 1785
      refine r_istore hC dL_law_1785 (by rw [hnl]; decide) (L' := [(7, .int fa), (6, .int 0), (0, .ref 2000000), (1, .ref 0), (2, .ref 89), (3, .ref 100), (4, .ref 101), (5, .int (nI (4 * q)))]) rfl ?_
      refine r_aload_n hC dL_law_1787 rfl (j := 4) rfl ?_
      refine r_callV hC (vs := []) vL_law_1788 (sm_thrown (d := d) T_2.1) hb2 rfl rfl (by omega) (by omega) (by omega) (Nat.le_of_ble_eq_true rfl) (fun v_11 w_11 hP_11 hlen_11 => ?_) (fun _ _ h => h.elim)
      rw [hP_11.1, hP_11.2]
      show Wp X (k + 1) (n + 6) w_2 [(7, .int fa), (6, .int 0), (0, .ref 2000000), (1, .ref 0), (2, .ref 89), (3, .ref 100), (4, .ref 101), (5, .int (nI (4 * q)))] [.int 0] 1791
      refine r_iload hC dL_law_1791 (j := 1) rfl ?_
      refine r_icmp_eq hC dL_law_1793 (tgt := 1798) (by decide) (fun _ => ?_) (fun h => absurd (by decide) h)
      refine r_iload hC dL_law_1798 (j := 1) rfl ?_
      refine r_if_ne hC dL_law_1800 (tgt := 1815) (by decide) (fun h => absurd (by decide) h) (fun _ => ?_)
      refine r_aload_n hC dL_law_1803 rfl (j := 5) rfl ?_
      refine r_iconst hC dL_law_1804 (v := 0) (by decide) ?_
      refine r_lald hC dL_law_1805 (j := 0) hqo2 ⟨by decide, by decide, by decide⟩ ?_
      rw [hr1]
      refine r_iload hC dL_law_1806 (j := 0) rfl ?_
      refine r_i2l hC dL_law_1808 rfl ?_
      refine r_lcmp hC dL_law_1809 ?_
      rw [cmp_self _]
      refine r_if_eq hC dL_law_1810 (tgt := 1815) (by decide) (fun _ => ?_) (fun h => absurd (by decide) h)
      refine r_goto hC dL_law_1815 (tgt := 2109) (by decide) ?_
      refine r_locals [2, 3, 4, 5, 6, 7] (L' := [(0, .ref 2000000), (1, .ref 0), (2, .ref 89), (3, .ref 100), (4, .ref 101), (5, .int (nI (4 * q)))]) rfl ?_
      exact Wp.wid (by omega) (by omega) (kk w_2 (hlen_2.trans hlen_1) (J9.step Lw.1 (fun z h1 h2 h3 => f1 z h1 h2) ⟨q1, hq1⟩ ⟨qd, (f1 101 (by omega) (by omega)).trans hqd⟩ T_2 (hOK)))
    · exfalso
      first | (rcases hfa with h9 | h9; exact absurd h9 hc; exact absurd hm h9) | (rw [hc] at hm; exact absurd (by decide) hm)
  · have f1 : ∀ z, (z < 0 ∨ 0 + 88 < z) → z ≠ 100 → w_1[z]? = w[z]? := Lw.2.2
    have hm1 := hmd.frame (fun z _ _ => f1 z (by omega) (by omega))
    obtain ⟨fs1, hb1⟩ := hm1.ob
    obtain ⟨q1, hq1⟩ := Lw.2.1
    rw [hv_1]
    show Wp X (k + 1) (n + 6) w_1 [(0, .ref 2000000), (1, .ref 0), (2, .ref 89), (3, .ref 100), (4, .ref 101), (5, .int (nI (4 * q)))] [.int 1] 1779
    refine r_istore hC dL_law_1779 (by rw [hnl]; decide) (L' := [(6, .int 1), (0, .ref 2000000), (1, .ref 0), (2, .ref 89), (3, .ref 100), (4, .ref 101), (5, .int (nI (4 * q)))]) rfl ?_
    refine r_aload_n hC dL_law_1781 rfl (j := 3) rfl ?_
    
    refine r_callV hC (vs := []) vL_law_1782 (sm_failedCommand (d := d) hm1) hb1 rfl rfl (by omega) (by omega) (by omega) (Nat.le_of_ble_eq_true rfl) (fun v_2 w_2 hP_2 hlen_2 => ?_) (fun _ _ h => h.elim)
    rcases hP_2 with ⟨hm, hv_2, T_2⟩ | ⟨hm, hv_2, T_2⟩
    · exfalso
      first | (rcases hfa with h9 | h9; exact absurd h9 hc; exact absurd hm h9) | (rw [hc] at hm; exact absurd (by decide) hm)
    · have hqo2 := (T_2.2.2 100 (by omega)).trans hq1
      obtain ⟨fs2, hb2⟩ := T_2.1.ob
      rw [hv_2]
      show Wp X (k + 1) (n + 6) w_2 [(6, .int 1), (0, .ref 2000000), (1, .ref 0), (2, .ref 89), (3, .ref 100), (4, .ref 101), (5, .int (nI (4 * q)))] [.int 0] 1785
      refine r_istore hC dL_law_1785 (by rw [hnl]; decide) (L' := [(7, .int 0), (6, .int 1), (0, .ref 2000000), (1, .ref 0), (2, .ref 89), (3, .ref 100), (4, .ref 101), (5, .int (nI (4 * q)))]) rfl ?_
      refine r_aload_n hC dL_law_1787 rfl (j := 4) rfl ?_
      refine r_callV hC (vs := []) vL_law_1788 (sm_thrown (d := d) T_2.1) hb2 rfl rfl (by omega) (by omega) (by omega) (Nat.le_of_ble_eq_true rfl) (fun v_11 w_11 hP_11 hlen_11 => ?_) (fun _ _ h => h.elim)
      rw [hP_11.1, hP_11.2]
      show Wp X (k + 1) (n + 6) w_2 [(7, .int 0), (6, .int 1), (0, .ref 2000000), (1, .ref 0), (2, .ref 89), (3, .ref 100), (4, .ref 101), (5, .int (nI (4 * q)))] [.int 1] 1791
      refine r_iload hC dL_law_1791 (j := 1) rfl ?_
      refine r_icmp_eq hC dL_law_1793 (tgt := 1798) (by decide) (fun _ => ?_) (fun h => absurd (by decide) h)
      refine r_iload hC dL_law_1798 (j := 1) rfl ?_
      refine r_if_ne hC dL_law_1800 (tgt := 1815) (by decide) (fun _ => ?_) (fun h => absurd h (by decide))
      refine r_goto hC dL_law_1815 (tgt := 2109) (by decide) ?_
      refine r_locals [2, 3, 4, 5, 6, 7] (L' := [(0, .ref 2000000), (1, .ref 0), (2, .ref 89), (3, .ref 100), (4, .ref 101), (5, .int (nI (4 * q)))]) rfl ?_
      exact Wp.wid (by omega) (by omega) (kk w_2 (hlen_2.trans hlen_1) (J9.step Lw.1 (fun z h1 h2 h3 => f1 z h1 h2) ⟨q1, hq1⟩ ⟨qd, (f1 101 (by omega) (by omega)).trans hqd⟩ T_2 (hOK)))
end LP
