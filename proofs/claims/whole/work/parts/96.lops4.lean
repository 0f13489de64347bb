section LP4
set_option maxRecDepth 100000 in
set_option maxHeartbeats 4000000 in
theorem op_5 {X : mC} {d q mc ms k n : Nat} {w : mW} {N : Nat} {xs : Nat → Int32} {th : Int32} {f g : Nat → Int32} {sl op lo : Int32} {hd rs : Nat → Int32} {np : Nat} {tp av lg pl tk : Int32} {l : List sv} {ea fa : Int32} {so : Option sv} {txl lnl : List Nat} {tx : Nat → Int32} {tn : Nat} {lf : Nat → Int32} {ln : Nat} (hX : mScr X N xs) (J : JI w th ((f, g, sl, op, lo), hd, rs, np, tp, av, lg, pl, tk) l ea fa so txl lnl tx tn lf ln) (hC : Cx X RL cL_law (d + 12) mc ms) (hnl : mNL X = 9) (hq : 4 * q + 4 ≤ N) (hN : N ≤ 2048) (hk : k + 25 ≤ mc) (hn : n + 3100 ≤ ms) (kk : ∀ w', w'.length = w.length → JV w' → Wp X (k + 25) (n + 3100) w' [(0, .ref 2000000), (1, .ref 0), (2, .ref 89), (3, .ref 100), (4, .ref 101), (5, .int (nI (4 * q)))] [] 2109)  : Wp X k n w [(0, .ref 2000000), (1, .ref 0), (2, .ref 89), (3, .ref 100), (4, .ref 101), (5, .int (nI (4 * q)))] [] 525 := by
  have J9 := J
  obtain ⟨hct, hmd, ⟨qo, hqo⟩, ⟨qd, hqd⟩, hOK⟩ := J
  have hI : SInv ((f, g, sl, op, lo), hd, rs, np, tp, av, lg, pl, tk) := hOK.2.2.1
  have hnp : np ≤ 4 := hI.2.2
  have h25 : f 25 = 0 := hI.1.2.1
  have hop : op = 0 ∨ op = 1 := hI.1.2.2.1
  have hpos : ∀ j, j < 25 → ¬ f j < 0 := hI.1.1.1
  have hlg : ¬ lg < 0 := hI.2.1
  have hea := hOK.2.2.2.2.2.2.2.2.1
  have hfa := hOK.2.2.2.2.2.2.2.2.2
  obtain ⟨fc0, hc0⟩ := hct.ob
  obtain ⟨fm0, hm0⟩ := hmd.ob
  refine r_aload_n hC dL_law_525 rfl (j := 1) rfl ?_
  
  refine r_callV hC (vs := []) vL_law_526 (sh_playerCount (d := d) hct) hc0 rfl rfl (by omega) (by omega) (by omega) (Nat.le_of_ble_eq_true rfl) (fun v_1 w_1 hP_1 hlen_1 => ?_) (fun _ _ h => h.elim)
  rw [hP_1.1, hP_1.2]
  show Wp X k n w [(0, .ref 2000000), (1, .ref 0), (2, .ref 89), (3, .ref 100), (4, .ref 101), (5, .int (nI (4 * q)))] [.int (nI np)] 529
  refine r_aload_n hC dL_law_529 rfl (j := 2) rfl ?_
  
  refine r_callV hC (vs := []) vL_law_530 (sm_playerCount (d := d) hmd) hm0 rfl rfl (by omega) (by omega) (by omega) (Nat.le_of_ble_eq_true rfl) (fun v_2 w_2 hP_2 hlen_2 => ?_) (fun _ _ h => h.elim)
  rw [hP_2.1]
  show Wp X k n w_2 [(0, .ref 2000000), (1, .ref 0), (2, .ref 89), (3, .ref 100), (4, .ref 101), (5, .int (nI (4 * q)))] [.int (nI np), .int (nI np)] 533
  refine r_icmp_eq hC dL_law_533 (tgt := 2109) (by decide) (fun _ => ?_) (fun h => absurd rfl h)
  exact Wp.wid (by omega) (by omega) (kk w_2 hlen_2 (J9.step hct (fun _ _ _ _ => rfl) ⟨qo, hqo⟩ ⟨qd, hqd⟩ hP_2.2 hOK))
set_option maxRecDepth 100000 in
set_option maxHeartbeats 4000000 in
theorem op_10 {X : mC} {d q mc ms k n : Nat} {w : mW} {N : Nat} {xs : Nat → Int32} {th : Int32} {f g : Nat → Int32} {sl op lo : Int32} {hd rs : Nat → Int32} {np : Nat} {tp av lg pl tk : Int32} {l : List sv} {ea fa : Int32} {so : Option sv} {txl lnl : List Nat} {tx : Nat → Int32} {tn : Nat} {lf : Nat → Int32} {ln : Nat} (hX : mScr X N xs) (J : JI w th ((f, g, sl, op, lo), hd, rs, np, tp, av, lg, pl, tk) l ea fa so txl lnl tx tn lf ln) (hC : Cx X RL cL_law (d + 12) mc ms) (hnl : mNL X = 9) (hq : 4 * q + 4 ≤ N) (hN : N ≤ 2048) (hk : k + 25 ≤ mc) (hn : n + 3100 ≤ ms) (kk : ∀ w', w'.length = w.length → JV w' → Wp X (k + 25) (n + 3100) w' [(0, .ref 2000000), (1, .ref 0), (2, .ref 89), (3, .ref 100), (4, .ref 101), (5, .int (nI (4 * q)))] [] 2109)  : Wp X k n w [(0, .ref 2000000), (1, .ref 0), (2, .ref 89), (3, .ref 100), (4, .ref 101), (5, .int (nI (4 * q)))] [] 747 := by
  have J9 := J
  obtain ⟨hct, hmd, ⟨qo, hqo⟩, ⟨qd, hqd⟩, hOK⟩ := J
  have hI : SInv ((f, g, sl, op, lo), hd, rs, np, tp, av, lg, pl, tk) := hOK.2.2.1
  have hnp : np ≤ 4 := hI.2.2
  have h25 : f 25 = 0 := hI.1.2.1
  have hop : op = 0 ∨ op = 1 := hI.1.2.2.1
  have hpos : ∀ j, j < 25 → ¬ f j < 0 := hI.1.1.1
  have hlg : ¬ lg < 0 := hI.2.1
  have hea := hOK.2.2.2.2.2.2.2.2.1
  have hfa := hOK.2.2.2.2.2.2.2.2.2
  obtain ⟨fc0, hc0⟩ := hct.ob
  obtain ⟨fm0, hm0⟩ := hmd.ob
  refine r_aload_n hC dL_law_747 rfl (j := 1) rfl ?_
  
  refine r_callV hC (vs := []) vL_law_748 (sh_criticalSlope (d := d) hct) hc0 rfl rfl (by omega) (by omega) (by omega) (Nat.le_of_ble_eq_true rfl) (fun v_1 w_1 hP_1 hlen_1 => ?_) (fun _ _ h => h.elim)
  rw [hP_1.1, hP_1.2]
  show Wp X k n w [(0, .ref 2000000), (1, .ref 0), (2, .ref 89), (3, .ref 100), (4, .ref 101), (5, .int (nI (4 * q)))] [.int sl] 751
  refine r_aload_n hC dL_law_751 rfl (j := 2) rfl ?_
  
  refine r_callV hC (vs := []) vL_law_752 (sm_criticalSlope (d := d) hmd) hm0 rfl rfl (by omega) (by omega) (by omega) (Nat.le_of_ble_eq_true rfl) (fun v_2 w_2 hP_2 hlen_2 => ?_) (fun _ _ h => h.elim)
  rw [hP_2.1]
  show Wp X k n w_2 [(0, .ref 2000000), (1, .ref 0), (2, .ref 89), (3, .ref 100), (4, .ref 101), (5, .int (nI (4 * q)))] [.int sl, .int sl] 755
  refine r_icmp_eq hC dL_law_755 (tgt := 2109) (by decide) (fun _ => ?_) (fun h => absurd rfl h)
  exact Wp.wid (by omega) (by omega) (kk w_2 hlen_2 (J9.step hct (fun _ _ _ _ => rfl) ⟨qo, hqo⟩ ⟨qd, hqd⟩ hP_2.2 hOK))
set_option maxRecDepth 100000 in
set_option maxHeartbeats 4000000 in
theorem op_28 {X : mC} {d q mc ms k n : Nat} {w : mW} {N : Nat} {xs : Nat → Int32} {th : Int32} {f g : Nat → Int32} {sl op lo : Int32} {hd rs : Nat → Int32} {np : Nat} {tp av lg pl tk : Int32} {l : List sv} {ea fa : Int32} {so : Option sv} {txl lnl : List Nat} {tx : Nat → Int32} {tn : Nat} {lf : Nat → Int32} {ln : Nat} (hX : mScr X N xs) (J : JI w th ((f, g, sl, op, lo), hd, rs, np, tp, av, lg, pl, tk) l ea fa so txl lnl tx tn lf ln) (hC : Cx X RL cL_law (d + 12) mc ms) (hnl : mNL X = 9) (hq : 4 * q + 4 ≤ N) (hN : N ≤ 2048) (hk : k + 25 ≤ mc) (hn : n + 3100 ≤ ms) (kk : ∀ w', w'.length = w.length → JV w' → Wp X (k + 25) (n + 3100) w' [(0, .ref 2000000), (1, .ref 0), (2, .ref 89), (3, .ref 100), (4, .ref 101), (5, .int (nI (4 * q)))] [] 2109)  : Wp X k n w [(0, .ref 2000000), (1, .ref 0), (2, .ref 89), (3, .ref 100), (4, .ref 101), (5, .int (nI (4 * q)))] [] 1550 := by
  have J9 := J
  obtain ⟨hct, hmd, ⟨qo, hqo⟩, ⟨qd, hqd⟩, hOK⟩ := J
  have hI : SInv ((f, g, sl, op, lo), hd, rs, np, tp, av, lg, pl, tk) := hOK.2.2.1
  have hnp : np ≤ 4 := hI.2.2
  have h25 : f 25 = 0 := hI.1.2.1
  have hop : op = 0 ∨ op = 1 := hI.1.2.2.1
  have hpos : ∀ j, j < 25 → ¬ f j < 0 := hI.1.1.1
  have hlg : ¬ lg < 0 := hI.2.1
  have hea := hOK.2.2.2.2.2.2.2.2.1
  have hfa := hOK.2.2.2.2.2.2.2.2.2
  obtain ⟨fc0, hc0⟩ := hct.ob
  obtain ⟨fm0, hm0⟩ := hmd.ob
  refine r_aload_n hC dL_law_1550 rfl (j := 1) rfl ?_
  
  refine r_callV hC (vs := []) vL_law_1551 (sh_toppleTotal (d := d) hct) hc0 rfl rfl (by omega) (by omega) (by omega) (Nat.le_of_ble_eq_true rfl) (fun v_1 w_1 hP_1 hlen_1 => ?_) (fun _ _ h => h.elim)
  rw [hP_1.1, hP_1.2]
  show Wp X k n w [(0, .ref 2000000), (1, .ref 0), (2, .ref 89), (3, .ref 100), (4, .ref 101), (5, .int (nI (4 * q)))] [.int tp] 1554
  refine r_aload_n hC dL_law_1554 rfl (j := 2) rfl ?_
  
  refine r_callV hC (vs := []) vL_law_1555 (sm_toppleTotal (d := d) hmd) hm0 rfl rfl (by omega) (by omega) (by omega) (Nat.le_of_ble_eq_true rfl) (fun v_2 w_2 hP_2 hlen_2 => ?_) (fun _ _ h => h.elim)
  rw [hP_2.1]
  show Wp X k n w_2 [(0, .ref 2000000), (1, .ref 0), (2, .ref 89), (3, .ref 100), (4, .ref 101), (5, .int (nI (4 * q)))] [.int tp, .int tp] 1558
  refine r_icmp_eq hC dL_law_1558 (tgt := 2109) (by decide) (fun _ => ?_) (fun h => absurd rfl h)
  exact Wp.wid (by omega) (by omega) (kk w_2 hlen_2 (J9.step hct (fun _ _ _ _ => rfl) ⟨qo, hqo⟩ ⟨qd, hqd⟩ hP_2.2 hOK))
set_option maxRecDepth 100000 in
set_option maxHeartbeats 4000000 in
theorem op_29 {X : mC} {d q mc ms k n : Nat} {w : mW} {N : Nat} {xs : Nat → Int32} {th : Int32} {f g : Nat → Int32} {sl op lo : Int32} {hd rs : Nat → Int32} {np : Nat} {tp av lg pl tk : Int32} {l : List sv} {ea fa : Int32} {so : Option sv} {txl lnl : List Nat} {tx : Nat → Int32} {tn : Nat} {lf : Nat → Int32} {ln : Nat} (hX : mScr X N xs) (J : JI w th ((f, g, sl, op, lo), hd, rs, np, tp, av, lg, pl, tk) l ea fa so txl lnl tx tn lf ln) (hC : Cx X RL cL_law (d + 12) mc ms) (hnl : mNL X = 9) (hq : 4 * q + 4 ≤ N) (hN : N ≤ 2048) (hk : k + 25 ≤ mc) (hn : n + 3100 ≤ ms) (kk : ∀ w', w'.length = w.length → JV w' → Wp X (k + 25) (n + 3100) w' [(0, .ref 2000000), (1, .ref 0), (2, .ref 89), (3, .ref 100), (4, .ref 101), (5, .int (nI (4 * q)))] [] 2109)  : Wp X k n w [(0, .ref 2000000), (1, .ref 0), (2, .ref 89), (3, .ref 100), (4, .ref 101), (5, .int (nI (4 * q)))] [] 1563 := by
  have J9 := J
  obtain ⟨hct, hmd, ⟨qo, hqo⟩, ⟨qd, hqd⟩, hOK⟩ := J
  have hI : SInv ((f, g, sl, op, lo), hd, rs, np, tp, av, lg, pl, tk) := hOK.2.2.1
  have hnp : np ≤ 4 := hI.2.2
  have h25 : f 25 = 0 := hI.1.2.1
  have hop : op = 0 ∨ op = 1 := hI.1.2.2.1
  have hpos : ∀ j, j < 25 → ¬ f j < 0 := hI.1.1.1
  have hlg : ¬ lg < 0 := hI.2.1
  have hea := hOK.2.2.2.2.2.2.2.2.1
  have hfa := hOK.2.2.2.2.2.2.2.2.2
  obtain ⟨fc0, hc0⟩ := hct.ob
  obtain ⟨fm0, hm0⟩ := hmd.ob
  refine r_aload_n hC dL_law_1563 rfl (j := 1) rfl ?_
  
  refine r_callV hC (vs := []) vL_law_1564 (sh_avalancheCount (d := d) hct) hc0 rfl rfl (by omega) (by omega) (by omega) (Nat.le_of_ble_eq_true rfl) (fun v_1 w_1 hP_1 hlen_1 => ?_) (fun _ _ h => h.elim)
  rw [hP_1.1, hP_1.2]
  show Wp X k n w [(0, .ref 2000000), (1, .ref 0), (2, .ref 89), (3, .ref 100), (4, .ref 101), (5, .int (nI (4 * q)))] [.int av] 1567
  refine r_aload_n hC dL_law_1567 rfl (j := 2) rfl ?_
  
  refine r_callV hC (vs := []) vL_law_1568 (sm_avalancheCount (d := d) hmd) hm0 rfl rfl (by omega) (by omega) (by omega) (Nat.le_of_ble_eq_true rfl) (fun v_2 w_2 hP_2 hlen_2 => ?_) (fun _ _ h => h.elim)
  rw [hP_2.1]
  show Wp X k n w_2 [(0, .ref 2000000), (1, .ref 0), (2, .ref 89), (3, .ref 100), (4, .ref 101), (5, .int (nI (4 * q)))] [.int av, .int av] 1571
  refine r_icmp_eq hC dL_law_1571 (tgt := 2109) (by decide) (fun _ => ?_) (fun h => absurd rfl h)
  exact Wp.wid (by omega) (by omega) (kk w_2 hlen_2 (J9.step hct (fun _ _ _ _ => rfl) ⟨qo, hqo⟩ ⟨qd, hqd⟩ hP_2.2 hOK))
set_option maxRecDepth 100000 in
set_option maxHeartbeats 4000000 in
theorem op_30 {X : mC} {d q mc ms k n : Nat} {w : mW} {N : Nat} {xs : Nat → Int32} {th : Int32} {f g : Nat → Int32} {sl op lo : Int32} {hd rs : Nat → Int32} {np : Nat} {tp av lg pl tk : Int32} {l : List sv} {ea fa : Int32} {so : Option sv} {txl lnl : List Nat} {tx : Nat → Int32} {tn : Nat} {lf : Nat → Int32} {ln : Nat} (hX : mScr X N xs) (J : JI w th ((f, g, sl, op, lo), hd, rs, np, tp, av, lg, pl, tk) l ea fa so txl lnl tx tn lf ln) (hC : Cx X RL cL_law (d + 12) mc ms) (hnl : mNL X = 9) (hq : 4 * q + 4 ≤ N) (hN : N ≤ 2048) (hk : k + 25 ≤ mc) (hn : n + 3100 ≤ ms) (kk : ∀ w', w'.length = w.length → JV w' → Wp X (k + 25) (n + 3100) w' [(0, .ref 2000000), (1, .ref 0), (2, .ref 89), (3, .ref 100), (4, .ref 101), (5, .int (nI (4 * q)))] [] 2109)  : Wp X k n w [(0, .ref 2000000), (1, .ref 0), (2, .ref 89), (3, .ref 100), (4, .ref 101), (5, .int (nI (4 * q)))] [] 1576 := by
  have J9 := J
  obtain ⟨hct, hmd, ⟨qo, hqo⟩, ⟨qd, hqd⟩, hOK⟩ := J
  have hI : SInv ((f, g, sl, op, lo), hd, rs, np, tp, av, lg, pl, tk) := hOK.2.2.1
  have hnp : np ≤ 4 := hI.2.2
  have h25 : f 25 = 0 := hI.1.2.1
  have hop : op = 0 ∨ op = 1 := hI.1.2.2.1
  have hpos : ∀ j, j < 25 → ¬ f j < 0 := hI.1.1.1
  have hlg : ¬ lg < 0 := hI.2.1
  have hea := hOK.2.2.2.2.2.2.2.2.1
  have hfa := hOK.2.2.2.2.2.2.2.2.2
  obtain ⟨fc0, hc0⟩ := hct.ob
  obtain ⟨fm0, hm0⟩ := hmd.ob
  refine r_aload_n hC dL_law_1576 rfl (j := 1) rfl ?_
  
  refine r_callV hC (vs := []) vL_law_1577 (sh_largestAvalanche (d := d) hct) hc0 rfl rfl (by omega) (by omega) (by omega) (Nat.le_of_ble_eq_true rfl) (fun v_1 w_1 hP_1 hlen_1 => ?_) (fun _ _ h => h.elim)
  rw [hP_1.1, hP_1.2]
  show Wp X k n w [(0, .ref 2000000), (1, .ref 0), (2, .ref 89), (3, .ref 100), (4, .ref 101), (5, .int (nI (4 * q)))] [.int lg] 1580
  refine r_aload_n hC dL_law_1580 rfl (j := 2) rfl ?_
  
  refine r_callV hC (vs := []) vL_law_1581 (sm_largestAvalanche (d := d) hmd) hm0 rfl rfl (by omega) (by omega) (by omega) (Nat.le_of_ble_eq_true rfl) (fun v_2 w_2 hP_2 hlen_2 => ?_) (fun _ _ h => h.elim)
  rw [hP_2.1]
  show Wp X k n w_2 [(0, .ref 2000000), (1, .ref 0), (2, .ref 89), (3, .ref 100), (4, .ref 101), (5, .int (nI (4 * q)))] [.int lg, .int lg] 1584
  refine r_icmp_eq hC dL_law_1584 (tgt := 2109) (by decide) (fun _ => ?_) (fun h => absurd rfl h)
  exact Wp.wid (by omega) (by omega) (kk w_2 hlen_2 (J9.step hct (fun _ _ _ _ => rfl) ⟨qo, hqo⟩ ⟨qd, hqd⟩ hP_2.2 hOK))
set_option maxRecDepth 100000 in
set_option maxHeartbeats 4000000 in
theorem op_31 {X : mC} {d q mc ms k n : Nat} {w : mW} {N : Nat} {xs : Nat → Int32} {th : Int32} {f g : Nat → Int32} {sl op lo : Int32} {hd rs : Nat → Int32} {np : Nat} {tp av lg pl tk : Int32} {l : List sv} {ea fa : Int32} {so : Option sv} {txl lnl : List Nat} {tx : Nat → Int32} {tn : Nat} {lf : Nat → Int32} {ln : Nat} (hX : mScr X N xs) (J : JI w th ((f, g, sl, op, lo), hd, rs, np, tp, av, lg, pl, tk) l ea fa so txl lnl tx tn lf ln) (hC : Cx X RL cL_law (d + 12) mc ms) (hnl : mNL X = 9) (hq : 4 * q + 4 ≤ N) (hN : N ≤ 2048) (hk : k + 25 ≤ mc) (hn : n + 3100 ≤ ms) (kk : ∀ w', w'.length = w.length → JV w' → Wp X (k + 25) (n + 3100) w' [(0, .ref 2000000), (1, .ref 0), (2, .ref 89), (3, .ref 100), (4, .ref 101), (5, .int (nI (4 * q)))] [] 2109)  : Wp X k n w [(0, .ref 2000000), (1, .ref 0), (2, .ref 89), (3, .ref 100), (4, .ref 101), (5, .int (nI (4 * q)))] [] 1589 := by
  have J9 := J
  obtain ⟨hct, hmd, ⟨qo, hqo⟩, ⟨qd, hqd⟩, hOK⟩ := J
  have hI : SInv ((f, g, sl, op, lo), hd, rs, np, tp, av, lg, pl, tk) := hOK.2.2.1
  have hnp : np ≤ 4 := hI.2.2
  have h25 : f 25 = 0 := hI.1.2.1
  have hop : op = 0 ∨ op = 1 := hI.1.2.2.1
  have hpos : ∀ j, j < 25 → ¬ f j < 0 := hI.1.1.1
  have hlg : ¬ lg < 0 := hI.2.1
  have hea := hOK.2.2.2.2.2.2.2.2.1
  have hfa := hOK.2.2.2.2.2.2.2.2.2
  obtain ⟨fc0, hc0⟩ := hct.ob
  obtain ⟨fm0, hm0⟩ := hmd.ob
  refine r_aload_n hC dL_law_1589 rfl (j := 1) rfl ?_
  
  refine r_callV hC (vs := []) vL_law_1590 (sh_placedTotal (d := d) hct) hc0 rfl rfl (by omega) (by omega) (by omega) (Nat.le_of_ble_eq_true rfl) (fun v_1 w_1 hP_1 hlen_1 => ?_) (fun _ _ h => h.elim)
  rw [hP_1.1, hP_1.2]
  show Wp X k n w [(0, .ref 2000000), (1, .ref 0), (2, .ref 89), (3, .ref 100), (4, .ref 101), (5, .int (nI (4 * q)))] [.int pl] 1593
  refine r_aload_n hC dL_law_1593 rfl (j := 2) rfl ?_
  
  refine r_callV hC (vs := []) vL_law_1594 (sm_placedTotal (d := d) hmd) hm0 rfl rfl (by omega) (by omega) (by omega) (Nat.le_of_ble_eq_true rfl) (fun v_2 w_2 hP_2 hlen_2 => ?_) (fun _ _ h => h.elim)
  rw [hP_2.1]
  show Wp X k n w_2 [(0, .ref 2000000), (1, .ref 0), (2, .ref 89), (3, .ref 100), (4, .ref 101), (5, .int (nI (4 * q)))] [.int pl, .int pl] 1597
  refine r_icmp_eq hC dL_law_1597 (tgt := 2109) (by decide) (fun _ => ?_) (fun h => absurd rfl h)
  exact Wp.wid (by omega) (by omega) (kk w_2 hlen_2 (J9.step hct (fun _ _ _ _ => rfl) ⟨qo, hqo⟩ ⟨qd, hqd⟩ hP_2.2 hOK))
set_option maxRecDepth 100000 in
set_option maxHeartbeats 4000000 in
theorem op_32 {X : mC} {d q mc ms k n : Nat} {w : mW} {N : Nat} {xs : Nat → Int32} {th : Int32} {f g : Nat → Int32} {sl op lo : Int32} {hd rs : Nat → Int32} {np : Nat} {tp av lg pl tk : Int32} {l : List sv} {ea fa : Int32} {so : Option sv} {txl lnl : List Nat} {tx : Nat → Int32} {tn : Nat} {lf : Nat → Int32} {ln : Nat} (hX : mScr X N xs) (J : JI w th ((f, g, sl, op, lo), hd, rs, np, tp, av, lg, pl, tk) l ea fa so txl lnl tx tn lf ln) (hC : Cx X RL cL_law (d + 12) mc ms) (hnl : mNL X = 9) (hq : 4 * q + 4 ≤ N) (hN : N ≤ 2048) (hk : k + 25 ≤ mc) (hn : n + 3100 ≤ ms) (kk : ∀ w', w'.length = w.length → JV w' → Wp X (k + 25) (n + 3100) w' [(0, .ref 2000000), (1, .ref 0), (2, .ref 89), (3, .ref 100), (4, .ref 101), (5, .int (nI (4 * q)))] [] 2109)  : Wp X k n w [(0, .ref 2000000), (1, .ref 0), (2, .ref 89), (3, .ref 100), (4, .ref 101), (5, .int (nI (4 * q)))] [] 1602 := by
  have J9 := J
  obtain ⟨hct, hmd, ⟨qo, hqo⟩, ⟨qd, hqd⟩, hOK⟩ := J
  have hI : SInv ((f, g, sl, op, lo), hd, rs, np, tp, av, lg, pl, tk) := hOK.2.2.1
  have hnp : np ≤ 4 := hI.2.2
  have h25 : f 25 = 0 := hI.1.2.1
  have hop : op = 0 ∨ op = 1 := hI.1.2.2.1
  have hpos : ∀ j, j < 25 → ¬ f j < 0 := hI.1.1.1
  have hlg : ¬ lg < 0 := hI.2.1
  have hea := hOK.2.2.2.2.2.2.2.2.1
  have hfa := hOK.2.2.2.2.2.2.2.2.2
  obtain ⟨fc0, hc0⟩ := hct.ob
  obtain ⟨fm0, hm0⟩ := hmd.ob
  refine r_aload_n hC dL_law_1602 rfl (j := 1) rfl ?_
  
  refine r_callV hC (vs := []) vL_law_1603 (sh_lostTotal (d := d) hct) hc0 rfl rfl (by omega) (by omega) (by omega) (Nat.le_of_ble_eq_true rfl) (fun v_1 w_1 hP_1 hlen_1 => ?_) (fun _ _ h => h.elim)
  rw [hP_1.1, hP_1.2]
  show Wp X k n w [(0, .ref 2000000), (1, .ref 0), (2, .ref 89), (3, .ref 100), (4, .ref 101), (5, .int (nI (4 * q)))] [.int lo] 1606
  refine r_aload_n hC dL_law_1606 rfl (j := 2) rfl ?_
  
  refine r_callV hC (vs := []) vL_law_1607 (sm_lostTotal (d := d) hmd) hm0 rfl rfl (by omega) (by omega) (by omega) (Nat.le_of_ble_eq_true rfl) (fun v_2 w_2 hP_2 hlen_2 => ?_) (fun _ _ h => h.elim)
  rw [hP_2.1]
  show Wp X k n w_2 [(0, .ref 2000000), (1, .ref 0), (2, .ref 89), (3, .ref 100), (4, .ref 101), (5, .int (nI (4 * q)))] [.int lo, .int lo] 1610
  refine r_icmp_eq hC dL_law_1610 (tgt := 2109) (by decide) (fun _ => ?_) (fun h => absurd rfl h)
  exact Wp.wid (by omega) (by omega) (kk w_2 hlen_2 (J9.step hct (fun _ _ _ _ => rfl) ⟨qo, hqo⟩ ⟨qd, hqd⟩ hP_2.2 hOK))
set_option maxRecDepth 100000 in
set_option maxHeartbeats 4000000 in
theorem op_33 {X : mC} {d q mc ms k n : Nat} {w : mW} {N : Nat} {xs : Nat → Int32} {th : Int32} {f g : Nat → Int32} {sl op lo : Int32} {hd rs : Nat → Int32} {np : Nat} {tp av lg pl tk : Int32} {l : List sv} {ea fa : Int32} {so : Option sv} {txl lnl : List Nat} {tx : Nat → Int32} {tn : Nat} {lf : Nat → Int32} {ln : Nat} (hX : mScr X N xs) (J : JI w th ((f, g, sl, op, lo), hd, rs, np, tp, av, lg, pl, tk) l ea fa so txl lnl tx tn lf ln) (hC : Cx X RL cL_law (d + 12) mc ms) (hnl : mNL X = 9) (hq : 4 * q + 4 ≤ N) (hN : N ≤ 2048) (hk : k + 25 ≤ mc) (hn : n + 3100 ≤ ms) (kk : ∀ w', w'.length = w.length → JV w' → Wp X (k + 25) (n + 3100) w' [(0, .ref 2000000), (1, .ref 0), (2, .ref 89), (3, .ref 100), (4, .ref 101), (5, .int (nI (4 * q)))] [] 2109)  : Wp X k n w [(0, .ref 2000000), (1, .ref 0), (2, .ref 89), (3, .ref 100), (4, .ref 101), (5, .int (nI (4 * q)))] [] 1615 := by
  have J9 := J
  obtain ⟨hct, hmd, ⟨qo, hqo⟩, ⟨qd, hqd⟩, hOK⟩ := J
  have hI : SInv ((f, g, sl, op, lo), hd, rs, np, tp, av, lg, pl, tk) := hOK.2.2.1
  have hnp : np ≤ 4 := hI.2.2
  have h25 : f 25 = 0 := hI.1.2.1
  have hop : op = 0 ∨ op = 1 := hI.1.2.2.1
  have hpos : ∀ j, j < 25 → ¬ f j < 0 := hI.1.1.1
  have hlg : ¬ lg < 0 := hI.2.1
  have hea := hOK.2.2.2.2.2.2.2.2.1
  have hfa := hOK.2.2.2.2.2.2.2.2.2
  obtain ⟨fc0, hc0⟩ := hct.ob
  obtain ⟨fm0, hm0⟩ := hmd.ob
  refine r_aload_n hC dL_law_1615 rfl (j := 1) rfl ?_
  
  refine r_callV hC (vs := []) vL_law_1616 (sh_takenTotal (d := d) hct) hc0 rfl rfl (by omega) (by omega) (by omega) (Nat.le_of_ble_eq_true rfl) (fun v_1 w_1 hP_1 hlen_1 => ?_) (fun _ _ h => h.elim)
  rw [hP_1.1, hP_1.2]
  show Wp X k n w [(0, .ref 2000000), (1, .ref 0), (2, .ref 89), (3, .ref 100), (4, .ref 101), (5, .int (nI (4 * q)))] [.int tk] 1619
  refine r_aload_n hC dL_law_1619 rfl (j := 2) rfl ?_
  
  refine r_callV hC (vs := []) vL_law_1620 (sm_takenTotal (d := d) hmd) hm0 rfl rfl (by omega) (by omega) (by omega) (Nat.le_of_ble_eq_true rfl) (fun v_2 w_2 hP_2 hlen_2 => ?_) (fun _ _ h => h.elim)
  rw [hP_2.1]
  show Wp X k n w_2 [(0, .ref 2000000), (1, .ref 0), (2, .ref 89), (3, .ref 100), (4, .ref 101), (5, .int (nI (4 * q)))] [.int tk, .int tk] 1623
  refine r_icmp_eq hC dL_law_1623 (tgt := 2109) (by decide) (fun _ => ?_) (fun h => absurd rfl h)
  exact Wp.wid (by omega) (by omega) (kk w_2 hlen_2 (J9.step hct (fun _ _ _ _ => rfl) ⟨qo, hqo⟩ ⟨qd, hqd⟩ hP_2.2 hOK))
set_option maxRecDepth 100000 in
set_option maxHeartbeats 4000000 in
theorem op_16 {X : mC} {d q mc ms k n : Nat} {w : mW} {N : Nat} {xs : Nat → Int32} {th : Int32} {f g : Nat → Int32} {sl op lo : Int32} {hd rs : Nat → Int32} {np : Nat} {tp av lg pl tk : Int32} {l : List sv} {ea fa : Int32} {so : Option sv} {txl lnl : List Nat} {tx : Nat → Int32} {tn : Nat} {lf : Nat → Int32} {ln : Nat} (hX : mScr X N xs) (J : JI w th ((f, g, sl, op, lo), hd, rs, np, tp, av, lg, pl, tk) l ea fa so txl lnl tx tn lf ln) (hC : Cx X RL cL_law (d + 12) mc ms) (hnl : mNL X = 9) (hq : 4 * q + 4 ≤ N) (hN : N ≤ 2048) (hk : k + 25 ≤ mc) (hn : n + 3100 ≤ ms) (kk : ∀ w', w'.length = w.length → JV w' → Wp X (k + 25) (n + 3100) w' [(0, .ref 2000000), (1, .ref 0), (2, .ref 89), (3, .ref 100), (4, .ref 101), (5, .int (nI (4 * q)))] [] 2109)  : Wp X k n w [(0, .ref 2000000), (1, .ref 0), (2, .ref 89), (3, .ref 100), (4, .ref 101), (5, .int (nI (4 * q)))] [] 997 := by
  have J9 := J
  obtain ⟨hct, hmd, ⟨qo, hqo⟩, ⟨qd, hqd⟩, hOK⟩ := J
  have hI : SInv ((f, g, sl, op, lo), hd, rs, np, tp, av, lg, pl, tk) := hOK.2.2.1
  have hnp : np ≤ 4 := hI.2.2
  have h25 : f 25 = 0 := hI.1.2.1
  have hop : op = 0 ∨ op = 1 := hI.1.2.2.1
  have hpos : ∀ j, j < 25 → ¬ f j < 0 := hI.1.1.1
  have hlg : ¬ lg < 0 := hI.2.1
  have hea := hOK.2.2.2.2.2.2.2.2.1
  have hfa := hOK.2.2.2.2.2.2.2.2.2
  obtain ⟨fc0, hc0⟩ := hct.ob
  obtain ⟨fm0, hm0⟩ := hmd.ob
  refine r_aload_n hC dL_law_997 rfl (j := 1) rfl ?_
  
  refine r_callV hC (vs := []) vL_law_998 (sh_stonesOnHill (d := d) hct) hc0 rfl rfl (by omega) (by omega) (by omega) (Nat.le_of_ble_eq_true rfl) (fun v_1 w_1 hP_1 hlen_1 => ?_) (fun _ _ h => h.elim)
  rw [hP_1.1, hP_1.2]
  show Wp X k n w [(0, .ref 2000000), (1, .ref 0), (2, .ref 89), (3, .ref 100), (4, .ref 101), (5, .int (nI (4 * q)))] [.int (hSum f 25)] 1001
  refine r_aload_n hC dL_law_1001 rfl (j := 2) rfl ?_
  
  refine r_callV hC (vs := []) vL_law_1002 (sm_stonesOnHill (d := d) hmd) hm0 rfl rfl (by omega) (by omega) (by omega) (Nat.le_of_ble_eq_true rfl) (fun v_2 w_2 hP_2 hlen_2 => ?_) (fun _ _ h => h.elim)
  rw [hP_2.1]
  show Wp X k n w_2 [(0, .ref 2000000), (1, .ref 0), (2, .ref 89), (3, .ref 100), (4, .ref 101), (5, .int (nI (4 * q)))] [.int (hSum f 25), .int (hSum f 25)] 1005
  refine r_icmp_eq hC dL_law_1005 (tgt := 2109) (by decide) (fun _ => ?_) (fun h => absurd rfl h)
  exact Wp.wid (by omega) (by omega) (kk w_2 hlen_2 (J9.step hct (fun _ _ _ _ => rfl) ⟨qo, hqo⟩ ⟨qd, hqd⟩ hP_2.2 hOK))
set_option maxRecDepth 100000 in
set_option maxHeartbeats 4000000 in
theorem op_22 {X : mC} {d q mc ms k n : Nat} {w : mW} {N : Nat} {xs : Nat → Int32} {th : Int32} {f g : Nat → Int32} {sl op lo : Int32} {hd rs : Nat → Int32} {np : Nat} {tp av lg pl tk : Int32} {l : List sv} {ea fa : Int32} {so : Option sv} {txl lnl : List Nat} {tx : Nat → Int32} {tn : Nat} {lf : Nat → Int32} {ln : Nat} (hX : mScr X N xs) (J : JI w th ((f, g, sl, op, lo), hd, rs, np, tp, av, lg, pl, tk) l ea fa so txl lnl tx tn lf ln) (hC : Cx X RL cL_law (d + 12) mc ms) (hnl : mNL X = 9) (hq : 4 * q + 4 ≤ N) (hN : N ≤ 2048) (hk : k + 25 ≤ mc) (hn : n + 3100 ≤ ms) (kk : ∀ w', w'.length = w.length → JV w' → Wp X (k + 25) (n + 3100) w' [(0, .ref 2000000), (1, .ref 0), (2, .ref 89), (3, .ref 100), (4, .ref 101), (5, .int (nI (4 * q)))] [] 2109)  : Wp X k n w [(0, .ref 2000000), (1, .ref 0), (2, .ref 89), (3, .ref 100), (4, .ref 101), (5, .int (nI (4 * q)))] [] 1235 := by
  have J9 := J
  obtain ⟨hct, hmd, ⟨qo, hqo⟩, ⟨qd, hqd⟩, hOK⟩ := J
  have hI : SInv ((f, g, sl, op, lo), hd, rs, np, tp, av, lg, pl, tk) := hOK.2.2.1
  have hnp : np ≤ 4 := hI.2.2
  have h25 : f 25 = 0 := hI.1.2.1
  have hop : op = 0 ∨ op = 1 := hI.1.2.2.1
  have hpos : ∀ j, j < 25 → ¬ f j < 0 := hI.1.1.1
  have hlg : ¬ lg < 0 := hI.2.1
  have hea := hOK.2.2.2.2.2.2.2.2.1
  have hfa := hOK.2.2.2.2.2.2.2.2.2
  obtain ⟨fc0, hc0⟩ := hct.ob
  obtain ⟨fm0, hm0⟩ := hmd.ob
  refine r_aload_n hC dL_law_1235 rfl (j := 1) rfl ?_
  
  refine r_callV hC (vs := []) vL_law_1236 (sh_peakCount (d := d) hct) hc0 rfl rfl (by omega) (by omega) (by omega) (Nat.le_of_ble_eq_true rfl) (fun v_1 w_1 hP_1 hlen_1 => ?_) (fun _ _ h => h.elim)
  rw [hP_1.1, hP_1.2]
  show Wp X k n w [(0, .ref 2000000), (1, .ref 0), (2, .ref 89), (3, .ref 100), (4, .ref 101), (5, .int (nI (4 * q)))] [.int (hCnt (hPeak f) 25)] 1239
  refine r_aload_n hC dL_law_1239 rfl (j := 2) rfl ?_
  
  refine r_callV hC (vs := []) vL_law_1240 (sm_peakCount (d := d) hmd h25 hpos) hm0 rfl rfl (by omega) (by omega) (by omega) (Nat.le_of_ble_eq_true rfl) (fun v_2 w_2 hP_2 hlen_2 => ?_) (fun _ _ h => h.elim)
  rw [hP_2.1]
  show Wp X k n w_2 [(0, .ref 2000000), (1, .ref 0), (2, .ref 89), (3, .ref 100), (4, .ref 101), (5, .int (nI (4 * q)))] [.int (hCnt (hPeak f) 25), .int (hCnt (hPeak f) 25)] 1243
  refine r_icmp_eq hC dL_law_1243 (tgt := 2109) (by decide) (fun _ => ?_) (fun h => absurd rfl h)
  exact Wp.wid (by omega) (by omega) (kk w_2 hlen_2 (J9.step hct (fun _ _ _ _ => rfl) ⟨qo, hqo⟩ ⟨qd, hqd⟩ hP_2.2 hOK))
set_option maxRecDepth 100000 in
set_option maxHeartbeats 4000000 in
theorem op_11 {X : mC} {d q mc ms k n : Nat} {w : mW} {N : Nat} {xs : Nat → Int32} {th : Int32} {f g : Nat → Int32} {sl op lo : Int32} {hd rs : Nat → Int32} {np : Nat} {tp av lg pl tk : Int32} {l : List sv} {ea fa : Int32} {so : Option sv} {txl lnl : List Nat} {tx : Nat → Int32} {tn : Nat} {lf : Nat → Int32} {ln : Nat} (hX : mScr X N xs) (J : JI w th ((f, g, sl, op, lo), hd, rs, np, tp, av, lg, pl, tk) l ea fa so txl lnl tx tn lf ln) (hC : Cx X RL cL_law (d + 12) mc ms) (hnl : mNL X = 9) (hq : 4 * q + 4 ≤ N) (hN : N ≤ 2048) (hk : k + 25 ≤ mc) (hn : n + 3100 ≤ ms) (kk : ∀ w', w'.length = w.length → JV w' → Wp X (k + 25) (n + 3100) w' [(0, .ref 2000000), (1, .ref 0), (2, .ref 89), (3, .ref 100), (4, .ref 101), (5, .int (nI (4 * q)))] [] 2109)  : Wp X k n w [(0, .ref 2000000), (1, .ref 0), (2, .ref 89), (3, .ref 100), (4, .ref 101), (5, .int (nI (4 * q)))] [] 760 := by
  have J9 := J
  obtain ⟨hct, hmd, ⟨qo, hqo⟩, ⟨qd, hqd⟩, hOK⟩ := J
  have hI : SInv ((f, g, sl, op, lo), hd, rs, np, tp, av, lg, pl, tk) := hOK.2.2.1
  have hnp : np ≤ 4 := hI.2.2
  have h25 : f 25 = 0 := hI.1.2.1
  have hop : op = 0 ∨ op = 1 := hI.1.2.2.1
  have hpos : ∀ j, j < 25 → ¬ f j < 0 := hI.1.1.1
  have hlg : ¬ lg < 0 := hI.2.1
  have hea := hOK.2.2.2.2.2.2.2.2.1
  have hfa := hOK.2.2.2.2.2.2.2.2.2
  obtain ⟨fc0, hc0⟩ := hct.ob
  obtain ⟨fm0, hm0⟩ := hmd.ob
  refine r_aload_n hC dL_law_760 rfl (j := 1) rfl ?_
  
  refine r_callV hC (vs := []) vL_law_761 (sh_isBorderOpen (d := d) hct hop) hc0 rfl rfl (by omega) (by omega) (by omega) (Nat.le_of_ble_eq_true rfl) (fun v_1 w_1 hP_1 hlen_1 => ?_) (fun _ _ h => h.elim)
  rw [hP_1.1, hP_1.2]
  show Wp X k n w [(0, .ref 2000000), (1, .ref 0), (2, .ref 89), (3, .ref 100), (4, .ref 101), (5, .int (nI (4 * q)))] [.int op] 764
  refine r_aload_n hC dL_law_764 rfl (j := 2) rfl ?_
  
  refine r_callV hC (vs := []) vL_law_765 (sm_isBorderOpen (d := d) hmd hop) hm0 rfl rfl (by omega) (by omega) (by omega) (Nat.le_of_ble_eq_true rfl) (fun v_2 w_2 hP_2 hlen_2 => ?_) (fun _ _ h => h.elim)
  rw [hP_2.1]
  show Wp X k n w_2 [(0, .ref 2000000), (1, .ref 0), (2, .ref 89), (3, .ref 100), (4, .ref 101), (5, .int (nI (4 * q)))] [.int op, .int op] 768
  refine r_icmp_eq hC dL_law_768 (tgt := 2109) (by decide) (fun _ => ?_) (fun h => absurd rfl h)
  exact Wp.wid (by omega) (by omega) (kk w_2 hlen_2 (J9.step hct (fun _ _ _ _ => rfl) ⟨qo, hqo⟩ ⟨qd, hqd⟩ hP_2.2 hOK))
set_option maxRecDepth 100000 in
set_option maxHeartbeats 4000000 in
theorem op_17 {X : mC} {d q mc ms k n : Nat} {w : mW} {N : Nat} {xs : Nat → Int32} {th : Int32} {f g : Nat → Int32} {sl op lo : Int32} {hd rs : Nat → Int32} {np : Nat} {tp av lg pl tk : Int32} {l : List sv} {ea fa : Int32} {so : Option sv} {txl lnl : List Nat} {tx : Nat → Int32} {tn : Nat} {lf : Nat → Int32} {ln : Nat} (hX : mScr X N xs) (J : JI w th ((f, g, sl, op, lo), hd, rs, np, tp, av, lg, pl, tk) l ea fa so txl lnl tx tn lf ln) (hC : Cx X RL cL_law (d + 12) mc ms) (hnl : mNL X = 9) (hq : 4 * q + 4 ≤ N) (hN : N ≤ 2048) (hk : k + 25 ≤ mc) (hn : n + 3100 ≤ ms) (kk : ∀ w', w'.length = w.length → JV w' → Wp X (k + 25) (n + 3100) w' [(0, .ref 2000000), (1, .ref 0), (2, .ref 89), (3, .ref 100), (4, .ref 101), (5, .int (nI (4 * q)))] [] 2109)  : Wp X k n w [(0, .ref 2000000), (1, .ref 0), (2, .ref 89), (3, .ref 100), (4, .ref 101), (5, .int (nI (4 * q)))] [] 1010 := by
  have J9 := J
  obtain ⟨hct, hmd, ⟨qo, hqo⟩, ⟨qd, hqd⟩, hOK⟩ := J
  have hI : SInv ((f, g, sl, op, lo), hd, rs, np, tp, av, lg, pl, tk) := hOK.2.2.1
  have hnp : np ≤ 4 := hI.2.2
  have h25 : f 25 = 0 := hI.1.2.1
  have hop : op = 0 ∨ op = 1 := hI.1.2.2.1
  have hpos : ∀ j, j < 25 → ¬ f j < 0 := hI.1.1.1
  have hlg : ¬ lg < 0 := hI.2.1
  have hea := hOK.2.2.2.2.2.2.2.2.1
  have hfa := hOK.2.2.2.2.2.2.2.2.2
  obtain ⟨fc0, hc0⟩ := hct.ob
  obtain ⟨fm0, hm0⟩ := hmd.ob
  refine r_aload_n hC dL_law_1010 rfl (j := 1) rfl ?_
  
  refine r_callV hC (vs := []) vL_law_1011 (sh_stonesByLevels (d := d) hct hpos (LnOK.of hI).2.1) hc0 rfl rfl (by omega) (by omega) (by omega) (Nat.le_of_ble_eq_true rfl) (fun v_1 w_1 hP_1 hlen_1 => ?_) (fun _ _ h => h.elim)
  rw [hP_1.1, hP_1.2]
  show Wp X k n w [(0, .ref 2000000), (1, .ref 0), (2, .ref 89), (3, .ref 100), (4, .ref 101), (5, .int (nI (4 * q)))] [.int (hSum f 25)] 1014
  refine r_aload_n hC dL_law_1014 rfl (j := 2) rfl ?_
  
  refine r_callV hC (vs := []) vL_law_1015 (sm_stonesByLevels (d := d) hmd) hm0 rfl rfl (by omega) (by omega) (by omega) (Nat.le_of_ble_eq_true rfl) (fun v_2 w_2 hP_2 hlen_2 => ?_) (fun _ _ h => h.elim)
  rw [hP_2.1]
  show Wp X k n w_2 [(0, .ref 2000000), (1, .ref 0), (2, .ref 89), (3, .ref 100), (4, .ref 101), (5, .int (nI (4 * q)))] [.int (hSum f 25), .int (hSum f 25)] 1018
  refine r_icmp_eq hC dL_law_1018 (tgt := 2109) (by decide) (fun _ => ?_) (fun h => absurd rfl h)
  exact Wp.wid (by omega) (by omega) (kk w_2 hlen_2 (J9.step hct (fun _ _ _ _ => rfl) ⟨qo, hqo⟩ ⟨qd, hqd⟩ hP_2.2 hOK))
set_option maxRecDepth 100000 in
set_option maxHeartbeats 4000000 in
theorem op_18 {X : mC} {d q mc ms k n : Nat} {w : mW} {N : Nat} {xs : Nat → Int32} {th : Int32} {f g : Nat → Int32} {sl op lo : Int32} {hd rs : Nat → Int32} {np : Nat} {tp av lg pl tk : Int32} {l : List sv} {ea fa : Int32} {so : Option sv} {txl lnl : List Nat} {tx : Nat → Int32} {tn : Nat} {lf : Nat → Int32} {ln : Nat} (hX : mScr X N xs) (J : JI w th ((f, g, sl, op, lo), hd, rs, np, tp, av, lg, pl, tk) l ea fa so txl lnl tx tn lf ln) (hC : Cx X RL cL_law (d + 12) mc ms) (hnl : mNL X = 9) (hq : 4 * q + 4 ≤ N) (hN : N ≤ 2048) (hk : k + 25 ≤ mc) (hn : n + 3100 ≤ ms) (kk : ∀ w', w'.length = w.length → JV w' → Wp X (k + 25) (n + 3100) w' [(0, .ref 2000000), (1, .ref 0), (2, .ref 89), (3, .ref 100), (4, .ref 101), (5, .int (nI (4 * q)))] [] 2109)  : Wp X k n w [(0, .ref 2000000), (1, .ref 0), (2, .ref 89), (3, .ref 100), (4, .ref 101), (5, .int (nI (4 * q)))] [] 1023 := by
  have J9 := J
  obtain ⟨hct, hmd, ⟨qo, hqo⟩, ⟨qd, hqd⟩, hOK⟩ := J
  have hI : SInv ((f, g, sl, op, lo), hd, rs, np, tp, av, lg, pl, tk) := hOK.2.2.1
  have hnp : np ≤ 4 := hI.2.2
  have h25 : f 25 = 0 := hI.1.2.1
  have hop : op = 0 ∨ op = 1 := hI.1.2.2.1
  have hpos : ∀ j, j < 25 → ¬ f j < 0 := hI.1.1.1
  have hlg : ¬ lg < 0 := hI.2.1
  have hea := hOK.2.2.2.2.2.2.2.2.1
  have hfa := hOK.2.2.2.2.2.2.2.2.2
  obtain ⟨fc0, hc0⟩ := hct.ob
  obtain ⟨fm0, hm0⟩ := hmd.ob
  refine r_aload_n hC dL_law_1023 rfl (j := 1) rfl ?_
  
  refine r_callV hC (vs := []) vL_law_1024 (sh_highestCell (d := d) hct) hc0 rfl rfl (by omega) (by omega) (by omega) (Nat.le_of_ble_eq_true rfl) (fun v_1 w_1 hP_1 hlen_1 => ?_) (fun _ _ h => h.elim)
  rw [hP_1.1, hP_1.2]
  show Wp X k n w [(0, .ref 2000000), (1, .ref 0), (2, .ref 89), (3, .ref 100), (4, .ref 101), (5, .int (nI (4 * q)))] [.int (nI (hMax f 25))] 1027
  refine r_aload_n hC dL_law_1027 rfl (j := 2) rfl ?_
  
  refine r_callV hC (vs := []) vL_law_1028 (sm_highestCell (d := d) hmd) hm0 rfl rfl (by omega) (by omega) (by omega) (Nat.le_of_ble_eq_true rfl) (fun v_2 w_2 hP_2 hlen_2 => ?_) (fun _ _ h => h.elim)
  rw [hP_2.1]
  show Wp X k n w_2 [(0, .ref 2000000), (1, .ref 0), (2, .ref 89), (3, .ref 100), (4, .ref 101), (5, .int (nI (4 * q)))] [.int (nI (hMax f 25)), .int (nI (hMax f 25))] 1031
  refine r_icmp_eq hC dL_law_1031 (tgt := 2109) (by decide) (fun _ => ?_) (fun h => absurd rfl h)
  exact Wp.wid (by omega) (by omega) (kk w_2 hlen_2 (J9.step hct (fun _ _ _ _ => rfl) ⟨qo, hqo⟩ ⟨qd, hqd⟩ hP_2.2 hOK))
end LP4
