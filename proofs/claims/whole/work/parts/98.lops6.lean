section LP6
set_option maxRecDepth 100000 in
set_option maxHeartbeats 4000000 in
theorem op_42a {X : mC} {d q mc ms k n : Nat} {w : mW} {N : Nat} {xs : Nat → Int32} {th : Int32} {f g : Nat → Int32} {sl op lo : Int32} {hd rs : Nat → Int32} {np : Nat} {tp av lg pl tk : Int32} {l : List sv} {ea fa : Int32} {so : Option sv} {txl lnl : List Nat} {tx : Nat → Int32} {tn : Nat} {lf : Nat → Int32} {ln : Nat} (hX : mScr X N xs) (J : JI w th ((f, g, sl, op, lo), hd, rs, np, tp, av, lg, pl, tk) l ea fa so txl lnl tx tn lf ln) (hC : Cx X RL cL_law (d + 12) mc ms) (hnl : mNL X = 9) (hq : 4 * q + 4 ≤ N) (hN : N ≤ 2048) (hk : k + 25 ≤ mc) (hn : n + 3100 ≤ ms) (kk : ∀ w', w'.length = w.length → JV w' → Wp X (k + 25) (n + 3100) w' [(0, .ref 2000000), (1, .ref 0), (2, .ref 89), (3, .ref 100), (4, .ref 101), (5, .int (nI (4 * q)))] [] 2109) (hl9 : l = []) : Wp X k n w [(0, .ref 2000000), (1, .ref 0), (2, .ref 89), (3, .ref 100), (4, .ref 101), (5, .int (nI (4 * q)))] [] 2008 := by
  have J9 := J
  obtain ⟨hct, hmd, ⟨qo, hqo⟩, ⟨qd, hqd⟩, hOK⟩ := J
  have hI : SInv ((f, g, sl, op, lo), hd, rs, np, tp, av, lg, pl, tk) := hOK.2.2.1
  have hnp : np ≤ 4 := hI.2.2
  have h25 : f 25 = 0 := hI.1.2.1
  have hop : op = 0 ∨ op = 1 := hI.1.2.2.1
  have hpos : ∀ j, j < 25 → ¬ f j < 0 := hI.1.1.1
  have hlg : ¬ lg < 0 := hI.2.1
  have hea := hOK.2.2.2.2.2.2.2.2.1
  have hfa := hOK.2.2.2.2.2.2.2.2.2
  obtain ⟨fc0, hc0⟩ := hct.ob
  obtain ⟨fm0, hm0⟩ := hmd.ob
  refine r_aload_n hC dL_law_2008 rfl (j := 1) rfl ?_
  refine r_aload_n hC dL_law_2009 rfl (j := 3) rfl ?_
  
  refine r_callH hC (vs := [.ref 0, .ref 100]) wL_law_2010 (lw_undo0 (d := d) hct hqo (Or.inr (by decide)) hl9) rfl (by omega) (by omega) (by omega) (Nat.le_of_ble_eq_true rfl) (fun v_1 w_1 hP_1 hlen_1 => ?_)
  obtain ⟨hv_1, Lw⟩ := hP_1
  · have f1 : ∀ z, (z < 0 ∨ 0 + 88 < z) → z ≠ 100 → w_1[z]? = w[z]? := Lw.2.2
    have hm1 := hmd.frame (fun z _ _ => f1 z (by omega) (by omega))
    obtain ⟨fs1, hb1⟩ := hm1.ob
    obtain ⟨q1, hq1⟩ := Lw.2.1
    rw [hv_1]
    show Wp X (k + 1) (n + 6) w_1 [(0, .ref 2000000), (1, .ref 0), (2, .ref 89), (3, .ref 100), (4, .ref 101), (5, .int (nI (4 * q)))] [.int 1] 2013
    refine r_istore hC dL_law_2013 (by rw [hnl]; decide) (L' := [(6, .int 1), (0, .ref 2000000), (1, .ref 0), (2, .ref 89), (3, .ref 100), (4, .ref 101), (5, .int (nI (4 * q)))]) rfl ?_
    refine r_aload_n hC dL_law_2015 rfl (j := 3) rfl ?_
    
    refine r_callV hC (vs := []) vL_law_2016 (sm_undo0 (d := d) hm1 hl9) hb1 rfl rfl (by omega) (by omega) (by omega) (Nat.le_of_ble_eq_true rfl) (fun v_2 w_2 hP_2 hlen_2 => ?_) (fun _ _ h => h.elim)
    obtain ⟨hv_2, T_2⟩ := hP_2
    · have hqo2 := (T_2.2.2 100 (by omega)).trans hq1
      obtain ⟨fs2, hb2⟩ := T_2.1.ob
      rw [hv_2]
      show Wp X (k + 1) (n + 6) w_2 [(6, .int 1), (0, .ref 2000000), (1, .ref 0), (2, .ref 89), (3, .ref 100), (4, .ref 101), (5, .int (nI (4 * q)))] [.int 0] 2019
      refine r_istore hC dL_law_2019 (by rw [hnl]; decide) (L' := [(7, .int 0), (6, .int 1), (0, .ref 2000000), (1, .ref 0), (2, .ref 89), (3, .ref 100), (4, .ref 101), (5, .int (nI (4 * q)))]) rfl ?_
      refine r_aload_n hC dL_law_2021 rfl (j := 4) rfl ?_
      refine r_callV hC (vs := []) vL_law_2022 (sm_thrown (d := d) T_2.1) hb2 rfl rfl (by omega) (by omega) (by omega) (Nat.le_of_ble_eq_true rfl) (fun v_11 w_11 hP_11 hlen_11 => ?_) (fun _ _ h => h.elim)
      rw [hP_11.1, hP_11.2]
      show Wp X (k + 1) (n + 6) w_2 [(7, .int 0), (6, .int 1), (0, .ref 2000000), (1, .ref 0), (2, .ref 89), (3, .ref 100), (4, .ref 101), (5, .int (nI (4 * q)))] [.int 1] 2025
      refine r_iload hC dL_law_2025 (j := 1) rfl ?_
      refine r_icmp_eq hC dL_law_2027 (tgt := 2032) (by decide) (fun _ => ?_) (fun h => absurd (by decide) h)
      refine r_iload hC dL_law_2032 (j := 1) rfl ?_
      refine r_if_ne hC dL_law_2034 (tgt := 2049) (by decide) (fun _ => ?_) (fun h => absurd h (by decide))
      refine r_goto hC dL_law_2049 (tgt := 2109) (by decide) ?_
      refine r_locals [2, 3, 4, 5, 6, 7] (L' := [(0, .ref 2000000), (1, .ref 0), (2, .ref 89), (3, .ref 100), (4, .ref 101), (5, .int (nI (4 * q)))]) rfl ?_
      exact Wp.wid (by omega) (by omega) (kk w_2 (hlen_2.trans hlen_1) (J9.step Lw.1 (fun z h1 h2 h3 => f1 z h1 h2) ⟨q1, hq1⟩ ⟨qd, (f1 101 (by omega) (by omega)).trans hqd⟩ T_2 (hOK)))
set_option maxRecDepth 100000 in
set_option maxHeartbeats 4000000 in
theorem op_44a {X : mC} {d q mc ms k n : Nat} {w : mW} {N : Nat} {xs : Nat → Int32} {th : Int32} {f g : Nat → Int32} {sl op lo : Int32} {hd rs : Nat → Int32} {np : Nat} {tp av lg pl tk : Int32} {l : List sv} {ea fa : Int32} {so : Option sv} {txl lnl : List Nat} {tx : Nat → Int32} {tn : Nat} {lf : Nat → Int32} {ln : Nat} (hX : mScr X N xs) (J : JI w th ((f, g, sl, op, lo), hd, rs, np, tp, av, lg, pl, tk) l ea fa so txl lnl tx tn lf ln) (hC : Cx X RL cL_law (d + 12) mc ms) (hnl : mNL X = 9) (hq : 4 * q + 4 ≤ N) (hN : N ≤ 2048) (hk : k + 25 ≤ mc) (hn : n + 3100 ≤ ms) (kk : ∀ w', w'.length = w.length → JV w' → Wp X (k + 25) (n + 3100) w' [(0, .ref 2000000), (1, .ref 0), (2, .ref 89), (3, .ref 100), (4, .ref 101), (5, .int (nI (4 * q)))] [] 2109) (hs9 : so = none) : Wp X k n w [(0, .ref 2000000), (1, .ref 0), (2, .ref 89), (3, .ref 100), (4, .ref 101), (5, .int (nI (4 * q)))] [] 2065 := by
  have J9 := J
  obtain ⟨hct, hmd, ⟨qo, hqo⟩, ⟨qd, hqd⟩, hOK⟩ := J
  have hI : SInv ((f, g, sl, op, lo), hd, rs, np, tp, av, lg, pl, tk) := hOK.2.2.1
  have hnp : np ≤ 4 := hI.2.2
  have h25 : f 25 = 0 := hI.1.2.1
  have hop : op = 0 ∨ op = 1 := hI.1.2.2.1
  have hpos : ∀ j, j < 25 → ¬ f j < 0 := hI.1.1.1
  have hlg : ¬ lg < 0 := hI.2.1
  have hea := hOK.2.2.2.2.2.2.2.2.1
  have hfa := hOK.2.2.2.2.2.2.2.2.2
  obtain ⟨fc0, hc0⟩ := hct.ob
  obtain ⟨fm0, hm0⟩ := hmd.ob
  refine r_aload_n hC dL_law_2065 rfl (j := 1) rfl ?_
  refine r_aload_n hC dL_law_2066 rfl (j := 3) rfl ?_
  
  refine r_callH hC (vs := [.ref 0, .ref 100]) wL_law_2067 (lw_restore0 (d := d) hct hqo (Or.inr (by decide)) hs9) rfl (by omega) (by omega) (by omega) (Nat.le_of_ble_eq_true rfl) (fun v_1 w_1 hP_1 hlen_1 => ?_)
  obtain ⟨hv_1, Lw⟩ := hP_1
  · have f1 : ∀ z, (z < 0 ∨ 0 + 88 < z) → z ≠ 100 → w_1[z]? = w[z]? := Lw.2.2
    have hm1 := hmd.frame (fun z _ _ => f1 z (by omega) (by omega))
    obtain ⟨fs1, hb1⟩ := hm1.ob
    obtain ⟨q1, hq1⟩ := Lw.2.1
    rw [hv_1]
    show Wp X (k + 1) (n + 6) w_1 [(0, .ref 2000000), (1, .ref 0), (2, .ref 89), (3, .ref 100), (4, .ref 101), (5, .int (nI (4 * q)))] [.int 1] 2070
    refine r_istore hC dL_law_2070 (by rw [hnl]; decide) (L' := [(6, .int 1), (0, .ref 2000000), (1, .ref 0), (2, .ref 89), (3, .ref 100), (4, .ref 101), (5, .int (nI (4 * q)))]) rfl ?_
    refine r_aload_n hC dL_law_2072 rfl (j := 3) rfl ?_
    
    refine r_callV hC (vs := []) vL_law_2073 (sm_restore0 (d := d) hm1 hs9) hb1 rfl rfl (by omega) (by omega) (by omega) (Nat.le_of_ble_eq_true rfl) (fun v_2 w_2 hP_2 hlen_2 => ?_) (fun _ _ h => h.elim)
    obtain ⟨hv_2, T_2⟩ := hP_2
    · have hqo2 := (T_2.2.2 100 (by omega)).trans hq1
      obtain ⟨fs2, hb2⟩ := T_2.1.ob
      rw [hv_2]
      show Wp X (k + 1) (n + 6) w_2 [(6, .int 1), (0, .ref 2000000), (1, .ref 0), (2, .ref 89), (3, .ref 100), (4, .ref 101), (5, .int (nI (4 * q)))] [.int 0] 2076
      refine r_istore hC dL_law_2076 (by rw [hnl]; decide) (L' := [(7, .int 0), (6, .int 1), (0, .ref 2000000), (1, .ref 0), (2, .ref 89), (3, .ref 100), (4, .ref 101), (5, .int (nI (4 * q)))]) rfl ?_
      refine r_aload_n hC dL_law_2078 rfl (j := 4) rfl ?_
      refine r_callV hC (vs := []) vL_law_2079 (sm_thrown (d := d) T_2.1) hb2 rfl rfl (by omega) (by omega) (by omega) (Nat.le_of_ble_eq_true rfl) (fun v_11 w_11 hP_11 hlen_11 => ?_) (fun _ _ h => h.elim)
      rw [hP_11.1, hP_11.2]
      show Wp X (k + 1) (n + 6) w_2 [(7, .int 0), (6, .int 1), (0, .ref 2000000), (1, .ref 0), (2, .ref 89), (3, .ref 100), (4, .ref 101), (5, .int (nI (4 * q)))] [.int 1] 2082
      refine r_iload hC dL_law_2082 (j := 1) rfl ?_
      refine r_icmp_eq hC dL_law_2084 (tgt := 2089) (by decide) (fun _ => ?_) (fun h => absurd (by decide) h)
      refine r_iload hC dL_law_2089 (j := 1) rfl ?_
      refine r_if_ne hC dL_law_2091 (tgt := 2106) (by decide) (fun _ => ?_) (fun h => absurd h (by decide))
      refine r_goto hC dL_law_2106 (tgt := 2109) (by decide) ?_
      refine r_locals [2, 3, 4, 5, 6, 7] (L' := [(0, .ref 2000000), (1, .ref 0), (2, .ref 89), (3, .ref 100), (4, .ref 101), (5, .int (nI (4 * q)))]) rfl ?_
      exact Wp.wid (by omega) (by omega) (kk w_2 (hlen_2.trans hlen_1) (J9.step Lw.1 (fun z h1 h2 h3 => f1 z h1 h2) ⟨q1, hq1⟩ ⟨qd, (f1 101 (by omega) (by omega)).trans hqd⟩ T_2 (hOK)))
set_option maxRecDepth 100000 in
set_option maxHeartbeats 4000000 in
theorem op_42b {X : mC} {d q mc ms k n : Nat} {w : mW} {N : Nat} {xs : Nat → Int32} {th : Int32} {f g : Nat → Int32} {sl op lo : Int32} {hd rs : Nat → Int32} {np : Nat} {tp av lg pl tk : Int32} {l : List sv} {ea fa : Int32} {so : Option sv} {txl lnl : List Nat} {tx : Nat → Int32} {tn : Nat} {lf : Nat → Int32} {ln : Nat} (hX : mScr X N xs) (J : JI w th ((f, g, sl, op, lo), hd, rs, np, tp, av, lg, pl, tk) l ea fa so txl lnl tx tn lf ln) (hC : Cx X RL cL_law (d + 12) mc ms) (hnl : mNL X = 9) (hq : 4 * q + 4 ≤ N) (hN : N ≤ 2048) (hk : k + 25 ≤ mc) (hn : n + 3100 ≤ ms) (kk : ∀ w', w'.length = w.length → JV w' → Wp X (k + 25) (n + 3100) w' [(0, .ref 2000000), (1, .ref 0), (2, .ref 89), (3, .ref 100), (4, .ref 101), (5, .int (nI (4 * q)))] [] 2109) {l2 : List sv} {f2 g2 : Nat → Int32} {sl2 op2 lo2 : Int32} {hd2 rs2 : Nat → Int32} {np2 : Nat} {tp2 av2 lg2 pl2 tk2 : Int32} (hl9 : l = l2 ++ [((f2, g2, sl2, op2, lo2), hd2, rs2, np2, tp2, av2, lg2, pl2, tk2)]) : Wp X k n w [(0, .ref 2000000), (1, .ref 0), (2, .ref 89), (3, .ref 100), (4, .ref 101), (5, .int (nI (4 * q)))] [] 2008 := by
  have J9 := J
  obtain ⟨hct, hmd, ⟨qo, hqo⟩, ⟨qd, hqd⟩, hOK⟩ := J
  have hI : SInv ((f, g, sl, op, lo), hd, rs, np, tp, av, lg, pl, tk) := hOK.2.2.1
  have hnp : np ≤ 4 := hI.2.2
  have h25 : f 25 = 0 := hI.1.2.1
  have hop : op = 0 ∨ op = 1 := hI.1.2.2.1
  have hpos : ∀ j, j < 25 → ¬ f j < 0 := hI.1.1.1
  have hlg : ¬ lg < 0 := hI.2.1
  have hea := hOK.2.2.2.2.2.2.2.2.1
  have hfa := hOK.2.2.2.2.2.2.2.2.2
  obtain ⟨fc0, hc0⟩ := hct.ob
  obtain ⟨fm0, hm0⟩ := hmd.ob
  have hz : SInv ((f2, g2, sl2, op2, lo2), hd2, rs2, np2, tp2, av2, lg2, pl2, tk2) := hOK.2.2.2.1 _ (by rw [hl9]; simp)
  refine r_aload_n hC dL_law_2008 rfl (j := 1) rfl ?_
  refine r_aload_n hC dL_law_2009 rfl (j := 3) rfl ?_
  
  refine r_callH hC (vs := [.ref 0, .ref 100]) wL_law_2010 (lw_undo1 (d := d) hct hqo (Or.inr (by decide)) hl9 hz.1.2.2.1) rfl (by omega) (by omega) (by omega) (Nat.le_of_ble_eq_true rfl) (fun v_1 w_1 hP_1 hlen_1 => ?_)
  obtain ⟨hv_1, Lw⟩ := hP_1
  · have f1 : ∀ z, (z < 0 ∨ 0 + 88 < z) → z ≠ 100 → w_1[z]? = w[z]? := Lw.2.2
    have hm1 := hmd.frame (fun z _ _ => f1 z (by omega) (by omega))
    obtain ⟨fs1, hb1⟩ := hm1.ob
    obtain ⟨q1, hq1, hr1⟩ := Lw.2.1
    rw [hv_1]
    show Wp X (k + 0) (n + 0) w_1 [(0, .ref 2000000), (1, .ref 0), (2, .ref 89), (3, .ref 100), (4, .ref 101), (5, .int (nI (4 * q)))] [.int 0] 2013
    refine r_istore hC dL_law_2013 (by rw [hnl]; decide) (L' := [(6, .int 0), (0, .ref 2000000), (1, .ref 0), (2, .ref 89), (3, .ref 100), (4, .ref 101), (5, .int (nI (4 * q)))]) rfl ?_
    refine r_aload_n hC dL_law_2015 rfl (j := 3) rfl ?_
    
    refine r_callV hC (vs := []) vL_law_2016 (sm_undo1 (d := d) hm1 hl9) hb1 rfl rfl (by omega) (by omega) (by omega) (Nat.le_of_ble_eq_true rfl) (fun v_2 w_2 hP_2 hlen_2 => ?_) (fun _ _ h => h.elim)
    obtain ⟨hv_2, T_2⟩ := hP_2
    · have hqo2 := (T_2.2.2 100 (by omega)).trans hq1
      obtain ⟨fs2, hb2⟩ := T_2.1.ob
      rw [hv_2]
      show Wp X (k + 0) (n + 0) w_2 [(6, .int 0), (0, .ref 2000000), (1, .ref 0), (2, .ref 89), (3, .ref 100), (4, .ref 101), (5, .int (nI (4 * q)))] [.int (nI l2.length)] 2019
      refine r_istore hC dL_law_2019 (by rw [hnl]; decide) (L' := [(7, .int (nI l2.length)), (6, .int 0), (0, .ref 2000000), (1, .ref 0), (2, .ref 89), (3, .ref 100), (4, .ref 101), (5, .int (nI (4 * q)))]) rfl ?_
      refine r_aload_n hC dL_law_2021 rfl (j := 4) rfl ?_
      refine r_callV hC (vs := []) vL_law_2022 (sm_thrown (d := d) T_2.1) hb2 rfl rfl (by omega) (by omega) (by omega) (Nat.le_of_ble_eq_true rfl) (fun v_11 w_11 hP_11 hlen_11 => ?_) (fun _ _ h => h.elim)
      rw [hP_11.1, hP_11.2]
      show Wp X (k + 0) (n + 0) w_2 [(7, .int (nI l2.length)), (6, .int 0), (0, .ref 2000000), (1, .ref 0), (2, .ref 89), (3, .ref 100), (4, .ref 101), (5, .int (nI (4 * q)))] [.int 0] 2025
      refine r_iload hC dL_law_2025 (j := 1) rfl ?_
      refine r_icmp_eq hC dL_law_2027 (tgt := 2032) (by decide) (fun _ => ?_) (fun h => absurd (by decide) h)
      refine r_iload hC dL_law_2032 (j := 1) rfl ?_
      refine r_if_ne hC dL_law_2034 (tgt := 2049) (by decide) (fun h => absurd (by decide) h) (fun _ => ?_)
      refine r_aload_n hC dL_law_2037 rfl (j := 5) rfl ?_
      refine r_iconst hC dL_law_2038 (v := 0) (by decide) ?_
      refine r_lald hC dL_law_2039 (j := 0) hqo2 ⟨by decide, by decide, by decide⟩ ?_
      rw [hr1]
      refine r_iload hC dL_law_2040 (j := 0) rfl ?_
      refine r_i2l hC dL_law_2042 rfl ?_
      refine r_lcmp hC dL_law_2043 ?_
      rw [cmp_self _]
      refine r_if_eq hC dL_law_2044 (tgt := 2049) (by decide) (fun _ => ?_) (fun h => absurd (by decide) h)
      refine r_goto hC dL_law_2049 (tgt := 2109) (by decide) ?_
      refine r_locals [2, 3, 4, 5, 6, 7] (L' := [(0, .ref 2000000), (1, .ref 0), (2, .ref 89), (3, .ref 100), (4, .ref 101), (5, .int (nI (4 * q)))]) rfl ?_
      exact Wp.wid (by omega) (by omega) (kk w_2 (hlen_2.trans hlen_1) (J9.step Lw.1 (fun z h1 h2 h3 => f1 z h1 h2) ⟨q1, hq1⟩ ⟨qd, (f1 101 (by omega) (by omega)).trans hqd⟩ T_2 (⟨hOK.1, hOK.2.1, hz, (fun z h => hOK.2.2.2.1 z (by rw [hl9]; exact List.mem_append_left _ h)), hOK.2.2.2.2⟩)))
set_option maxRecDepth 100000 in
set_option maxHeartbeats 4000000 in
theorem op_44b {X : mC} {d q mc ms k n : Nat} {w : mW} {N : Nat} {xs : Nat → Int32} {th : Int32} {f g : Nat → Int32} {sl op lo : Int32} {hd rs : Nat → Int32} {np : Nat} {tp av lg pl tk : Int32} {l : List sv} {ea fa : Int32} {so : Option sv} {txl lnl : List Nat} {tx : Nat → Int32} {tn : Nat} {lf : Nat → Int32} {ln : Nat} (hX : mScr X N xs) (J : JI w th ((f, g, sl, op, lo), hd, rs, np, tp, av, lg, pl, tk) l ea fa so txl lnl tx tn lf ln) (hC : Cx X RL cL_law (d + 12) mc ms) (hnl : mNL X = 9) (hq : 4 * q + 4 ≤ N) (hN : N ≤ 2048) (hk : k + 25 ≤ mc) (hn : n + 3100 ≤ ms) (kk : ∀ w', w'.length = w.length → JV w' → Wp X (k + 25) (n + 3100) w' [(0, .ref 2000000), (1, .ref 0), (2, .ref 89), (3, .ref 100), (4, .ref 101), (5, .int (nI (4 * q)))] [] 2109) {f2 g2 : Nat → Int32} {sl2 op2 lo2 : Int32} {hd2 rs2 : Nat → Int32} {np2 : Nat} {tp2 av2 lg2 pl2 tk2 : Int32} (hs9 : so = some ((f2, g2, sl2, op2, lo2), hd2, rs2, np2, tp2, av2, lg2, pl2, tk2)) : Wp X k n w [(0, .ref 2000000), (1, .ref 0), (2, .ref 89), (3, .ref 100), (4, .ref 101), (5, .int (nI (4 * q)))] [] 2065 := by
  have J9 := J
  obtain ⟨hct, hmd, ⟨qo, hqo⟩, ⟨qd, hqd⟩, hOK⟩ := J
  have hI : SInv ((f, g, sl, op, lo), hd, rs, np, tp, av, lg, pl, tk) := hOK.2.2.1
  have hnp : np ≤ 4 := hI.2.2
  have h25 : f 25 = 0 := hI.1.2.1
  have hop : op = 0 ∨ op = 1 := hI.1.2.2.1
  have hpos : ∀ j, j < 25 → ¬ f j < 0 := hI.1.1.1
  have hlg : ¬ lg < 0 := hI.2.1
  have hea := hOK.2.2.2.2.2.2.2.2.1
  have hfa := hOK.2.2.2.2.2.2.2.2.2
  obtain ⟨fc0, hc0⟩ := hct.ob
  obtain ⟨fm0, hm0⟩ := hmd.ob
  have hz : SInv ((f2, g2, sl2, op2, lo2), hd2, rs2, np2, tp2, av2, lg2, pl2, tk2) := hOK.2.2.2.2.1 _ hs9
  refine r_aload_n hC dL_law_2065 rfl (j := 1) rfl ?_
  refine r_aload_n hC dL_law_2066 rfl (j := 3) rfl ?_
  
  refine r_callH hC (vs := [.ref 0, .ref 100]) wL_law_2067 (lw_restore1 (d := d) hct hqo (Or.inr (by decide)) hs9 hz.1.2.2.1) rfl (by omega) (by omega) (by omega) (Nat.le_of_ble_eq_true rfl) (fun v_1 w_1 hP_1 hlen_1 => ?_)
  obtain ⟨hv_1, Lw⟩ := hP_1
  · have f1 : ∀ z, (z < 0 ∨ 0 + 88 < z) → z ≠ 100 → w_1[z]? = w[z]? := Lw.2.2
    have hm1 := hmd.frame (fun z _ _ => f1 z (by omega) (by omega))
    obtain ⟨fs1, hb1⟩ := hm1.ob
    obtain ⟨q1, hq1, hr1⟩ := Lw.2.1
    rw [hv_1]
    show Wp X (k + 0) (n + 0) w_1 [(0, .ref 2000000), (1, .ref 0), (2, .ref 89), (3, .ref 100), (4, .ref 101), (5, .int (nI (4 * q)))] [.int 0] 2070
    refine r_istore hC dL_law_2070 (by rw [hnl]; decide) (L' := [(6, .int 0), (0, .ref 2000000), (1, .ref 0), (2, .ref 89), (3, .ref 100), (4, .ref 101), (5, .int (nI (4 * q)))]) rfl ?_
    refine r_aload_n hC dL_law_2072 rfl (j := 3) rfl ?_
    
    refine r_callV hC (vs := []) vL_law_2073 (sm_restore1 (d := d) hm1 hs9) hb1 rfl rfl (by omega) (by omega) (by omega) (Nat.le_of_ble_eq_true rfl) (fun v_2 w_2 hP_2 hlen_2 => ?_) (fun _ _ h => h.elim)
    obtain ⟨hv_2, T_2⟩ := hP_2
    · have hqo2 := (T_2.2.2 100 (by omega)).trans hq1
      obtain ⟨fs2, hb2⟩ := T_2.1.ob
      rw [hv_2]
      show Wp X (k + 0) (n + 0) w_2 [(6, .int 0), (0, .ref 2000000), (1, .ref 0), (2, .ref 89), (3, .ref 100), (4, .ref 101), (5, .int (nI (4 * q)))] [.int (hSum f2 25)] 2076
      refine r_istore hC dL_law_2076 (by rw [hnl]; decide) (L' := [(7, .int (hSum f2 25)), (6, .int 0), (0, .ref 2000000), (1, .ref 0), (2, .ref 89), (3, .ref 100), (4, .ref 101), (5, .int (nI (4 * q)))]) rfl ?_
      refine r_aload_n hC dL_law_2078 rfl (j := 4) rfl ?_
      refine r_callV hC (vs := []) vL_law_2079 (sm_thrown (d := d) T_2.1) hb2 rfl rfl (by omega) (by omega) (by omega) (Nat.le_of_ble_eq_true rfl) (fun v_11 w_11 hP_11 hlen_11 => ?_) (fun _ _ h => h.elim)
      rw [hP_11.1, hP_11.2]
      show Wp X (k + 0) (n + 0) w_2 [(7, .int (hSum f2 25)), (6, .int 0), (0, .ref 2000000), (1, .ref 0), (2, .ref 89), (3, .ref 100), (4, .ref 101), (5, .int (nI (4 * q)))] [.int 0] 2082
      refine r_iload hC dL_law_2082 (j := 1) rfl ?_
      refine r_icmp_eq hC dL_law_2084 (tgt := 2089) (by decide) (fun _ => ?_) (fun h => absurd (by decide) h)
      refine r_iload hC dL_law_2089 (j := 1) rfl ?_
      refine r_if_ne hC dL_law_2091 (tgt := 2106) (by decide) (fun h => absurd (by decide) h) (fun _ => ?_)
      refine r_aload_n hC dL_law_2094 rfl (j := 5) rfl ?_
      refine r_iconst hC dL_law_2095 (v := 0) (by decide) ?_
      refine r_lald hC dL_law_2096 (j := 0) hqo2 ⟨by decide, by decide, by decide⟩ ?_
      rw [hr1]
      refine r_iload hC dL_law_2097 (j := 0) rfl ?_
      refine r_i2l hC dL_law_2099 rfl ?_
      refine r_lcmp hC dL_law_2100 ?_
      rw [cmp_self _]
      refine r_if_eq hC dL_law_2101 (tgt := 2106) (by decide) (fun _ => ?_) (fun h => absurd (by decide) h)
      refine r_goto hC dL_law_2106 (tgt := 2109) (by decide) ?_
      refine r_locals [2, 3, 4, 5, 6, 7] (L' := [(0, .ref 2000000), (1, .ref 0), (2, .ref 89), (3, .ref 100), (4, .ref 101), (5, .int (nI (4 * q)))]) rfl ?_
      exact Wp.wid (by omega) (by omega) (kk w_2 (hlen_2.trans hlen_1) (J9.step Lw.1 (fun z h1 h2 h3 => f1 z h1 h2) ⟨q1, hq1⟩ ⟨qd, (f1 101 (by omega) (by omega)).trans hqd⟩ T_2 (⟨hOK.1, hOK.2.1, hz, (fun z h => by cases h), hOK.2.2.2.2⟩)))
end LP6
