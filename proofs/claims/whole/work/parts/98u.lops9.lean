section LP9
set_option maxRecDepth 100000 in
set_option maxHeartbeats 4000000 in
theorem op_9 {X : mC} {d q mc ms k n : Nat} {w : mW} {N : Nat} {xs : Nat → Int32} {th : Int32} {f g : Nat → Int32} {sl op lo : Int32} {hd rs : Nat → Int32} {np : Nat} {tp av lg pl tk : Int32} {l : List sv} {ea fa : Int32} {so : Option sv} {txl lnl : List Nat} {tx : Nat → Int32} {tn : Nat} {lf : Nat → Int32} {ln : Nat} (hX : mScr X N xs) (J : JI w th ((f, g, sl, op, lo), hd, rs, np, tp, av, lg, pl, tk) l ea fa so txl lnl tx tn lf ln) (hC : Cx X RL cL_law (d + 12) mc ms) (hnl : mNL X = 9) (hq : 4 * q + 4 ≤ N) (hN : N ≤ 2048) (hk : k + 25 ≤ mc) (hn : n + 3100 ≤ ms) (kk : ∀ w', w'.length = w.length → JV w' → Wp X (k + 25) (n + 3100) w' [(0, .ref 2000000), (1, .ref 0), (2, .ref 89), (3, .ref 100), (4, .ref 101), (5, .int (nI (4 * q)))] [] 2109)  : Wp X k n w [(0, .ref 2000000), (1, .ref 0), (2, .ref 89), (3, .ref 100), (4, .ref 101), (5, .int (nI (4 * q)))] [] 706 := by
  have J9 := J
  obtain ⟨hct, hmd, ⟨qo, hqo⟩, ⟨qd, hqd⟩, hOK⟩ := J
  have hI : SInv ((f, g, sl, op, lo), hd, rs, np, tp, av, lg, pl, tk) := hOK.2.2.1
  have hnp : np ≤ 4 := hI.2.2
  have h25 : f 25 = 0 := hI.1.2.1
  have hop : op = 0 ∨ op = 1 := hI.1.2.2.1
  have hpos : ∀ j, j < 25 → ¬ f j < 0 := hI.1.1.1
  have hlg : ¬ lg < 0 := hI.2.1
  have hea := hOK.2.2.2.2.2.2.2.2.1
  have hfa := hOK.2.2.2.2.2.2.2.2.2
  obtain ⟨fc0, hc0⟩ := hct.ob
  obtain ⟨fm0, hm0⟩ := hmd.ob
  refine r_aload_n hC dL_law_706 rfl (j := 1) rfl ?_
  refine r_aload_n hC dL_law_707 rfl (j := 0) rfl ?_
  refine r_iload hC dL_law_708 (j := 5) rfl ?_
  refine r_iconst hC dL_law_710 (v := 1) (by decide) ?_
  refine r_iadd hC dL_law_711 ?_
  rw [show nI (4 * q) + 1 = nI (4 * q + 1) from nI_add (4 * q) 1]
  refine r_ialdX hC dL_law_712 (j := (4 * q + 1)) hX (mIx_nI (by omega) (by omega)) ?_
  refine r_if_eq hC dL_law_713 (tgt := 720) (by decide) (fun cB => ?_) (fun cB => ?_)
  · refine r_iconst hC dL_law_720 (v := 0) (by decide) ?_
    refine r_callV hC (vs := [.int 0]) vL_law_721 (sh_setBorder (d := d) (n := 0) hct hI (Or.inl rfl)) hc0 rfl rfl (by omega) (by omega) (by omega) (Nat.le_of_ble_eq_true rfl) (fun v_1 w_1 hP_1 hlen_1 => ?_) (fun _ _ h => h.elim)
    rw [hP_1.1]
    have f1 := hP_1.2.2
    have hm1 := hmd.frame (fun z _ _ => f1 z (by omega))
    obtain ⟨fm1, hb1⟩ := hm1.ob
    have iv := inv_6 (b := 0) (Or.inl rfl) hI
    show Wp X k n w_1 [(0, .ref 2000000), (1, .ref 0), (2, .ref 89), (3, .ref 100), (4, .ref 101), (5, .int (nI (4 * q)))] [.int op] 724
    refine r_aload_n hC dL_law_724 rfl (j := 2) rfl ?_
    refine r_aload_n hC dL_law_725 rfl (j := 0) rfl ?_
    refine r_iload hC dL_law_726 (j := 5) rfl ?_
    refine r_iconst hC dL_law_728 (v := 1) (by decide) ?_
    refine r_iadd hC dL_law_729 ?_
    rw [show nI (4 * q) + 1 = nI (4 * q + 1) from nI_add (4 * q) 1]
    refine r_ialdX hC dL_law_730 (j := (4 * q + 1)) hX (mIx_nI (by omega) (by omega)) ?_
    refine r_if_eq hC dL_law_731 (tgt := 738) (by decide) (fun _ => ?_) (fun h => absurd cB h)
    refine r_iconst hC dL_law_738 (v := 0) (by decide) ?_
    
    refine r_callV hC (vs := [.int 0]) vL_law_739 (sm_setBorder0 (d := d) hm1 h25 hop hlg iv.2) hb1 rfl rfl (by omega) (by omega) (by omega) (Nat.le_of_ble_eq_true rfl) (fun v_2 w_2 hP_2 hlen_2 => ?_) (fun _ _ h => h.elim)
    rw [hP_2.1]
    show Wp X k n w_2 [(0, .ref 2000000), (1, .ref 0), (2, .ref 89), (3, .ref 100), (4, .ref 101), (5, .int (nI (4 * q)))] [.int op, .int op] 742
    refine r_icmp_eq hC dL_law_742 (tgt := 2109) (by decide) (fun _ => ?_) (fun h => absurd rfl h)
    exact Wp.wid (by omega) (by omega) (kk w_2 (hlen_2.trans hlen_1) (J9.step hP_1.2.1 (fun z h1 _ _ => f1 z h1) ⟨qo, (f1 100 (by omega)).trans hqo⟩ ⟨qd, (f1 101 (by omega)).trans hqd⟩ hP_2.2 ⟨hOK.1, hOK.2.1, iv.1, all_push hOK.2.2.2.1 hI, hOK.2.2.2.2⟩))
  · refine r_iconst hC dL_law_716 (v := 1) (by decide) ?_
    refine r_goto hC dL_law_717 (tgt := 721) (by decide) ?_
    refine r_callV hC (vs := [.int 1]) vL_law_721 (sh_setBorder (d := d) (n := 1) hct hI (Or.inr rfl)) hc0 rfl rfl (by omega) (by omega) (by omega) (Nat.le_of_ble_eq_true rfl) (fun v_1 w_1 hP_1 hlen_1 => ?_) (fun _ _ h => h.elim)
    rw [hP_1.1]
    have f1 := hP_1.2.2
    have hm1 := hmd.frame (fun z _ _ => f1 z (by omega))
    obtain ⟨fm1, hb1⟩ := hm1.ob
    have iv := inv_6 (b := 1) (Or.inr rfl) hI
    show Wp X k n w_1 [(0, .ref 2000000), (1, .ref 0), (2, .ref 89), (3, .ref 100), (4, .ref 101), (5, .int (nI (4 * q)))] [.int op] 724
    refine r_aload_n hC dL_law_724 rfl (j := 2) rfl ?_
    refine r_aload_n hC dL_law_725 rfl (j := 0) rfl ?_
    refine r_iload hC dL_law_726 (j := 5) rfl ?_
    refine r_iconst hC dL_law_728 (v := 1) (by decide) ?_
    refine r_iadd hC dL_law_729 ?_
    rw [show nI (4 * q) + 1 = nI (4 * q + 1) from nI_add (4 * q) 1]
    refine r_ialdX hC dL_law_730 (j := (4 * q + 1)) hX (mIx_nI (by omega) (by omega)) ?_
    refine r_if_eq hC dL_law_731 (tgt := 738) (by decide) (fun h => absurd h cB) (fun _ => ?_)
    refine r_iconst hC dL_law_734 (v := 1) (by decide) ?_
    refine r_goto hC dL_law_735 (tgt := 739) (by decide) ?_
    
    refine r_callV hC (vs := [.int 1]) vL_law_739 (sm_setBorder1 (d := d) hm1 h25 hop hlg iv.2) hb1 rfl rfl (by omega) (by omega) (by omega) (Nat.le_of_ble_eq_true rfl) (fun v_2 w_2 hP_2 hlen_2 => ?_) (fun _ _ h => h.elim)
    rw [hP_2.1]
    show Wp X k n w_2 [(0, .ref 2000000), (1, .ref 0), (2, .ref 89), (3, .ref 100), (4, .ref 101), (5, .int (nI (4 * q)))] [.int op, .int op] 742
    refine r_icmp_eq hC dL_law_742 (tgt := 2109) (by decide) (fun _ => ?_) (fun h => absurd rfl h)
    exact Wp.wid (by omega) (by omega) (kk w_2 (hlen_2.trans hlen_1) (J9.step hP_1.2.1 (fun z h1 _ _ => f1 z h1) ⟨qo, (f1 100 (by omega)).trans hqo⟩ ⟨qd, (f1 101 (by omega)).trans hqd⟩ hP_2.2 ⟨hOK.1, hOK.2.1, iv.1, all_push hOK.2.2.2.1 hI, hOK.2.2.2.2⟩))
set_option maxRecDepth 100000 in
set_option maxHeartbeats 4000000 in
theorem op_21 {X : mC} {d q mc ms k n : Nat} {w : mW} {N : Nat} {xs : Nat → Int32} {th : Int32} {f g : Nat → Int32} {sl op lo : Int32} {hd rs : Nat → Int32} {np : Nat} {tp av lg pl tk : Int32} {l : List sv} {ea fa : Int32} {so : Option sv} {txl lnl : List Nat} {tx : Nat → Int32} {tn : Nat} {lf : Nat → Int32} {ln : Nat} (hX : mScr X N xs) (J : JI w th ((f, g, sl, op, lo), hd, rs, np, tp, av, lg, pl, tk) l ea fa so txl lnl tx tn lf ln) (hC : Cx X RL cL_law (d + 12) mc ms) (hnl : mNL X = 9) (hq : 4 * q + 4 ≤ N) (hN : N ≤ 2048) (hk : k + 25 ≤ mc) (hn : n + 3100 ≤ ms) (kk : ∀ w', w'.length = w.length → JV w' → Wp X (k + 25) (n + 3100) w' [(0, .ref 2000000), (1, .ref 0), (2, .ref 89), (3, .ref 100), (4, .ref 101), (5, .int (nI (4 * q)))] [] 2109)  : Wp X k n w [(0, .ref 2000000), (1, .ref 0), (2, .ref 89), (3, .ref 100), (4, .ref 101), (5, .int (nI (4 * q)))] [] 1172 := by
  have J9 := J
  obtain ⟨hct, hmd, ⟨qo, hqo⟩, ⟨qd, hqd⟩, hOK⟩ := J
  have hI : SInv ((f, g, sl, op, lo), hd, rs, np, tp, av, lg, pl, tk) := hOK.2.2.1
  have hnp : np ≤ 4 := hI.2.2
  have h25 : f 25 = 0 := hI.1.2.1
  have hop : op = 0 ∨ op = 1 := hI.1.2.2.1
  have hpos : ∀ j, j < 25 → ¬ f j < 0 := hI.1.1.1
  have hlg : ¬ lg < 0 := hI.2.1
  have hea := hOK.2.2.2.2.2.2.2.2.1
  have hfa := hOK.2.2.2.2.2.2.2.2.2
  obtain ⟨fc0, hc0⟩ := hct.ob
  obtain ⟨fm0, hm0⟩ := hmd.ob
  refine r_aload_n hC dL_law_1172 rfl (j := 1) rfl ?_
  refine r_aload_n hC dL_law_1173 rfl (j := 0) rfl ?_
  refine r_iload hC dL_law_1174 (j := 5) rfl ?_
  refine r_iconst hC dL_law_1176 (v := 1) (by decide) ?_
  refine r_iadd hC dL_law_1177 ?_
  rw [show nI (4 * q) + 1 = nI (4 * q + 1) from nI_add (4 * q) 1]
  refine r_ialdX hC dL_law_1178 (j := (4 * q + 1)) hX (mIx_nI (by omega) (by omega)) ?_
  refine r_aload_n hC dL_law_1179 rfl (j := 3) rfl ?_
  
  refine r_callH hC (vs := [.ref 0, .int (xs (4 * q + 1)), .ref 100]) wL_law_1180 (lw_isPeak (d := d) (c := (xs (4 * q + 1))) hct hqo (Or.inr (by decide))) rfl (by omega) (by omega) (by omega) (Nat.le_of_ble_eq_true rfl) (fun v_1 w_1 hP_1 hlen_1 => ?_)
  rcases hP_1 with ⟨hc, hv_1, Lw⟩ | ⟨hc, hv_1, Lw⟩
  · have f1 : ∀ z, (z < 0 ∨ 0 + 88 < z) → z ≠ 100 → w_1[z]? = w[z]? := Lw.2.2
    have hm1 := hmd.frame (fun z _ _ => f1 z (by omega) (by omega))
    obtain ⟨fs1, hb1⟩ := hm1.ob
    obtain ⟨q1, hq1, hr1⟩ := Lw.2.1
    rw [hv_1]
    show Wp X (k + 1) (n + 6) w_1 [(0, .ref 2000000), (1, .ref 0), (2, .ref 89), (3, .ref 100), (4, .ref 101), (5, .int (nI (4 * q)))] [.int 0] 1183
    refine r_istore hC dL_law_1183 (by rw [hnl]; decide) (L' := [(6, .int 0), (0, .ref 2000000), (1, .ref 0), (2, .ref 89), (3, .ref 100), (4, .ref 101), (5, .int (nI (4 * q)))]) rfl ?_
    refine r_aload_n hC dL_law_1185 rfl (j := 3) rfl ?_
    refine r_aload_n hC dL_law_1186 rfl (j := 1) rfl ?_
    refine r_iload hC dL_law_1187 (j := 6) rfl ?_
    refine r_iconst hC dL_law_1189 (v := 1) (by decide) ?_
    refine r_iadd hC dL_law_1190 ?_
    rw [show nI (4 * q) + 1 = nI (4 * q + 1) from nI_add (4 * q) 1]
    refine r_ialdX hC dL_law_1191 (j := (4 * q + 1)) hX (mIx_nI (by omega) (by omega)) ?_
    
    refine r_callV hC (vs := [.int (xs (4 * q + 1))]) vL_law_1192 (sm_isPeak (d := d) (c := (xs (4 * q + 1))) hm1 h25 hpos) hb1 rfl rfl (by omega) (by omega) (by omega) (Nat.le_of_ble_eq_true rfl) (fun v_2 w_2 hP_2 hlen_2 => ?_) (fun _ _ h => h.elim)
    rcases hP_2 with ⟨hm, hv_2, T_2⟩ | ⟨hm, hv_2, T_2⟩
    · have hqo2 := (T_2.2.2 100 (by omega)).trans hq1
      obtain ⟨fs2, hb2⟩ := T_2.1.ob
      rw [hv_2]
      show Wp X (k + 1) (n + 6) w_2 [(6, .int 0), (0, .ref 2000000), (1, .ref 0), (2, .ref 89), (3, .ref 100), (4, .ref 101), (5, .int (nI (4 * q)))] [.int (bI (hPeak f (xs (4 * q + 1)).toNatClampNeg))] 1195
      refine r_istore hC dL_law_1195 (by rw [hnl]; decide) (L' := [(7, .int (bI (hPeak f (xs (4 * q + 1)).toNatClampNeg))), (6, .int 0), (0, .ref 2000000), (1, .ref 0), (2, .ref 89), (3, .ref 100), (4, .ref 101), (5, .int (nI (4 * q)))]) rfl ?_
      refine r_aload_n hC dL_law_1197 rfl (j := 4) rfl ?_
      refine r_callV hC (vs := []) vL_law_1198 (sm_thrown (d := d) T_2.1) hb2 rfl rfl (by omega) (by omega) (by omega) (Nat.le_of_ble_eq_true rfl) (fun v_11 w_11 hP_11 hlen_11 => ?_) (fun _ _ h => h.elim)
      rw [hP_11.1, hP_11.2]
      show Wp X (k + 1) (n + 6) w_2 [(7, .int (bI (hPeak f (xs (4 * q + 1)).toNatClampNeg))), (6, .int 0), (0, .ref 2000000), (1, .ref 0), (2, .ref 89), (3, .ref 100), (4, .ref 101), (5, .int (nI (4 * q)))] [.int 0] 1201
      refine r_iload hC dL_law_1201 (j := 1) rfl ?_
      refine r_icmp_eq hC dL_law_1203 (tgt := 1208) (by decide) (fun _ => ?_) (fun h => absurd (by decide) h)
      refine r_iload hC dL_law_1208 (j := 1) rfl ?_
      refine r_if_ne hC dL_law_1210 (tgt := 1232) (by decide) (fun h => absurd (by decide) h) (fun _ => ?_)
      rcases bI_01 (hPeak f (xs (4 * q + 1)).toNatClampNeg) with hb9 | hb9
      · rw [hb9] at hr1
        rw [hb9]
        refine r_aload_n hC dL_law_1213 rfl (j := 5) rfl ?_
        refine r_iconst hC dL_law_1214 (v := 0) (by decide) ?_
        refine r_lald hC dL_law_1215 (j := 0) hqo2 ⟨by decide, by decide, by decide⟩ ?_
        rw [hr1]
        refine r_iload hC dL_law_1216 (j := 0) rfl ?_
        refine r_if_eq hC dL_law_1218 (tgt := 1225) (by decide) (fun _ => ?_) (fun h => absurd (by decide) h)
        refine r_lconst hC dL_law_1225 (v := 0) (by decide) ?_
        refine r_lcmp hC dL_law_1226 ?_
        rw [show lg_cmp ((0 : Int32).toInt64) 0 = 0 by decide]
        refine r_if_eq hC dL_law_1227 (tgt := 1232) (by decide) (fun _ => ?_) (fun h => absurd (by decide) h)
        refine r_goto hC dL_law_1232 (tgt := 2109) (by decide) ?_
        refine r_locals [2, 3, 4, 5, 6, 7] (L' := [(0, .ref 2000000), (1, .ref 0), (2, .ref 89), (3, .ref 100), (4, .ref 101), (5, .int (nI (4 * q)))]) rfl ?_
        exact Wp.wid (by omega) (by omega) (kk w_2 (hlen_2.trans hlen_1) (J9.step Lw.1 (fun z h1 h2 h3 => f1 z h1 h2) ⟨q1, hq1⟩ ⟨qd, (f1 101 (by omega) (by omega)).trans hqd⟩ T_2 (hOK)))
      · rw [hb9] at hr1
        rw [hb9]
        refine r_aload_n hC dL_law_1213 rfl (j := 5) rfl ?_
        refine r_iconst hC dL_law_1214 (v := 0) (by decide) ?_
        refine r_lald hC dL_law_1215 (j := 0) hqo2 ⟨by decide, by decide, by decide⟩ ?_
        rw [hr1]
        refine r_iload hC dL_law_1216 (j := 0) rfl ?_
        refine r_if_eq hC dL_law_1218 (tgt := 1225) (by decide) (fun h => absurd h (by decide)) (fun _ => ?_)
        refine r_lconst hC dL_law_1221 (v := 1) (by decide) ?_
        refine r_goto hC dL_law_1222 (tgt := 1226) (by decide) ?_
        refine r_lcmp hC dL_law_1226 ?_
        rw [show lg_cmp ((1 : Int32).toInt64) 1 = 0 by decide]
        refine r_if_eq hC dL_law_1227 (tgt := 1232) (by decide) (fun _ => ?_) (fun h => absurd (by decide) h)
        refine r_goto hC dL_law_1232 (tgt := 2109) (by decide) ?_
        refine r_locals [2, 3, 4, 5, 6, 7] (L' := [(0, .ref 2000000), (1, .ref 0), (2, .ref 89), (3, .ref 100), (4, .ref 101), (5, .int (nI (4 * q)))]) rfl ?_
        exact Wp.wid (by omega) (by omega) (kk w_2 (hlen_2.trans hlen_1) (J9.step Lw.1 (fun z h1 h2 h3 => f1 z h1 h2) ⟨q1, hq1⟩ ⟨qd, (f1 101 (by omega) (by omega)).trans hqd⟩ T_2 (hOK)))
    · exfalso
      first | exact absurd hc hm | exact absurd hm hc | (rw [hc] at hm; cases hm; done) | (rw [hc.1] at hm; cases hm; done) | (rw [hc] at hm; exact absurd hm.1 (by decide)) | (rw [hc.1] at hm; exact absurd hm.1 (by decide)) | exact absurd hm.2 hc.2 | exact absurd hc.2 hm.2 | (have h9 := hm.2; rw [hc.2] at h9; cases h9; done)
  · have f1 : ∀ z, (z < 0 ∨ 0 + 88 < z) → z ≠ 100 → w_1[z]? = w[z]? := Lw.2.2
    have hm1 := hmd.frame (fun z _ _ => f1 z (by omega) (by omega))
    obtain ⟨fs1, hb1⟩ := hm1.ob
    obtain ⟨q1, hq1⟩ := Lw.2.1
    rw [hv_1]
    show Wp X (k + 1) (n + 6) w_1 [(0, .ref 2000000), (1, .ref 0), (2, .ref 89), (3, .ref 100), (4, .ref 101), (5, .int (nI (4 * q)))] [.int 1] 1183
    refine r_istore hC dL_law_1183 (by rw [hnl]; decide) (L' := [(6, .int 1), (0, .ref 2000000), (1, .ref 0), (2, .ref 89), (3, .ref 100), (4, .ref 101), (5, .int (nI (4 * q)))]) rfl ?_
    refine r_aload_n hC dL_law_1185 rfl (j := 3) rfl ?_
    refine r_aload_n hC dL_law_1186 rfl (j := 1) rfl ?_
    refine r_iload hC dL_law_1187 (j := 6) rfl ?_
    refine r_iconst hC dL_law_1189 (v := 1) (by decide) ?_
    refine r_iadd hC dL_law_1190 ?_
    rw [show nI (4 * q) + 1 = nI (4 * q + 1) from nI_add (4 * q) 1]
    refine r_ialdX hC dL_law_1191 (j := (4 * q + 1)) hX (mIx_nI (by omega) (by omega)) ?_
    
    refine r_callV hC (vs := [.int (xs (4 * q + 1))]) vL_law_1192 (sm_isPeak (d := d) (c := (xs (4 * q + 1))) hm1 h25 hpos) hb1 rfl rfl (by omega) (by omega) (by omega) (Nat.le_of_ble_eq_true rfl) (fun v_2 w_2 hP_2 hlen_2 => ?_) (fun _ _ h => h.elim)
    rcases hP_2 with ⟨hm, hv_2, T_2⟩ | ⟨hm, hv_2, T_2⟩
    · exfalso
      first | exact absurd hc hm | exact absurd hm hc | (rw [hc] at hm; cases hm; done) | (rw [hc.1] at hm; cases hm; done) | (rw [hc] at hm; exact absurd hm.1 (by decide)) | (rw [hc.1] at hm; exact absurd hm.1 (by decide)) | exact absurd hm.2 hc.2 | exact absurd hc.2 hm.2 | (have h9 := hm.2; rw [hc.2] at h9; cases h9; done)
    · have hqo2 := (T_2.2.2 100 (by omega)).trans hq1
      obtain ⟨fs2, hb2⟩ := T_2.1.ob
      rw [hv_2]
      show Wp X (k + 1) (n + 6) w_2 [(6, .int 1), (0, .ref 2000000), (1, .ref 0), (2, .ref 89), (3, .ref 100), (4, .ref 101), (5, .int (nI (4 * q)))] [.int 0] 1195
      refine r_istore hC dL_law_1195 (by rw [hnl]; decide) (L' := [(7, .int 0), (6, .int 1), (0, .ref 2000000), (1, .ref 0), (2, .ref 89), (3, .ref 100), (4, .ref 101), (5, .int (nI (4 * q)))]) rfl ?_
      refine r_aload_n hC dL_law_1197 rfl (j := 4) rfl ?_
      refine r_callV hC (vs := []) vL_law_1198 (sm_thrown (d := d) T_2.1) hb2 rfl rfl (by omega) (by omega) (by omega) (Nat.le_of_ble_eq_true rfl) (fun v_11 w_11 hP_11 hlen_11 => ?_) (fun _ _ h => h.elim)
      rw [hP_11.1, hP_11.2]
      show Wp X (k + 1) (n + 6) w_2 [(7, .int 0), (6, .int 1), (0, .ref 2000000), (1, .ref 0), (2, .ref 89), (3, .ref 100), (4, .ref 101), (5, .int (nI (4 * q)))] [.int 1] 1201
      refine r_iload hC dL_law_1201 (j := 1) rfl ?_
      refine r_icmp_eq hC dL_law_1203 (tgt := 1208) (by decide) (fun _ => ?_) (fun h => absurd (by decide) h)
      refine r_iload hC dL_law_1208 (j := 1) rfl ?_
      refine r_if_ne hC dL_law_1210 (tgt := 1232) (by decide) (fun _ => ?_) (fun h => absurd h (by decide))
      refine r_goto hC dL_law_1232 (tgt := 2109) (by decide) ?_
      refine r_locals [2, 3, 4, 5, 6, 7] (L' := [(0, .ref 2000000), (1, .ref 0), (2, .ref 89), (3, .ref 100), (4, .ref 101), (5, .int (nI (4 * q)))]) rfl ?_
      exact Wp.wid (by omega) (by omega) (kk w_2 (hlen_2.trans hlen_1) (J9.step Lw.1 (fun z h1 h2 h3 => f1 z h1 h2) ⟨q1, hq1⟩ ⟨qd, (f1 101 (by omega) (by omega)).trans hqd⟩ T_2 (hOK)))
set_option maxRecDepth 100000 in
set_option maxHeartbeats 4000000 in
theorem op_34 {X : mC} {d q mc ms k n : Nat} {w : mW} {N : Nat} {xs : Nat → Int32} {th : Int32} {f g : Nat → Int32} {sl op lo : Int32} {hd rs : Nat → Int32} {np : Nat} {tp av lg pl tk : Int32} {l : List sv} {ea fa : Int32} {so : Option sv} {txl lnl : List Nat} {tx : Nat → Int32} {tn : Nat} {lf : Nat → Int32} {ln : Nat} (hX : mScr X N xs) (J : JI w th ((f, g, sl, op, lo), hd, rs, np, tp, av, lg, pl, tk) l ea fa so txl lnl tx tn lf ln) (hC : Cx X RL cL_law (d + 12) mc ms) (hnl : mNL X = 9) (hq : 4 * q + 4 ≤ N) (hN : N ≤ 2048) (hk : k + 25 ≤ mc) (hn : n + 3100 ≤ ms) (kk : ∀ w', w'.length = w.length → JV w' → Wp X (k + 25) (n + 3100) w' [(0, .ref 2000000), (1, .ref 0), (2, .ref 89), (3, .ref 100), (4, .ref 101), (5, .int (nI (4 * q)))] [] 2109)  : Wp X k n w [(0, .ref 2000000), (1, .ref 0), (2, .ref 89), (3, .ref 100), (4, .ref 101), (5, .int (nI (4 * q)))] [] 1628 := by
  have J9 := J
  obtain ⟨hct, hmd, ⟨qo, hqo⟩, ⟨qd, hqd⟩, hOK⟩ := J
  have hI : SInv ((f, g, sl, op, lo), hd, rs, np, tp, av, lg, pl, tk) := hOK.2.2.1
  have hnp : np ≤ 4 := hI.2.2
  have h25 : f 25 = 0 := hI.1.2.1
  have hop : op = 0 ∨ op = 1 := hI.1.2.2.1
  have hpos : ∀ j, j < 25 → ¬ f j < 0 := hI.1.1.1
  have hlg : ¬ lg < 0 := hI.2.1
  have hea := hOK.2.2.2.2.2.2.2.2.1
  have hfa := hOK.2.2.2.2.2.2.2.2.2
  obtain ⟨fc0, hc0⟩ := hct.ob
  obtain ⟨fm0, hm0⟩ := hmd.ob
  obtain ⟨etn, htx⟩ := hOK.1
  subst etn
  have htl : txl.length ≤ 60 := hOK.2.2.2.2.2.1
  refine r_aload_n hC dL_law_1628 rfl (j := 1) rfl ?_
  refine r_aload_n hC dL_law_1629 rfl (j := 0) rfl ?_
  refine r_iload hC dL_law_1630 (j := 5) rfl ?_
  refine r_iconst hC dL_law_1632 (v := 1) (by decide) ?_
  refine r_iadd hC dL_law_1633 ?_
  rw [show nI (4 * q) + 1 = nI (4 * q + 1) from nI_add (4 * q) 1]
  refine r_ialdX hC dL_law_1634 (j := (4 * q + 1)) hX (mIx_nI (by omega) (by omega)) ?_
  refine r_i2c hC dL_law_1635 rfl ?_
  rw [i2c_c16 _]
  refine r_aload_n hC dL_law_1636 rfl (j := 3) rfl ?_
  
  refine r_callH hC (vs := [.ref 0, .int (nI (c16 (xs (4 * q + 1)))), .ref 100]) wL_law_1637 (lw_append (d := d) (c := c16 (xs (4 * q + 1))) hct hqo (Or.inr (by decide)) htl (c16_lt _)) rfl (by omega) (by omega) (by omega) (Nat.le_of_ble_eq_true rfl) (fun v_1 w_1 hP_1 hlen_1 => ?_)
  rcases hP_1 with ⟨hc, hv_1, Lw⟩ | ⟨hc, hv_1, Lw⟩ | ⟨hc, hv_1, Lw⟩
  · have f1 : ∀ z, (z < 0 ∨ 0 + 88 < z) → z ≠ 100 → w_1[z]? = w[z]? := Lw.2.2
    have hm1 := hmd.frame (fun z _ _ => f1 z (by omega) (by omega))
    obtain ⟨fs1, hb1⟩ := hm1.ob
    obtain ⟨q1, hq1, hr1⟩ := Lw.2.1
    rw [hv_1]
    show Wp X (k + 2) (n + 150) w_1 [(0, .ref 2000000), (1, .ref 0), (2, .ref 89), (3, .ref 100), (4, .ref 101), (5, .int (nI (4 * q)))] [.int 0] 1640
    refine r_istore hC dL_law_1640 (by rw [hnl]; decide) (L' := [(6, .int 0), (0, .ref 2000000), (1, .ref 0), (2, .ref 89), (3, .ref 100), (4, .ref 101), (5, .int (nI (4 * q)))]) rfl ?_
    refine r_aload_n hC dL_law_1642 rfl (j := 3) rfl ?_
    refine r_aload_n hC dL_law_1643 rfl (j := 1) rfl ?_
    refine r_iload hC dL_law_1644 (j := 6) rfl ?_
    refine r_iconst hC dL_law_1646 (v := 1) (by decide) ?_
    refine r_iadd hC dL_law_1647 ?_
    rw [show nI (4 * q) + 1 = nI (4 * q + 1) from nI_add (4 * q) 1]
    refine r_ialdX hC dL_law_1648 (j := (4 * q + 1)) hX (mIx_nI (by omega) (by omega)) ?_
    refine r_i2c hC dL_law_1649 rfl ?_
    rw [i2c_c16 _]
    
    refine r_callV hC (vs := [.int (nI (c16 (xs (4 * q + 1))))]) vL_law_1650 (sm_append (d := d) (x := nI (c16 (xs (4 * q + 1)))) hm1 htl) hb1 rfl rfl (by omega) (by omega) (by omega) (Nat.le_of_ble_eq_true rfl) (fun v_2 w_2 hP_2 hlen_2 => ?_) (fun _ _ h => h.elim)
    rcases hP_2 with ⟨hm, hv_2, T_2⟩ | ⟨hm, hv_2, T_2⟩ | ⟨hm, hv_2, T_2⟩
    · have hlt9 := hc.2
      have hqo2 := (T_2.2.2 100 (by omega)).trans hq1
      obtain ⟨fs2, hb2⟩ := T_2.1.ob
      rw [hv_2]
      show Wp X (k + 2) (n + 150) w_2 [(6, .int 0), (0, .ref 2000000), (1, .ref 0), (2, .ref 89), (3, .ref 100), (4, .ref 101), (5, .int (nI (4 * q)))] [.int (nI (txl.length + 1))] 1653
      refine r_istore hC dL_law_1653 (by rw [hnl]; decide) (L' := [(7, .int (nI (txl.length + 1))), (6, .int 0), (0, .ref 2000000), (1, .ref 0), (2, .ref 89), (3, .ref 100), (4, .ref 101), (5, .int (nI (4 * q)))]) rfl ?_
      refine r_aload_n hC dL_law_1655 rfl (j := 4) rfl ?_
      refine r_callV hC (vs := []) vL_law_1656 (sm_thrown (d := d) T_2.1) hb2 rfl rfl (by omega) (by omega) (by omega) (Nat.le_of_ble_eq_true rfl) (fun v_11 w_11 hP_11 hlen_11 => ?_) (fun _ _ h => h.elim)
      rw [hP_11.1, hP_11.2]
      show Wp X (k + 2) (n + 150) w_2 [(7, .int (nI (txl.length + 1))), (6, .int 0), (0, .ref 2000000), (1, .ref 0), (2, .ref 89), (3, .ref 100), (4, .ref 101), (5, .int (nI (4 * q)))] [.int 0] 1659
      refine r_iload hC dL_law_1659 (j := 1) rfl ?_
      refine r_icmp_eq hC dL_law_1661 (tgt := 1666) (by decide) (fun _ => ?_) (fun h => absurd (by decide) h)
      refine r_iload hC dL_law_1666 (j := 1) rfl ?_
      refine r_if_ne hC dL_law_1668 (tgt := 1683) (by decide) (fun h => absurd (by decide) h) (fun _ => ?_)
      refine r_aload_n hC dL_law_1671 rfl (j := 5) rfl ?_
      refine r_iconst hC dL_law_1672 (v := 0) (by decide) ?_
      refine r_lald hC dL_law_1673 (j := 0) hqo2 ⟨by decide, by decide, by decide⟩ ?_
      rw [hr1]
      refine r_iload hC dL_law_1674 (j := 0) rfl ?_
      refine r_i2l hC dL_law_1676 rfl ?_
      refine r_lcmp hC dL_law_1677 ?_
      rw [cmp_self _]
      refine r_if_eq hC dL_law_1678 (tgt := 1683) (by decide) (fun _ => ?_) (fun h => absurd (by decide) h)
      refine r_goto hC dL_law_1683 (tgt := 2109) (by decide) ?_
      refine r_locals [2, 3, 4, 5, 6, 7] (L' := [(0, .ref 2000000), (1, .ref 0), (2, .ref 89), (3, .ref 100), (4, .ref 101), (5, .int (nI (4 * q)))]) rfl ?_
      exact Wp.wid (by omega) (by omega) (kk w_2 (hlen_2.trans hlen_1) (J9.step Lw.1 (fun z h1 h2 h3 => f1 z h1 h2) ⟨q1, hq1⟩ ⟨qd, (f1 101 (by omega) (by omega)).trans hqd⟩ T_2 (⟨hOK.1.push, hOK.2.1, hI, hOK.2.2.2.1, hOK.2.2.2.2.1, (by rw [List.length_append, List.length_singleton]; omega), hOK.2.2.2.2.2.2⟩)))
    · exfalso
      first | (rw [hc.1] at hm; cases hm; done) | (rw [hc] at hm; exact absurd hm.1 (by decide)) | (have h8 := hc.2; have h9 := hm.2; omega)
    · exfalso
      first | (rw [hc.1] at hm; cases hm; done) | (rw [hc] at hm; exact absurd hm.1 (by decide)) | (have h8 := hc.2; have h9 := hm.2; omega)
  · have f1 : ∀ z, (z < 0 ∨ 0 + 88 < z) → z ≠ 100 → w_1[z]? = w[z]? := Lw.2.2
    have hm1 := hmd.frame (fun z _ _ => f1 z (by omega) (by omega))
    obtain ⟨fs1, hb1⟩ := hm1.ob
    obtain ⟨q1, hq1⟩ := Lw.2.1
    rw [hv_1]
    show Wp X (k + 2) (n + 150) w_1 [(0, .ref 2000000), (1, .ref 0), (2, .ref 89), (3, .ref 100), (4, .ref 101), (5, .int (nI (4 * q)))] [.int 1] 1640
    refine r_istore hC dL_law_1640 (by rw [hnl]; decide) (L' := [(6, .int 1), (0, .ref 2000000), (1, .ref 0), (2, .ref 89), (3, .ref 100), (4, .ref 101), (5, .int (nI (4 * q)))]) rfl ?_
    refine r_aload_n hC dL_law_1642 rfl (j := 3) rfl ?_
    refine r_aload_n hC dL_law_1643 rfl (j := 1) rfl ?_
    refine r_iload hC dL_law_1644 (j := 6) rfl ?_
    refine r_iconst hC dL_law_1646 (v := 1) (by decide) ?_
    refine r_iadd hC dL_law_1647 ?_
    rw [show nI (4 * q) + 1 = nI (4 * q + 1) from nI_add (4 * q) 1]
    refine r_ialdX hC dL_law_1648 (j := (4 * q + 1)) hX (mIx_nI (by omega) (by omega)) ?_
    refine r_i2c hC dL_law_1649 rfl ?_
    rw [i2c_c16 _]
    
    refine r_callV hC (vs := [.int (nI (c16 (xs (4 * q + 1))))]) vL_law_1650 (sm_append (d := d) (x := nI (c16 (xs (4 * q + 1)))) hm1 htl) hb1 rfl rfl (by omega) (by omega) (by omega) (Nat.le_of_ble_eq_true rfl) (fun v_2 w_2 hP_2 hlen_2 => ?_) (fun _ _ h => h.elim)
    rcases hP_2 with ⟨hm, hv_2, T_2⟩ | ⟨hm, hv_2, T_2⟩ | ⟨hm, hv_2, T_2⟩
    · exfalso
      first | (rw [hc.1] at hm; cases hm; done) | (rw [hc] at hm; exact absurd hm.1 (by decide)) | (have h8 := hc.2; have h9 := hm.2; omega)
    · exfalso
      first | (rw [hc.1] at hm; cases hm; done) | (rw [hc] at hm; exact absurd hm.1 (by decide)) | (have h8 := hc.2; have h9 := hm.2; omega)
    · have hqo2 := (T_2.2.2 100 (by omega)).trans hq1
      obtain ⟨fs2, hb2⟩ := T_2.1.ob
      rw [hv_2]
      show Wp X (k + 2) (n + 150) w_2 [(6, .int 1), (0, .ref 2000000), (1, .ref 0), (2, .ref 89), (3, .ref 100), (4, .ref 101), (5, .int (nI (4 * q)))] [.int 0] 1653
      refine r_istore hC dL_law_1653 (by rw [hnl]; decide) (L' := [(7, .int 0), (6, .int 1), (0, .ref 2000000), (1, .ref 0), (2, .ref 89), (3, .ref 100), (4, .ref 101), (5, .int (nI (4 * q)))]) rfl ?_
      refine r_aload_n hC dL_law_1655 rfl (j := 4) rfl ?_
      refine r_callV hC (vs := []) vL_law_1656 (sm_thrown (d := d) T_2.1) hb2 rfl rfl (by omega) (by omega) (by omega) (Nat.le_of_ble_eq_true rfl) (fun v_11 w_11 hP_11 hlen_11 => ?_) (fun _ _ h => h.elim)
      rw [hP_11.1, hP_11.2]
      show Wp X (k + 2) (n + 150) w_2 [(7, .int 0), (6, .int 1), (0, .ref 2000000), (1, .ref 0), (2, .ref 89), (3, .ref 100), (4, .ref 101), (5, .int (nI (4 * q)))] [.int 1] 1659
      refine r_iload hC dL_law_1659 (j := 1) rfl ?_
      refine r_icmp_eq hC dL_law_1661 (tgt := 1666) (by decide) (fun _ => ?_) (fun h => absurd (by decide) h)
      refine r_iload hC dL_law_1666 (j := 1) rfl ?_
      refine r_if_ne hC dL_law_1668 (tgt := 1683) (by decide) (fun _ => ?_) (fun h => absurd h (by decide))
      refine r_goto hC dL_law_1683 (tgt := 2109) (by decide) ?_
      refine r_locals [2, 3, 4, 5, 6, 7] (L' := [(0, .ref 2000000), (1, .ref 0), (2, .ref 89), (3, .ref 100), (4, .ref 101), (5, .int (nI (4 * q)))]) rfl ?_
      exact Wp.wid (by omega) (by omega) (kk w_2 (hlen_2.trans hlen_1) (J9.step Lw.1 (fun z h1 h2 h3 => f1 z h1 h2) ⟨q1, hq1⟩ ⟨qd, (f1 101 (by omega) (by omega)).trans hqd⟩ T_2 (hOK)))
  · have f1 : ∀ z, (z < 0 ∨ 0 + 88 < z) → z ≠ 100 → w_1[z]? = w[z]? := Lw.2.2
    have hm1 := hmd.frame (fun z _ _ => f1 z (by omega) (by omega))
    obtain ⟨fs1, hb1⟩ := hm1.ob
    obtain ⟨q1, hq1⟩ := Lw.2.1
    rw [hv_1]
    show Wp X (k + 2) (n + 150) w_1 [(0, .ref 2000000), (1, .ref 0), (2, .ref 89), (3, .ref 100), (4, .ref 101), (5, .int (nI (4 * q)))] [.int 2] 1640
    refine r_istore hC dL_law_1640 (by rw [hnl]; decide) (L' := [(6, .int 2), (0, .ref 2000000), (1, .ref 0), (2, .ref 89), (3, .ref 100), (4, .ref 101), (5, .int (nI (4 * q)))]) rfl ?_
    refine r_aload_n hC dL_law_1642 rfl (j := 3) rfl ?_
    refine r_aload_n hC dL_law_1643 rfl (j := 1) rfl ?_
    refine r_iload hC dL_law_1644 (j := 6) rfl ?_
    refine r_iconst hC dL_law_1646 (v := 1) (by decide) ?_
    refine r_iadd hC dL_law_1647 ?_
    rw [show nI (4 * q) + 1 = nI (4 * q + 1) from nI_add (4 * q) 1]
    refine r_ialdX hC dL_law_1648 (j := (4 * q + 1)) hX (mIx_nI (by omega) (by omega)) ?_
    refine r_i2c hC dL_law_1649 rfl ?_
    rw [i2c_c16 _]
    
    refine r_callV hC (vs := [.int (nI (c16 (xs (4 * q + 1))))]) vL_law_1650 (sm_append (d := d) (x := nI (c16 (xs (4 * q + 1)))) hm1 htl) hb1 rfl rfl (by omega) (by omega) (by omega) (Nat.le_of_ble_eq_true rfl) (fun v_2 w_2 hP_2 hlen_2 => ?_) (fun _ _ h => h.elim)
    rcases hP_2 with ⟨hm, hv_2, T_2⟩ | ⟨hm, hv_2, T_2⟩ | ⟨hm, hv_2, T_2⟩
    · exfalso
      first | (rw [hc.1] at hm; cases hm; done) | (rw [hc] at hm; exact absurd hm.1 (by decide)) | (have h8 := hc.2; have h9 := hm.2; omega)
    · have hqo2 := (T_2.2.2 100 (by omega)).trans hq1
      obtain ⟨fs2, hb2⟩ := T_2.1.ob
      rw [hv_2]
      show Wp X (k + 2) (n + 150) w_2 [(6, .int 2), (0, .ref 2000000), (1, .ref 0), (2, .ref 89), (3, .ref 100), (4, .ref 101), (5, .int (nI (4 * q)))] [.int 0] 1653
      refine r_istore hC dL_law_1653 (by rw [hnl]; decide) (L' := [(7, .int 0), (6, .int 2), (0, .ref 2000000), (1, .ref 0), (2, .ref 89), (3, .ref 100), (4, .ref 101), (5, .int (nI (4 * q)))]) rfl ?_
      refine r_aload_n hC dL_law_1655 rfl (j := 4) rfl ?_
      refine r_callV hC (vs := []) vL_law_1656 (sm_thrown (d := d) T_2.1) hb2 rfl rfl (by omega) (by omega) (by omega) (Nat.le_of_ble_eq_true rfl) (fun v_11 w_11 hP_11 hlen_11 => ?_) (fun _ _ h => h.elim)
      rw [hP_11.1, hP_11.2]
      show Wp X (k + 2) (n + 150) w_2 [(7, .int 0), (6, .int 2), (0, .ref 2000000), (1, .ref 0), (2, .ref 89), (3, .ref 100), (4, .ref 101), (5, .int (nI (4 * q)))] [.int 2] 1659
      refine r_iload hC dL_law_1659 (j := 1) rfl ?_
      refine r_icmp_eq hC dL_law_1661 (tgt := 1666) (by decide) (fun _ => ?_) (fun h => absurd (by decide) h)
      refine r_iload hC dL_law_1666 (j := 1) rfl ?_
      refine r_if_ne hC dL_law_1668 (tgt := 1683) (by decide) (fun _ => ?_) (fun h => absurd h (by decide))
      refine r_goto hC dL_law_1683 (tgt := 2109) (by decide) ?_
      refine r_locals [2, 3, 4, 5, 6, 7] (L' := [(0, .ref 2000000), (1, .ref 0), (2, .ref 89), (3, .ref 100), (4, .ref 101), (5, .int (nI (4 * q)))]) rfl ?_
      exact Wp.wid (by omega) (by omega) (kk w_2 (hlen_2.trans hlen_1) (J9.step Lw.1 (fun z h1 h2 h3 => f1 z h1 h2) ⟨q1, hq1⟩ ⟨qd, (f1 101 (by omega) (by omega)).trans hqd⟩ T_2 (hOK)))
    · exfalso
      first | (rw [hc.1] at hm; cases hm; done) | (rw [hc] at hm; exact absurd hm.1 (by decide)) | (have h8 := hc.2; have h9 := hm.2; omega)
set_option maxRecDepth 100000 in
set_option maxHeartbeats 4000000 in
theorem op_35 {X : mC} {d q mc ms k n : Nat} {w : mW} {N : Nat} {xs : Nat → Int32} {th : Int32} {f g : Nat → Int32} {sl op lo : Int32} {hd rs : Nat → Int32} {np : Nat} {tp av lg pl tk : Int32} {l : List sv} {ea fa : Int32} {so : Option sv} {txl lnl : List Nat} {tx : Nat → Int32} {tn : Nat} {lf : Nat → Int32} {ln : Nat} (hX : mScr X N xs) (J : JI w th ((f, g, sl, op, lo), hd, rs, np, tp, av, lg, pl, tk) l ea fa so txl lnl tx tn lf ln) (hC : Cx X RL cL_law (d + 12) mc ms) (hnl : mNL X = 9) (hq : 4 * q + 4 ≤ N) (hN : N ≤ 2048) (hk : k + 25 ≤ mc) (hn : n + 3100 ≤ ms) (kk : ∀ w', w'.length = w.length → JV w' → Wp X (k + 25) (n + 3100) w' [(0, .ref 2000000), (1, .ref 0), (2, .ref 89), (3, .ref 100), (4, .ref 101), (5, .int (nI (4 * q)))] [] 2109)  : Wp X k n w [(0, .ref 2000000), (1, .ref 0), (2, .ref 89), (3, .ref 100), (4, .ref 101), (5, .int (nI (4 * q)))] [] 1686 := by
  have J9 := J
  obtain ⟨hct, hmd, ⟨qo, hqo⟩, ⟨qd, hqd⟩, hOK⟩ := J
  have hI : SInv ((f, g, sl, op, lo), hd, rs, np, tp, av, lg, pl, tk) := hOK.2.2.1
  have hnp : np ≤ 4 := hI.2.2
  have h25 : f 25 = 0 := hI.1.2.1
  have hop : op = 0 ∨ op = 1 := hI.1.2.2.1
  have hpos : ∀ j, j < 25 → ¬ f j < 0 := hI.1.1.1
  have hlg : ¬ lg < 0 := hI.2.1
  have hea := hOK.2.2.2.2.2.2.2.2.1
  have hfa := hOK.2.2.2.2.2.2.2.2.2
  obtain ⟨fc0, hc0⟩ := hct.ob
  obtain ⟨fm0, hm0⟩ := hmd.ob
  have hTx := hOK.1
  have htl : txl.length ≤ 60 := hOK.2.2.2.2.2.1
  have htn : tn ≤ 60 := by rw [hTx.1]; exact htl
  refine r_aload_n hC dL_law_1686 rfl (j := 1) rfl ?_
  refine r_aload_n hC dL_law_1687 rfl (j := 3) rfl ?_
  
  refine r_callH hC (vs := [.ref 0, .ref 100]) wL_law_1688 (lw_run (d := d + 1) hct hqo (Or.inr (by decide)) hI htl) rfl (by omega) (by omega) (by omega) (Nat.le_of_ble_eq_true rfl) (fun v_1 w_1 hP_1 hlen_1 => ?_)
  rcases hP_1 with ⟨cs0, l2, k3, y3, hr, hx, hv_1, Lw⟩ | ⟨cs0, k3, hr, hv_1, Lw⟩ | ⟨cs0, l2, k3, j3, y3, hr, hx, hv_1, Lw⟩
  · have f1 : ∀ z, (z < 0 ∨ 0 + 88 < z) → z ≠ 100 → w_1[z]? = w[z]? := Lw.2.2
    have hm1 := hmd.frame (fun z _ _ => f1 z (by omega) (by omega))
    obtain ⟨fs1, hb1⟩ := hm1.ob
    obtain ⟨q1, hq1, hr1⟩ := Lw.2.1
    rw [hv_1]
    show Wp X (k + 1) (n + 6) w_1 [(0, .ref 2000000), (1, .ref 0), (2, .ref 89), (3, .ref 100), (4, .ref 101), (5, .int (nI (4 * q)))] [.int 0] 1691
    refine r_istore hC dL_law_1691 (by rw [hnl]; decide) (L' := [(6, .int 0), (0, .ref 2000000), (1, .ref 0), (2, .ref 89), (3, .ref 100), (4, .ref 101), (5, .int (nI (4 * q)))]) rfl ?_
    refine r_aload_n hC dL_law_1693 rfl (j := 3) rfl ?_
    
    refine r_callV hC (vs := []) vL_law_1694 (sm_run (d := d) hm1 hI htn) hb1 rfl rfl (by omega) (by omega) (by omega) (Nat.le_of_ble_eq_true rfl) (fun v_2 w_2 hP_2 hlen_2 => ?_) (fun _ _ h => h.elim)
    rcases hP_2 with ⟨k4, hr2, hv_2, T_2⟩ | ⟨l4, k4, y4, hr2, hx2, hv_2, T_2⟩ | ⟨l4, k4, y4, j4, hr2, hx2, hv_2, T_2⟩
    · exfalso
      first | exact (hTx.all (cs := cs0) htl).sn hr hr2 | exact (hTx.all (cs := cs0) htl).ns hr hr2 | (rw [((hTx.all (cs := cs0) htl).ss hr hr2).ex, hx2] at hx; cases hx)
    · have hLE := (hTx.all (cs := cs0) htl).ss hr hr2
      rw [hLE.ex, hx2] at hx
      cases hx
      rw [hLE.len] at hr1
      rw [← hLE.ex] at hx2
      have hx := hx2
      have hqo2 := (T_2.2.2 100 (by omega)).trans hq1
      obtain ⟨fs2, hb2⟩ := T_2.1.ob
      rw [hv_2]
      show Wp X (k + 1) (n + 6) w_2 [(6, .int 0), (0, .ref 2000000), (1, .ref 0), (2, .ref 89), (3, .ref 100), (4, .ref 101), (5, .int (nI (4 * q)))] [.int (nI l4.length)] 1697
      refine r_istore hC dL_law_1697 (by rw [hnl]; decide) (L' := [(7, .int (nI l4.length)), (6, .int 0), (0, .ref 2000000), (1, .ref 0), (2, .ref 89), (3, .ref 100), (4, .ref 101), (5, .int (nI (4 * q)))]) rfl ?_
      refine r_aload_n hC dL_law_1699 rfl (j := 4) rfl ?_
      refine r_callV hC (vs := []) vL_law_1700 (sm_thrown (d := d) T_2.1) hb2 rfl rfl (by omega) (by omega) (by omega) (Nat.le_of_ble_eq_true rfl) (fun v_11 w_11 hP_11 hlen_11 => ?_) (fun _ _ h => h.elim)
      rw [hP_11.1, hP_11.2]
      show Wp X (k + 1) (n + 6) w_2 [(7, .int (nI l4.length)), (6, .int 0), (0, .ref 2000000), (1, .ref 0), (2, .ref 89), (3, .ref 100), (4, .ref 101), (5, .int (nI (4 * q)))] [.int 0] 1703
      refine r_iload hC dL_law_1703 (j := 1) rfl ?_
      refine r_icmp_eq hC dL_law_1705 (tgt := 1710) (by decide) (fun _ => ?_) (fun h => absurd (by decide) h)
      refine r_iload hC dL_law_1710 (j := 1) rfl ?_
      refine r_if_ne hC dL_law_1712 (tgt := 1727) (by decide) (fun h => absurd (by decide) h) (fun _ => ?_)
      refine r_aload_n hC dL_law_1715 rfl (j := 5) rfl ?_
      refine r_iconst hC dL_law_1716 (v := 0) (by decide) ?_
      refine r_lald hC dL_law_1717 (j := 0) hqo2 ⟨by decide, by decide, by decide⟩ ?_
      rw [hr1]
      refine r_iload hC dL_law_1718 (j := 0) rfl ?_
      refine r_i2l hC dL_law_1720 rfl ?_
      refine r_lcmp hC dL_law_1721 ?_
      rw [cmp_self _]
      refine r_if_eq hC dL_law_1722 (tgt := 1727) (by decide) (fun _ => ?_) (fun h => absurd (by decide) h)
      refine r_goto hC dL_law_1727 (tgt := 2109) (by decide) ?_
      refine r_locals [2, 3, 4, 5, 6, 7] (L' := [(0, .ref 2000000), (1, .ref 0), (2, .ref 89), (3, .ref 100), (4, .ref 101), (5, .int (nI (4 * q)))]) rfl ?_
      exact Wp.wid (by omega) (by omega) (kk w_2 (hlen_2.trans hlen_1) (J9.step Lw.1 (fun z h1 h2 h3 => f1 z h1 h2) ⟨q1, hq1⟩ ⟨qd, (f1 101 (by omega) (by omega)).trans hqd⟩ T_2 (⟨TxE.nil, hOK.2.1, exL_inv hI hx, all_push hOK.2.2.2.1 hI, hOK.2.2.2.2.1, Nat.zero_le _, hOK.2.2.2.2.2.2⟩)))
    · exfalso
      first | exact (hTx.all (cs := cs0) htl).sn hr hr2 | exact (hTx.all (cs := cs0) htl).ns hr hr2 | (rw [((hTx.all (cs := cs0) htl).ss hr hr2).ex, hx2] at hx; cases hx)
  · have f1 : ∀ z, (z < 0 ∨ 0 + 88 < z) → z ≠ 100 → w_1[z]? = w[z]? := Lw.2.2
    have hm1 := hmd.frame (fun z _ _ => f1 z (by omega) (by omega))
    obtain ⟨fs1, hb1⟩ := hm1.ob
    obtain ⟨q1, hq1⟩ := Lw.2.1
    rw [hv_1]
    show Wp X (k + 1) (n + 6) w_1 [(0, .ref 2000000), (1, .ref 0), (2, .ref 89), (3, .ref 100), (4, .ref 101), (5, .int (nI (4 * q)))] [.int 1] 1691
    refine r_istore hC dL_law_1691 (by rw [hnl]; decide) (L' := [(6, .int 1), (0, .ref 2000000), (1, .ref 0), (2, .ref 89), (3, .ref 100), (4, .ref 101), (5, .int (nI (4 * q)))]) rfl ?_
    refine r_aload_n hC dL_law_1693 rfl (j := 3) rfl ?_
    
    refine r_callV hC (vs := []) vL_law_1694 (sm_run (d := d) hm1 hI htn) hb1 rfl rfl (by omega) (by omega) (by omega) (Nat.le_of_ble_eq_true rfl) (fun v_2 w_2 hP_2 hlen_2 => ?_) (fun _ _ h => h.elim)
    rcases hP_2 with ⟨k4, hr2, hv_2, T_2⟩ | ⟨l4, k4, y4, hr2, hx2, hv_2, T_2⟩ | ⟨l4, k4, y4, j4, hr2, hx2, hv_2, T_2⟩
    · obtain rfl := (hTx.all (cs := cs0) htl).nn hr hr2
      have hqo2 := (T_2.2.2 100 (by omega)).trans hq1
      obtain ⟨fs2, hb2⟩ := T_2.1.ob
      rw [hv_2]
      show Wp X (k + 1) (n + 6) w_2 [(6, .int 1), (0, .ref 2000000), (1, .ref 0), (2, .ref 89), (3, .ref 100), (4, .ref 101), (5, .int (nI (4 * q)))] [.int 0] 1697
      refine r_istore hC dL_law_1697 (by rw [hnl]; decide) (L' := [(7, .int 0), (6, .int 1), (0, .ref 2000000), (1, .ref 0), (2, .ref 89), (3, .ref 100), (4, .ref 101), (5, .int (nI (4 * q)))]) rfl ?_
      refine r_aload_n hC dL_law_1699 rfl (j := 4) rfl ?_
      refine r_callV hC (vs := []) vL_law_1700 (sm_thrown (d := d) T_2.1) hb2 rfl rfl (by omega) (by omega) (by omega) (Nat.le_of_ble_eq_true rfl) (fun v_11 w_11 hP_11 hlen_11 => ?_) (fun _ _ h => h.elim)
      rw [hP_11.1, hP_11.2]
      show Wp X (k + 1) (n + 6) w_2 [(7, .int 0), (6, .int 1), (0, .ref 2000000), (1, .ref 0), (2, .ref 89), (3, .ref 100), (4, .ref 101), (5, .int (nI (4 * q)))] [.int 1] 1703
      refine r_iload hC dL_law_1703 (j := 1) rfl ?_
      refine r_icmp_eq hC dL_law_1705 (tgt := 1710) (by decide) (fun _ => ?_) (fun h => absurd (by decide) h)
      refine r_iload hC dL_law_1710 (j := 1) rfl ?_
      refine r_if_ne hC dL_law_1712 (tgt := 1727) (by decide) (fun _ => ?_) (fun h => absurd h (by decide))
      refine r_goto hC dL_law_1727 (tgt := 2109) (by decide) ?_
      refine r_locals [2, 3, 4, 5, 6, 7] (L' := [(0, .ref 2000000), (1, .ref 0), (2, .ref 89), (3, .ref 100), (4, .ref 101), (5, .int (nI (4 * q)))]) rfl ?_
      exact Wp.wid (by omega) (by omega) (kk w_2 (hlen_2.trans hlen_1) (J9.step Lw.1 (fun z h1 h2 h3 => f1 z h1 h2) ⟨q1, hq1⟩ ⟨qd, (f1 101 (by omega) (by omega)).trans hqd⟩ T_2 (⟨TxE.nil, hOK.2.1, hI, hOK.2.2.2.1, hOK.2.2.2.2.1, Nat.zero_le _, hOK.2.2.2.2.2.2.1, hOK.2.2.2.2.2.2.2.1, Or.inr (nI_pos (by have := cAllR_no (Nat.zero_le _) hr; omega)), hfa⟩)))
    · exfalso
      first | exact (hTx.all (cs := cs0) htl).sn hr hr2 | exact (hTx.all (cs := cs0) htl).ns hr hr2 | (rw [((hTx.all (cs := cs0) htl).ss hr hr2).ex, hx2] at hx; cases hx)
    · exfalso
      first | exact (hTx.all (cs := cs0) htl).sn hr hr2 | exact (hTx.all (cs := cs0) htl).ns hr hr2 | (rw [((hTx.all (cs := cs0) htl).ss hr hr2).ex, hx2] at hx; cases hx)
  · have f1 : ∀ z, (z < 0 ∨ 0 + 88 < z) → z ≠ 100 → w_1[z]? = w[z]? := Lw.2.2
    have hm1 := hmd.frame (fun z _ _ => f1 z (by omega) (by omega))
    obtain ⟨fs1, hb1⟩ := hm1.ob
    obtain ⟨q1, hq1⟩ := Lw.2.1
    rw [hv_1]
    show Wp X (k + 1) (n + 6) w_1 [(0, .ref 2000000), (1, .ref 0), (2, .ref 89), (3, .ref 100), (4, .ref 101), (5, .int (nI (4 * q)))] [.int 2] 1691
    refine r_istore hC dL_law_1691 (by rw [hnl]; decide) (L' := [(6, .int 2), (0, .ref 2000000), (1, .ref 0), (2, .ref 89), (3, .ref 100), (4, .ref 101), (5, .int (nI (4 * q)))]) rfl ?_
    refine r_aload_n hC dL_law_1693 rfl (j := 3) rfl ?_
    
    refine r_callV hC (vs := []) vL_law_1694 (sm_run (d := d) hm1 hI htn) hb1 rfl rfl (by omega) (by omega) (by omega) (Nat.le_of_ble_eq_true rfl) (fun v_2 w_2 hP_2 hlen_2 => ?_) (fun _ _ h => h.elim)
    rcases hP_2 with ⟨k4, hr2, hv_2, T_2⟩ | ⟨l4, k4, y4, hr2, hx2, hv_2, T_2⟩ | ⟨l4, k4, y4, j4, hr2, hx2, hv_2, T_2⟩
    · exfalso
      first | exact (hTx.all (cs := cs0) htl).sn hr hr2 | exact (hTx.all (cs := cs0) htl).ns hr hr2 | (rw [((hTx.all (cs := cs0) htl).ss hr hr2).ex, hx2] at hx; cases hx)
    · exfalso
      first | exact (hTx.all (cs := cs0) htl).sn hr hr2 | exact (hTx.all (cs := cs0) htl).ns hr hr2 | (rw [((hTx.all (cs := cs0) htl).ss hr hr2).ex, hx2] at hx; cases hx)
    · have hLE := (hTx.all (cs := cs0) htl).ss hr hr2
      rw [hLE.ex, hx2] at hx
      cases hx
      have hx := hx2
      rw [← hLE.ex] at hx
      have hqo2 := (T_2.2.2 100 (by omega)).trans hq1
      obtain ⟨fs2, hb2⟩ := T_2.1.ob
      rw [hv_2]
      show Wp X (k + 1) (n + 6) w_2 [(6, .int 2), (0, .ref 2000000), (1, .ref 0), (2, .ref 89), (3, .ref 100), (4, .ref 101), (5, .int (nI (4 * q)))] [.int 0] 1697
      refine r_istore hC dL_law_1697 (by rw [hnl]; decide) (L' := [(7, .int 0), (6, .int 2), (0, .ref 2000000), (1, .ref 0), (2, .ref 89), (3, .ref 100), (4, .ref 101), (5, .int (nI (4 * q)))]) rfl ?_
      refine r_aload_n hC dL_law_1699 rfl (j := 4) rfl ?_
      refine r_callV hC (vs := []) vL_law_1700 (sm_thrown (d := d) T_2.1) hb2 rfl rfl (by omega) (by omega) (by omega) (Nat.le_of_ble_eq_true rfl) (fun v_11 w_11 hP_11 hlen_11 => ?_) (fun _ _ h => h.elim)
      rw [hP_11.1, hP_11.2]
      show Wp X (k + 1) (n + 6) w_2 [(7, .int 0), (6, .int 2), (0, .ref 2000000), (1, .ref 0), (2, .ref 89), (3, .ref 100), (4, .ref 101), (5, .int (nI (4 * q)))] [.int 2] 1703
      refine r_iload hC dL_law_1703 (j := 1) rfl ?_
      refine r_icmp_eq hC dL_law_1705 (tgt := 1710) (by decide) (fun _ => ?_) (fun h => absurd (by decide) h)
      refine r_iload hC dL_law_1710 (j := 1) rfl ?_
      refine r_if_ne hC dL_law_1712 (tgt := 1727) (by decide) (fun _ => ?_) (fun h => absurd h (by decide))
      refine r_goto hC dL_law_1727 (tgt := 2109) (by decide) ?_
      refine r_locals [2, 3, 4, 5, 6, 7] (L' := [(0, .ref 2000000), (1, .ref 0), (2, .ref 89), (3, .ref 100), (4, .ref 101), (5, .int (nI (4 * q)))]) rfl ?_
      exact Wp.wid (by omega) (by omega) (kk w_2 (hlen_2.trans hlen_1) (J9.step Lw.1 (fun z h1 h2 h3 => f1 z h1 h2) ⟨q1, hq1⟩ ⟨qd, (f1 101 (by omega) (by omega)).trans hqd⟩ T_2 (⟨TxE.nil, hOK.2.1, hI, hOK.2.2.2.1, hOK.2.2.2.2.1, Nat.zero_le _, hOK.2.2.2.2.2.2.1, hOK.2.2.2.2.2.2.2.1, hea, Or.inr (nI_pos (by have h8 := cAllR_len hr; have h9 := exL_lt hx; omega))⟩)))
set_option maxRecDepth 100000 in
set_option maxHeartbeats 4000000 in
theorem op_27 {X : mC} {d q mc ms k n : Nat} {w : mW} {N : Nat} {xs : Nat → Int32} {th : Int32} {f g : Nat → Int32} {sl op lo : Int32} {hd rs : Nat → Int32} {np : Nat} {tp av lg pl tk : Int32} {l : List sv} {ea fa : Int32} {so : Option sv} {txl lnl : List Nat} {tx : Nat → Int32} {tn : Nat} {lf : Nat → Int32} {ln : Nat} (hX : mScr X N xs) (J : JI w th ((f, g, sl, op, lo), hd, rs, np, tp, av, lg, pl, tk) l ea fa so txl lnl tx tn lf ln) (hC : Cx X RL cL_law (d + 12) mc ms) (hnl : mNL X = 9) (hq : 4 * q + 4 ≤ N) (hN : N ≤ 2048) (hk : k + 25 ≤ mc) (hn : n + 3100 ≤ ms) (kk : ∀ w', w'.length = w.length → JV w' → Wp X (k + 25) (n + 3100) w' [(0, .ref 2000000), (1, .ref 0), (2, .ref 89), (3, .ref 100), (4, .ref 101), (5, .int (nI (4 * q)))] [] 2109)  : Wp X k n w [(0, .ref 2000000), (1, .ref 0), (2, .ref 89), (3, .ref 100), (4, .ref 101), (5, .int (nI (4 * q)))] [] 1472 := by
  have J9 := J
  obtain ⟨hct, hmd, ⟨qo, hqo⟩, ⟨qd, hqd⟩, hOK⟩ := J
  have hI : SInv ((f, g, sl, op, lo), hd, rs, np, tp, av, lg, pl, tk) := hOK.2.2.1
  have hnp : np ≤ 4 := hI.2.2
  have h25 : f 25 = 0 := hI.1.2.1
  have hop : op = 0 ∨ op = 1 := hI.1.2.2.1
  have hpos : ∀ j, j < 25 → ¬ f j < 0 := hI.1.1.1
  have hlg : ¬ lg < 0 := hI.2.1
  have hea := hOK.2.2.2.2.2.2.2.2.1
  have hfa := hOK.2.2.2.2.2.2.2.2.2
  obtain ⟨fc0, hc0⟩ := hct.ob
  obtain ⟨fm0, hm0⟩ := hmd.ob
  refine r_aload_n hC dL_law_1472 rfl (j := 1) rfl ?_
  refine r_aload_n hC dL_law_1473 rfl (j := 0) rfl ?_
  refine r_iload hC dL_law_1474 (j := 5) rfl ?_
  refine r_iconst hC dL_law_1476 (v := 1) (by decide) ?_
  refine r_iadd hC dL_law_1477 ?_
  rw [show nI (4 * q) + 1 = nI (4 * q + 1) from nI_add (4 * q) 1]
  refine r_ialdX hC dL_law_1478 (j := (4 * q + 1)) hX (mIx_nI (by omega) (by omega)) ?_
  refine r_aload hC dL_law_1479 (j := 4) rfl ?_
  
  refine r_callH hC (vs := [.ref 0, .int (xs (4 * q + 1)), .ref 101]) wL_law_1481 (lw_crownShare (d := d) (p := (xs (4 * q + 1))) hct hqd (Or.inr (by decide)) (fun h => (share_ok h).1) (fun h => (share_ok h).2)) rfl (by omega) (by omega) (by omega) (Nat.le_of_ble_eq_true rfl) (fun v_1 w_1 hP_1 hlen_1 => ?_)
  rcases hP_1 with ⟨hc, hv_1, Lw⟩ | ⟨hc, hv_1, Lw⟩ | ⟨hc, hv_1, Lw⟩
  · have f1 : ∀ z, (z < 0 ∨ 0 + 88 < z) → z ≠ 101 → w_1[z]? = w[z]? := Lw.2.2
    have hm1 := hmd.frame (fun z _ _ => f1 z (by omega) (by omega))
    obtain ⟨fs1, hb1⟩ := hm1.ob
    obtain ⟨q1, hq1, hr1⟩ := Lw.2.1
    rw [hv_1]
    show Wp X (k + 2) (n + 12) w_1 [(0, .ref 2000000), (1, .ref 0), (2, .ref 89), (3, .ref 100), (4, .ref 101), (5, .int (nI (4 * q)))] [.int 0] 1484
    refine r_istore hC dL_law_1484 (by rw [hnl]; decide) (L' := [(6, .int 0), (0, .ref 2000000), (1, .ref 0), (2, .ref 89), (3, .ref 100), (4, .ref 101), (5, .int (nI (4 * q)))]) rfl ?_
    refine r_aload_n hC dL_law_1486 rfl (j := 3) rfl ?_
    refine r_aload_n hC dL_law_1487 rfl (j := 1) rfl ?_
    refine r_iload hC dL_law_1488 (j := 6) rfl ?_
    refine r_iconst hC dL_law_1490 (v := 1) (by decide) ?_
    refine r_iadd hC dL_law_1491 ?_
    rw [show nI (4 * q) + 1 = nI (4 * q + 1) from nI_add (4 * q) 1]
    refine r_ialdX hC dL_law_1492 (j := (4 * q + 1)) hX (mIx_nI (by omega) (by omega)) ?_
    
    refine r_callV hC (vs := [.int (xs (4 * q + 1))]) vL_law_1493 (sm_crownShare (d := d) (q := (xs (4 * q + 1))) hm1 hnp h25 hpos (fun h => (share_ok h).1)) hb1 rfl rfl (by omega) (by omega) (by omega) (Nat.le_of_ble_eq_true rfl) (fun v_2 w_2 hP_2 hlen_2 => ?_) (fun _ _ h => h.elim)
    rcases hP_2 with ⟨hm, hv_2, T_2⟩ | ⟨hm, hv_2, T_2⟩ | ⟨hm, hv_2, T_2⟩
    · have hqo2 := (T_2.2.2 101 (by omega)).trans hq1
      obtain ⟨fs2, hb2⟩ := T_2.1.ob
      rw [hv_2]
      show Wp X (k + 2) (n + 12) w_2 [(6, .int 0), (0, .ref 2000000), (1, .ref 0), (2, .ref 89), (3, .ref 100), (4, .ref 101), (5, .int (nI (4 * q)))] [.float (FP.fdiv (FP.i2f (hCnt (hOwnP f g (xs (4 * q + 1))) 25)) (FP.i2f (hCnt (hPeak f) 25)))] 1496
      refine r_fstore hC dL_law_1496 (by rw [hnl]; decide) (L' := [(7, .float (FP.fdiv (FP.i2f (hCnt (hOwnP f g (xs (4 * q + 1))) 25)) (FP.i2f (hCnt (hPeak f) 25)))), (6, .int 0), (0, .ref 2000000), (1, .ref 0), (2, .ref 89), (3, .ref 100), (4, .ref 101), (5, .int (nI (4 * q)))]) rfl ?_
      refine r_aload_n hC dL_law_1498 rfl (j := 4) rfl ?_
      refine r_callV hC (vs := []) vL_law_1499 (sm_thrown (d := d) T_2.1) hb2 rfl rfl (by omega) (by omega) (by omega) (Nat.le_of_ble_eq_true rfl) (fun v_11 w_11 hP_11 hlen_11 => ?_) (fun _ _ h => h.elim)
      rw [hP_11.1, hP_11.2]
      show Wp X (k + 2) (n + 12) w_2 [(7, .float (FP.fdiv (FP.i2f (hCnt (hOwnP f g (xs (4 * q + 1))) 25)) (FP.i2f (hCnt (hPeak f) 25)))), (6, .int 0), (0, .ref 2000000), (1, .ref 0), (2, .ref 89), (3, .ref 100), (4, .ref 101), (5, .int (nI (4 * q)))] [.int 0] 1502
      refine r_iload hC dL_law_1502 (j := 1) rfl ?_
      refine r_icmp_eq hC dL_law_1504 (tgt := 1509) (by decide) (fun _ => ?_) (fun h => absurd (by decide) h)
      refine r_iload hC dL_law_1509 (j := 1) rfl ?_
      refine r_if_ne hC dL_law_1511 (tgt := 1547) (by decide) (fun h => absurd (by decide) h) (fun _ => ?_)
      refine r_aload hC dL_law_1514 (j := 6) rfl ?_
      refine r_iconst hC dL_law_1516 (v := 0) (by decide) ?_
      refine r_dald hC dL_law_1517 (j := 0) hqo2 ⟨by decide, by decide, by decide⟩ ?_
      rw [hr1]
      refine r_fload hC dL_law_1518 (j := 0) rfl ?_
      refine r_f2d hC dL_law_1520 (share_ok hc.2).2 ?_
      refine r_dcmp hC dL_law_1521 ?_
      rw [dcmp_eq (share_ok hc.2).2]
      refine r_if_eq hC dL_law_1522 (tgt := 1547) (by decide) (fun _ => ?_) (fun h => absurd (by decide) h)
      refine r_goto hC dL_law_1547 (tgt := 2109) (by decide) ?_
      refine r_locals [2, 3, 4, 5, 6, 7] (L' := [(0, .ref 2000000), (1, .ref 0), (2, .ref 89), (3, .ref 100), (4, .ref 101), (5, .int (nI (4 * q)))]) rfl ?_
      exact Wp.wid (by omega) (by omega) (kk w_2 (hlen_2.trans hlen_1) (J9.step Lw.1 (fun z h1 h2 h3 => f1 z h1 h3) ⟨qo, (f1 100 (by omega) (by omega)).trans hqo⟩ ⟨q1, hq1⟩ T_2 (hOK)))
    · exfalso
      first | exact absurd hc hm | exact absurd hm hc | (rw [hc] at hm; cases hm; done) | (rw [hc.1] at hm; cases hm; done) | (rw [hc] at hm; exact absurd hm.1 (by decide)) | (rw [hc.1] at hm; exact absurd hm.1 (by decide)) | exact absurd hm.2 hc.2 | exact absurd hc.2 hm.2 | (have h9 := hm.2; rw [hc.2] at h9; cases h9; done)
    · exfalso
      first | exact absurd hc hm | exact absurd hm hc | (rw [hc] at hm; cases hm; done) | (rw [hc.1] at hm; cases hm; done) | (rw [hc] at hm; exact absurd hm.1 (by decide)) | (rw [hc.1] at hm; exact absurd hm.1 (by decide)) | exact absurd hm.2 hc.2 | exact absurd hc.2 hm.2 | (have h9 := hm.2; rw [hc.2] at h9; cases h9; done)
  · have f1 : ∀ z, (z < 0 ∨ 0 + 88 < z) → z ≠ 101 → w_1[z]? = w[z]? := Lw.2.2
    have hm1 := hmd.frame (fun z _ _ => f1 z (by omega) (by omega))
    obtain ⟨fs1, hb1⟩ := hm1.ob
    obtain ⟨q1, hq1⟩ := Lw.2.1
    rw [hv_1]
    show Wp X (k + 2) (n + 12) w_1 [(0, .ref 2000000), (1, .ref 0), (2, .ref 89), (3, .ref 100), (4, .ref 101), (5, .int (nI (4 * q)))] [.int 1] 1484
    refine r_istore hC dL_law_1484 (by rw [hnl]; decide) (L' := [(6, .int 1), (0, .ref 2000000), (1, .ref 0), (2, .ref 89), (3, .ref 100), (4, .ref 101), (5, .int (nI (4 * q)))]) rfl ?_
    refine r_aload_n hC dL_law_1486 rfl (j := 3) rfl ?_
    refine r_aload_n hC dL_law_1487 rfl (j := 1) rfl ?_
    refine r_iload hC dL_law_1488 (j := 6) rfl ?_
    refine r_iconst hC dL_law_1490 (v := 1) (by decide) ?_
    refine r_iadd hC dL_law_1491 ?_
    rw [show nI (4 * q) + 1 = nI (4 * q + 1) from nI_add (4 * q) 1]
    refine r_ialdX hC dL_law_1492 (j := (4 * q + 1)) hX (mIx_nI (by omega) (by omega)) ?_
    
    refine r_callV hC (vs := [.int (xs (4 * q + 1))]) vL_law_1493 (sm_crownShare (d := d) (q := (xs (4 * q + 1))) hm1 hnp h25 hpos (fun h => (share_ok h).1)) hb1 rfl rfl (by omega) (by omega) (by omega) (Nat.le_of_ble_eq_true rfl) (fun v_2 w_2 hP_2 hlen_2 => ?_) (fun _ _ h => h.elim)
    rcases hP_2 with ⟨hm, hv_2, T_2⟩ | ⟨hm, hv_2, T_2⟩ | ⟨hm, hv_2, T_2⟩
    · exfalso
      first | exact absurd hc hm | exact absurd hm hc | (rw [hc] at hm; cases hm; done) | (rw [hc.1] at hm; cases hm; done) | (rw [hc] at hm; exact absurd hm.1 (by decide)) | (rw [hc.1] at hm; exact absurd hm.1 (by decide)) | exact absurd hm.2 hc.2 | exact absurd hc.2 hm.2 | (have h9 := hm.2; rw [hc.2] at h9; cases h9; done)
    · exfalso
      first | exact absurd hc hm | exact absurd hm hc | (rw [hc] at hm; cases hm; done) | (rw [hc.1] at hm; cases hm; done) | (rw [hc] at hm; exact absurd hm.1 (by decide)) | (rw [hc.1] at hm; exact absurd hm.1 (by decide)) | exact absurd hm.2 hc.2 | exact absurd hc.2 hm.2 | (have h9 := hm.2; rw [hc.2] at h9; cases h9; done)
    · have hqo2 := (T_2.2.2 101 (by omega)).trans hq1
      obtain ⟨fs2, hb2⟩ := T_2.1.ob
      rw [hv_2]
      show Wp X (k + 2) (n + 12) w_2 [(6, .int 1), (0, .ref 2000000), (1, .ref 0), (2, .ref 89), (3, .ref 100), (4, .ref 101), (5, .int (nI (4 * q)))] [.float 0] 1496
      refine r_fstore hC dL_law_1496 (by rw [hnl]; decide) (L' := [(7, .float 0), (6, .int 1), (0, .ref 2000000), (1, .ref 0), (2, .ref 89), (3, .ref 100), (4, .ref 101), (5, .int (nI (4 * q)))]) rfl ?_
      refine r_aload_n hC dL_law_1498 rfl (j := 4) rfl ?_
      refine r_callV hC (vs := []) vL_law_1499 (sm_thrown (d := d) T_2.1) hb2 rfl rfl (by omega) (by omega) (by omega) (Nat.le_of_ble_eq_true rfl) (fun v_11 w_11 hP_11 hlen_11 => ?_) (fun _ _ h => h.elim)
      rw [hP_11.1, hP_11.2]
      show Wp X (k + 2) (n + 12) w_2 [(7, .float 0), (6, .int 1), (0, .ref 2000000), (1, .ref 0), (2, .ref 89), (3, .ref 100), (4, .ref 101), (5, .int (nI (4 * q)))] [.int 1] 1502
      refine r_iload hC dL_law_1502 (j := 1) rfl ?_
      refine r_icmp_eq hC dL_law_1504 (tgt := 1509) (by decide) (fun _ => ?_) (fun h => absurd (by decide) h)
      refine r_iload hC dL_law_1509 (j := 1) rfl ?_
      refine r_if_ne hC dL_law_1511 (tgt := 1547) (by decide) (fun _ => ?_) (fun h => absurd h (by decide))
      refine r_goto hC dL_law_1547 (tgt := 2109) (by decide) ?_
      refine r_locals [2, 3, 4, 5, 6, 7] (L' := [(0, .ref 2000000), (1, .ref 0), (2, .ref 89), (3, .ref 100), (4, .ref 101), (5, .int (nI (4 * q)))]) rfl ?_
      exact Wp.wid (by omega) (by omega) (kk w_2 (hlen_2.trans hlen_1) (J9.step Lw.1 (fun z h1 h2 h3 => f1 z h1 h3) ⟨qo, (f1 100 (by omega) (by omega)).trans hqo⟩ ⟨q1, hq1⟩ T_2 (hOK)))
  · have f1 : ∀ z, (z < 0 ∨ 0 + 88 < z) → z ≠ 101 → w_1[z]? = w[z]? := Lw.2.2
    have hm1 := hmd.frame (fun z _ _ => f1 z (by omega) (by omega))
    obtain ⟨fs1, hb1⟩ := hm1.ob
    obtain ⟨q1, hq1⟩ := Lw.2.1
    rw [hv_1]
    show Wp X (k + 2) (n + 12) w_1 [(0, .ref 2000000), (1, .ref 0), (2, .ref 89), (3, .ref 100), (4, .ref 101), (5, .int (nI (4 * q)))] [.int 2] 1484
    refine r_istore hC dL_law_1484 (by rw [hnl]; decide) (L' := [(6, .int 2), (0, .ref 2000000), (1, .ref 0), (2, .ref 89), (3, .ref 100), (4, .ref 101), (5, .int (nI (4 * q)))]) rfl ?_
    refine r_aload_n hC dL_law_1486 rfl (j := 3) rfl ?_
    refine r_aload_n hC dL_law_1487 rfl (j := 1) rfl ?_
    refine r_iload hC dL_law_1488 (j := 6) rfl ?_
    refine r_iconst hC dL_law_1490 (v := 1) (by decide) ?_
    refine r_iadd hC dL_law_1491 ?_
    rw [show nI (4 * q) + 1 = nI (4 * q + 1) from nI_add (4 * q) 1]
    refine r_ialdX hC dL_law_1492 (j := (4 * q + 1)) hX (mIx_nI (by omega) (by omega)) ?_
    
    refine r_callV hC (vs := [.int (xs (4 * q + 1))]) vL_law_1493 (sm_crownShare (d := d) (q := (xs (4 * q + 1))) hm1 hnp h25 hpos (fun h => (share_ok h).1)) hb1 rfl rfl (by omega) (by omega) (by omega) (Nat.le_of_ble_eq_true rfl) (fun v_2 w_2 hP_2 hlen_2 => ?_) (fun _ _ h => h.elim)
    rcases hP_2 with ⟨hm, hv_2, T_2⟩ | ⟨hm, hv_2, T_2⟩ | ⟨hm, hv_2, T_2⟩
    · exfalso
      first | exact absurd hc hm | exact absurd hm hc | (rw [hc] at hm; cases hm; done) | (rw [hc.1] at hm; cases hm; done) | (rw [hc] at hm; exact absurd hm.1 (by decide)) | (rw [hc.1] at hm; exact absurd hm.1 (by decide)) | exact absurd hm.2 hc.2 | exact absurd hc.2 hm.2 | (have h9 := hm.2; rw [hc.2] at h9; cases h9; done)
    · have hqo2 := (T_2.2.2 101 (by omega)).trans hq1
      obtain ⟨fs2, hb2⟩ := T_2.1.ob
      rw [hv_2]
      show Wp X (k + 2) (n + 12) w_2 [(6, .int 2), (0, .ref 2000000), (1, .ref 0), (2, .ref 89), (3, .ref 100), (4, .ref 101), (5, .int (nI (4 * q)))] [.float 0] 1496
      refine r_fstore hC dL_law_1496 (by rw [hnl]; decide) (L' := [(7, .float 0), (6, .int 2), (0, .ref 2000000), (1, .ref 0), (2, .ref 89), (3, .ref 100), (4, .ref 101), (5, .int (nI (4 * q)))]) rfl ?_
      refine r_aload_n hC dL_law_1498 rfl (j := 4) rfl ?_
      refine r_callV hC (vs := []) vL_law_1499 (sm_thrown (d := d) T_2.1) hb2 rfl rfl (by omega) (by omega) (by omega) (Nat.le_of_ble_eq_true rfl) (fun v_11 w_11 hP_11 hlen_11 => ?_) (fun _ _ h => h.elim)
      rw [hP_11.1, hP_11.2]
      show Wp X (k + 2) (n + 12) w_2 [(7, .float 0), (6, .int 2), (0, .ref 2000000), (1, .ref 0), (2, .ref 89), (3, .ref 100), (4, .ref 101), (5, .int (nI (4 * q)))] [.int 2] 1502
      refine r_iload hC dL_law_1502 (j := 1) rfl ?_
      refine r_icmp_eq hC dL_law_1504 (tgt := 1509) (by decide) (fun _ => ?_) (fun h => absurd (by decide) h)
      refine r_iload hC dL_law_1509 (j := 1) rfl ?_
      refine r_if_ne hC dL_law_1511 (tgt := 1547) (by decide) (fun _ => ?_) (fun h => absurd h (by decide))
      refine r_goto hC dL_law_1547 (tgt := 2109) (by decide) ?_
      refine r_locals [2, 3, 4, 5, 6, 7] (L' := [(0, .ref 2000000), (1, .ref 0), (2, .ref 89), (3, .ref 100), (4, .ref 101), (5, .int (nI (4 * q)))]) rfl ?_
      exact Wp.wid (by omega) (by omega) (kk w_2 (hlen_2.trans hlen_1) (J9.step Lw.1 (fun z h1 h2 h3 => f1 z h1 h3) ⟨qo, (f1 100 (by omega) (by omega)).trans hqo⟩ ⟨q1, hq1⟩ T_2 (hOK)))
    · exfalso
      first | exact absurd hc hm | exact absurd hm hc | (rw [hc] at hm; cases hm; done) | (rw [hc.1] at hm; cases hm; done) | (rw [hc] at hm; exact absurd hm.1 (by decide)) | (rw [hc.1] at hm; exact absurd hm.1 (by decide)) | exact absurd hm.2 hc.2 | exact absurd hc.2 hm.2 | (have h9 := hm.2; rw [hc.2] at h9; cases h9; done)
set_option maxRecDepth 100000 in
set_option maxHeartbeats 4000000 in
theorem op_40 {X : mC} {d q mc ms k n : Nat} {w : mW} {N : Nat} {xs : Nat → Int32} {th : Int32} {f g : Nat → Int32} {sl op lo : Int32} {hd rs : Nat → Int32} {np : Nat} {tp av lg pl tk : Int32} {l : List sv} {ea fa : Int32} {so : Option sv} {txl lnl : List Nat} {tx : Nat → Int32} {tn : Nat} {lf : Nat → Int32} {ln : Nat} (hX : mScr X N xs) (J : JI w th ((f, g, sl, op, lo), hd, rs, np, tp, av, lg, pl, tk) l ea fa so txl lnl tx tn lf ln) (hC : Cx X RL cL_law (d + 12) mc ms) (hnl : mNL X = 9) (hq : 4 * q + 4 ≤ N) (hN : N ≤ 2048) (hk : k + 25 ≤ mc) (hn : n + 3100 ≤ ms) (kk : ∀ w', w'.length = w.length → JV w' → Wp X (k + 25) (n + 3100) w' [(0, .ref 2000000), (1, .ref 0), (2, .ref 89), (3, .ref 100), (4, .ref 101), (5, .int (nI (4 * q)))] [] 2109)  : Wp X k n w [(0, .ref 2000000), (1, .ref 0), (2, .ref 89), (3, .ref 100), (4, .ref 101), (5, .int (nI (4 * q)))] [] 1930 := by
  have J9 := J
  obtain ⟨hct, hmd, ⟨qo, hqo⟩, ⟨qd, hqd⟩, hOK⟩ := J
  have hI : SInv ((f, g, sl, op, lo), hd, rs, np, tp, av, lg, pl, tk) := hOK.2.2.1
  have hnp : np ≤ 4 := hI.2.2
  have h25 : f 25 = 0 := hI.1.2.1
  have hop : op = 0 ∨ op = 1 := hI.1.2.2.1
  have hpos : ∀ j, j < 25 → ¬ f j < 0 := hI.1.1.1
  have hlg : ¬ lg < 0 := hI.2.1
  have hea := hOK.2.2.2.2.2.2.2.2.1
  have hfa := hOK.2.2.2.2.2.2.2.2.2
  obtain ⟨fc0, hc0⟩ := hct.ob
  obtain ⟨fm0, hm0⟩ := hmd.ob
  refine r_aload_n hC dL_law_1930 rfl (j := 1) rfl ?_
  refine r_aload hC dL_law_1931 (j := 4) rfl ?_
  
  refine r_callH hC (vs := [.ref 0, .ref 101]) wL_law_1933 (lw_meanAvalanche (d := d) hct hqd (Or.inr (by decide)) (fun h => vf_ddiv h)) rfl (by omega) (by omega) (by omega) (Nat.le_of_ble_eq_true rfl) (fun v_1 w_1 hP_1 hlen_1 => ?_)
  rcases hP_1 with ⟨hc, hv_1, Lw⟩ | ⟨hc, hv_1, Lw⟩
  · have f1 : ∀ z, (z < 0 ∨ 0 + 88 < z) → z ≠ 101 → w_1[z]? = w[z]? := Lw.2.2
    have hm1 := hmd.frame (fun z _ _ => f1 z (by omega) (by omega))
    obtain ⟨fs1, hb1⟩ := hm1.ob
    obtain ⟨q1, hq1, hr1⟩ := Lw.2.1
    rw [hv_1]
    show Wp X (k + 1) (n + 6) w_1 [(0, .ref 2000000), (1, .ref 0), (2, .ref 89), (3, .ref 100), (4, .ref 101), (5, .int (nI (4 * q)))] [.int 0] 1936
    refine r_istore hC dL_law_1936 (by rw [hnl]; decide) (L' := [(6, .int 0), (0, .ref 2000000), (1, .ref 0), (2, .ref 89), (3, .ref 100), (4, .ref 101), (5, .int (nI (4 * q)))]) rfl ?_
    refine r_aload_n hC dL_law_1938 rfl (j := 3) rfl ?_
    
    refine r_callV hC (vs := []) vL_law_1939 (sm_meanAvalanche (d := d) hm1 (fun h => vf_ddiv h)) hb1 rfl rfl (by omega) (by omega) (by omega) (Nat.le_of_ble_eq_true rfl) (fun v_2 w_2 hP_2 hlen_2 => ?_) (fun _ _ h => h.elim)
    rcases hP_2 with ⟨hm, hv_2, T_2⟩ | ⟨hm, hv_2, T_2⟩
    · have hqo2 := (T_2.2.2 101 (by omega)).trans hq1
      obtain ⟨fs2, hb2⟩ := T_2.1.ob
      rw [hv_2]
      show Wp X (k + 1) (n + 6) w_2 [(6, .int 0), (0, .ref 2000000), (1, .ref 0), (2, .ref 89), (3, .ref 100), (4, .ref 101), (5, .int (nI (4 * q)))] [.double (FP.ddiv (FP.i2d tp) (FP.i2d av))] 1942
      refine r_dstore hC dL_law_1942 (by rw [hnl]; decide) (L' := [(7, .double (FP.ddiv (FP.i2d tp) (FP.i2d av))), (6, .int 0), (0, .ref 2000000), (1, .ref 0), (2, .ref 89), (3, .ref 100), (4, .ref 101), (5, .int (nI (4 * q)))]) rfl ?_
      refine r_aload_n hC dL_law_1944 rfl (j := 4) rfl ?_
      refine r_callV hC (vs := []) vL_law_1945 (sm_thrown (d := d) T_2.1) hb2 rfl rfl (by omega) (by omega) (by omega) (Nat.le_of_ble_eq_true rfl) (fun v_11 w_11 hP_11 hlen_11 => ?_) (fun _ _ h => h.elim)
      rw [hP_11.1, hP_11.2]
      show Wp X (k + 1) (n + 6) w_2 [(7, .double (FP.ddiv (FP.i2d tp) (FP.i2d av))), (6, .int 0), (0, .ref 2000000), (1, .ref 0), (2, .ref 89), (3, .ref 100), (4, .ref 101), (5, .int (nI (4 * q)))] [.int 0] 1948
      refine r_iload hC dL_law_1948 (j := 1) rfl ?_
      refine r_icmp_eq hC dL_law_1950 (tgt := 1955) (by decide) (fun _ => ?_) (fun h => absurd (by decide) h)
      refine r_iload hC dL_law_1955 (j := 1) rfl ?_
      refine r_if_ne hC dL_law_1957 (tgt := 1992) (by decide) (fun h => absurd (by decide) h) (fun _ => ?_)
      refine r_aload hC dL_law_1960 (j := 6) rfl ?_
      refine r_iconst hC dL_law_1962 (v := 0) (by decide) ?_
      refine r_dald hC dL_law_1963 (j := 0) hqo2 ⟨by decide, by decide, by decide⟩ ?_
      rw [hr1]
      refine r_dload hC dL_law_1964 (j := 0) rfl ?_
      refine r_dcmp hC dL_law_1966 ?_
      rw [dcmp_eq (vf_ddiv hc)]
      refine r_if_eq hC dL_law_1967 (tgt := 1992) (by decide) (fun _ => ?_) (fun h => absurd (by decide) h)
      refine r_goto hC dL_law_1992 (tgt := 2109) (by decide) ?_
      refine r_locals [2, 3, 4, 5, 6, 7] (L' := [(0, .ref 2000000), (1, .ref 0), (2, .ref 89), (3, .ref 100), (4, .ref 101), (5, .int (nI (4 * q)))]) rfl ?_
      exact Wp.wid (by omega) (by omega) (kk w_2 (hlen_2.trans hlen_1) (J9.step Lw.1 (fun z h1 h2 h3 => f1 z h1 h3) ⟨qo, (f1 100 (by omega) (by omega)).trans hqo⟩ ⟨q1, hq1⟩ T_2 (hOK)))
    · exfalso
      first | exact absurd hc hm | exact absurd hm hc | (rw [hc] at hm; cases hm; done) | (rw [hc.1] at hm; cases hm; done) | (rw [hc] at hm; exact absurd hm.1 (by decide)) | (rw [hc.1] at hm; exact absurd hm.1 (by decide)) | exact absurd hm.2 hc.2 | exact absurd hc.2 hm.2 | (have h9 := hm.2; rw [hc.2] at h9; cases h9; done)
  · have f1 : ∀ z, (z < 0 ∨ 0 + 88 < z) → z ≠ 101 → w_1[z]? = w[z]? := Lw.2.2
    have hm1 := hmd.frame (fun z _ _ => f1 z (by omega) (by omega))
    obtain ⟨fs1, hb1⟩ := hm1.ob
    obtain ⟨q1, hq1⟩ := Lw.2.1
    rw [hv_1]
    show Wp X (k + 1) (n + 6) w_1 [(0, .ref 2000000), (1, .ref 0), (2, .ref 89), (3, .ref 100), (4, .ref 101), (5, .int (nI (4 * q)))] [.int 1] 1936
    refine r_istore hC dL_law_1936 (by rw [hnl]; decide) (L' := [(6, .int 1), (0, .ref 2000000), (1, .ref 0), (2, .ref 89), (3, .ref 100), (4, .ref 101), (5, .int (nI (4 * q)))]) rfl ?_
    refine r_aload_n hC dL_law_1938 rfl (j := 3) rfl ?_
    
    refine r_callV hC (vs := []) vL_law_1939 (sm_meanAvalanche (d := d) hm1 (fun h => vf_ddiv h)) hb1 rfl rfl (by omega) (by omega) (by omega) (Nat.le_of_ble_eq_true rfl) (fun v_2 w_2 hP_2 hlen_2 => ?_) (fun _ _ h => h.elim)
    rcases hP_2 with ⟨hm, hv_2, T_2⟩ | ⟨hm, hv_2, T_2⟩
    · exfalso
      first | exact absurd hc hm | exact absurd hm hc | (rw [hc] at hm; cases hm; done) | (rw [hc.1] at hm; cases hm; done) | (rw [hc] at hm; exact absurd hm.1 (by decide)) | (rw [hc.1] at hm; exact absurd hm.1 (by decide)) | exact absurd hm.2 hc.2 | exact absurd hc.2 hm.2 | (have h9 := hm.2; rw [hc.2] at h9; cases h9; done)
    · have hqo2 := (T_2.2.2 101 (by omega)).trans hq1
      obtain ⟨fs2, hb2⟩ := T_2.1.ob
      rw [hv_2]
      show Wp X (k + 1) (n + 6) w_2 [(6, .int 1), (0, .ref 2000000), (1, .ref 0), (2, .ref 89), (3, .ref 100), (4, .ref 101), (5, .int (nI (4 * q)))] [.double 0] 1942
      refine r_dstore hC dL_law_1942 (by rw [hnl]; decide) (L' := [(7, .double 0), (6, .int 1), (0, .ref 2000000), (1, .ref 0), (2, .ref 89), (3, .ref 100), (4, .ref 101), (5, .int (nI (4 * q)))]) rfl ?_
      refine r_aload_n hC dL_law_1944 rfl (j := 4) rfl ?_
      refine r_callV hC (vs := []) vL_law_1945 (sm_thrown (d := d) T_2.1) hb2 rfl rfl (by omega) (by omega) (by omega) (Nat.le_of_ble_eq_true rfl) (fun v_11 w_11 hP_11 hlen_11 => ?_) (fun _ _ h => h.elim)
      rw [hP_11.1, hP_11.2]
      show Wp X (k + 1) (n + 6) w_2 [(7, .double 0), (6, .int 1), (0, .ref 2000000), (1, .ref 0), (2, .ref 89), (3, .ref 100), (4, .ref 101), (5, .int (nI (4 * q)))] [.int 1] 1948
      refine r_iload hC dL_law_1948 (j := 1) rfl ?_
      refine r_icmp_eq hC dL_law_1950 (tgt := 1955) (by decide) (fun _ => ?_) (fun h => absurd (by decide) h)
      refine r_iload hC dL_law_1955 (j := 1) rfl ?_
      refine r_if_ne hC dL_law_1957 (tgt := 1992) (by decide) (fun _ => ?_) (fun h => absurd h (by decide))
      refine r_goto hC dL_law_1992 (tgt := 2109) (by decide) ?_
      refine r_locals [2, 3, 4, 5, 6, 7] (L' := [(0, .ref 2000000), (1, .ref 0), (2, .ref 89), (3, .ref 100), (4, .ref 101), (5, .int (nI (4 * q)))]) rfl ?_
      exact Wp.wid (by omega) (by omega) (kk w_2 (hlen_2.trans hlen_1) (J9.step Lw.1 (fun z h1 h2 h3 => f1 z h1 h3) ⟨qo, (f1 100 (by omega) (by omega)).trans hqo⟩ ⟨q1, hq1⟩ T_2 (hOK)))
end LP9
