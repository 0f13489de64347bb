section LP7
set_option maxRecDepth 100000 in
set_option maxHeartbeats 4000000 in
theorem op_38 {X : mC} {d q mc ms k n : Nat} {w : mW} {N : Nat} {xs : Nat → Int32} {th : Int32} {f g : Nat → Int32} {sl op lo : Int32} {hd rs : Nat → Int32} {np : Nat} {tp av lg pl tk : Int32} {l : List sv} {ea fa : Int32} {so : Option sv} {txl lnl : List Nat} {tx : Nat → Int32} {tn : Nat} {lf : Nat → Int32} {ln : Nat} (hX : mScr X N xs) (J : JI w th ((f, g, sl, op, lo), hd, rs, np, tp, av, lg, pl, tk) l ea fa so txl lnl tx tn lf ln) (hC : Cx X RL cL_law (d + 12) mc ms) (hnl : mNL X = 9) (hq : 4 * q + 4 ≤ N) (hN : N ≤ 2048) (hk : k + 25 ≤ mc) (hn : n + 3100 ≤ ms) (kk : ∀ w', w'.length = w.length → JV w' → Wp X (k + 25) (n + 3100) w' [(0, .ref 2000000), (1, .ref 0), (2, .ref 89), (3, .ref 100), (4, .ref 101), (5, .int (nI (4 * q)))] [] 2109)  : Wp X k n w [(0, .ref 2000000), (1, .ref 0), (2, .ref 89), (3, .ref 100), (4, .ref 101), (5, .int (nI (4 * q)))] [] 1818 := by
  have J9 := J
  obtain ⟨hct, hmd, ⟨qo, hqo⟩, ⟨qd, hqd⟩, hOK⟩ := J
  have hI : SInv ((f, g, sl, op, lo), hd, rs, np, tp, av, lg, pl, tk) := hOK.2.2.1
  have hnp : np ≤ 4 := hI.2.2
  have h25 : f 25 = 0 := hI.1.2.1
  have hop : op = 0 ∨ op = 1 := hI.1.2.2.1
  have hpos : ∀ j, j < 25 → ¬ f j < 0 := hI.1.1.1
  have hlg : ¬ lg < 0 := hI.2.1
  have hea := hOK.2.2.2.2.2.2.2.2.1
  have hfa := hOK.2.2.2.2.2.2.2.2.2
  obtain ⟨fc0, hc0⟩ := hct.ob
  obtain ⟨fm0, hm0⟩ := hmd.ob
  refine r_aload_n hC dL_law_1818 rfl (j := 1) rfl ?_
  refine r_aload_n hC dL_law_1819 rfl (j := 0) rfl ?_
  refine r_iload hC dL_law_1820 (j := 5) rfl ?_
  refine r_iconst hC dL_law_1822 (v := 1) (by decide) ?_
  refine r_iadd hC dL_law_1823 ?_
  rw [show nI (4 * q) + 1 = nI (4 * q + 1) from nI_add (4 * q) 1]
  refine r_ialdX hC dL_law_1824 (j := (4 * q + 1)) hX (mIx_nI (by omega) (by omega)) ?_
  refine r_aload_n hC dL_law_1825 rfl (j := 3) rfl ?_
  
  refine r_callH hC (vs := [.ref 0, .int (xs (4 * q + 1)), .ref 100]) wL_law_1826 (lw_describeRow (d := d) (i0 := (xs (4 * q + 1))) hct hqo (Or.inr (by decide)) (LnOK.of hI)) rfl (by omega) (by omega) (by omega) (Nat.le_of_ble_eq_true rfl) (fun v_1 w_1 hP_1 hlen_1 => ?_)
  rcases hP_1 with ⟨hc, hv_1, Lw⟩ | ⟨hc, hv_1, Lw⟩
  · have f1 : ∀ z, (z < 0 ∨ 0 + 88 < z) → z ≠ 100 → w_1[z]? = w[z]? := Lw.2.2
    have hm1 := hmd.frame (fun z _ _ => f1 z (by omega) (by omega))
    obtain ⟨fs1, hb1⟩ := hm1.ob
    obtain ⟨q1, hq1, hr1⟩ := Lw.2.1
    rw [hv_1]
    show Wp X (k + 21) (n + 3024) w_1 [(0, .ref 2000000), (1, .ref 0), (2, .ref 89), (3, .ref 100), (4, .ref 101), (5, .int (nI (4 * q)))] [.int 0] 1829
    refine r_istore hC dL_law_1829 (by rw [hnl]; decide) (L' := [(6, .int 0), (0, .ref 2000000), (1, .ref 0), (2, .ref 89), (3, .ref 100), (4, .ref 101), (5, .int (nI (4 * q)))]) rfl ?_
    refine r_aload_n hC dL_law_1831 rfl (j := 3) rfl ?_
    refine r_aload_n hC dL_law_1832 rfl (j := 1) rfl ?_
    refine r_iload hC dL_law_1833 (j := 6) rfl ?_
    refine r_iconst hC dL_law_1835 (v := 1) (by decide) ?_
    refine r_iadd hC dL_law_1836 ?_
    rw [show nI (4 * q) + 1 = nI (4 * q + 1) from nI_add (4 * q) 1]
    refine r_ialdX hC dL_law_1837 (j := (4 * q + 1)) hX (mIx_nI (by omega) (by omega)) ?_
    
    refine r_callV hC (vs := [.int (xs (4 * q + 1))]) vL_law_1838 (sm_describeRow (d := d) (x := (xs (4 * q + 1))) hm1 h25 hpos (LnOK.of hI).2.2 (LnOK.of hI).2.1) hb1 rfl rfl (by omega) (by omega) (by omega) (Nat.le_of_ble_eq_true rfl) (fun v_2 w_2 hP_2 hlen_2 => ?_) (fun _ _ h => h.elim)
    rcases hP_2 with ⟨hm, hv_2, T_2⟩ | ⟨hm, hv_2, T_2⟩
    · have hr : (xs (4 * q + 1)).toNatClampNeg < 5 := (isI_n (n := 5) (by decide) (show isI (xs (4 * q + 1)) 0 (nI 5 - 1) = true by rw [show nI 5 - 1 = 4 by decide]; exact hc)).1
      have eT := rowTx_N (LnOK.of hI) hr (c := 5) (Nat.le_refl 5)
      have el : (rowTx f g (xs (4 * q + 1)).toNatClampNeg 5).length = (rowN f g (xs (4 * q + 1)).toNatClampNeg 5).length := by
        have e9 : rowTx f g (xs (4 * q + 1)).toNatClampNeg 5 = (rowN f g (xs (4 * q + 1)).toNatClampNeg 5).map nI := eT
        rw [e9, List.length_map]
      rw [el] at hv_2 T_2
      have hLn : LnE (rowN f g (xs (4 * q + 1)).toNatClampNeg 5) (Ld lf (rowTx f g (xs (4 * q + 1)).toNatClampNeg 5)) (rowN f g (xs (4 * q + 1)).toNatClampNeg 5).length := ⟨rfl, fun j hj => by
        have e9 : rowTx f g (xs (4 * q + 1)).toNatClampNeg 5 = (rowN f g (xs (4 * q + 1)).toNatClampNeg 5).map nI := eT
        rw [Ld_at (by rw [el]; exact hj), e9, List.getD_eq_getElem?_getD, List.getElem?_map, List.getD_eq_getElem?_getD, List.getElem?_eq_getElem hj]
        rfl⟩
      have hL4 := rowN_len (f := f) (g := g) (r := (xs (4 * q + 1)).toNatClampNeg) (c := 5)
      have hqo2 := (T_2.2.2 100 (by omega)).trans hq1
      obtain ⟨fs2, hb2⟩ := T_2.1.ob
      rw [hv_2]
      show Wp X (k + 21) (n + 3024) w_2 [(6, .int 0), (0, .ref 2000000), (1, .ref 0), (2, .ref 89), (3, .ref 100), (4, .ref 101), (5, .int (nI (4 * q)))] [.int (nI (rowN f g (xs (4 * q + 1)).toNatClampNeg 5).length)] 1841
      refine r_istore hC dL_law_1841 (by rw [hnl]; decide) (L' := [(7, .int (nI (rowN f g (xs (4 * q + 1)).toNatClampNeg 5).length)), (6, .int 0), (0, .ref 2000000), (1, .ref 0), (2, .ref 89), (3, .ref 100), (4, .ref 101), (5, .int (nI (4 * q)))]) rfl ?_
      refine r_aload_n hC dL_law_1843 rfl (j := 4) rfl ?_
      refine r_callV hC (vs := []) vL_law_1844 (sm_thrown (d := d) T_2.1) hb2 rfl rfl (by omega) (by omega) (by omega) (Nat.le_of_ble_eq_true rfl) (fun v_11 w_11 hP_11 hlen_11 => ?_) (fun _ _ h => h.elim)
      rw [hP_11.1, hP_11.2]
      show Wp X (k + 21) (n + 3024) w_2 [(7, .int (nI (rowN f g (xs (4 * q + 1)).toNatClampNeg 5).length)), (6, .int 0), (0, .ref 2000000), (1, .ref 0), (2, .ref 89), (3, .ref 100), (4, .ref 101), (5, .int (nI (4 * q)))] [.int 0] 1847
      refine r_iload hC dL_law_1847 (j := 1) rfl ?_
      refine r_icmp_eq hC dL_law_1849 (tgt := 1854) (by decide) (fun _ => ?_) (fun h => absurd (by decide) h)
      refine r_iload hC dL_law_1854 (j := 1) rfl ?_
      refine r_if_ne hC dL_law_1856 (tgt := 1871) (by decide) (fun h => absurd (by decide) h) (fun _ => ?_)
      refine r_aload_n hC dL_law_1859 rfl (j := 5) rfl ?_
      refine r_iconst hC dL_law_1860 (v := 0) (by decide) ?_
      refine r_lald hC dL_law_1861 (j := 0) hqo2 ⟨by decide, by decide, by decide⟩ ?_
      rw [hr1]
      refine r_iload hC dL_law_1862 (j := 0) rfl ?_
      refine r_i2l hC dL_law_1864 rfl ?_
      refine r_lcmp hC dL_law_1865 ?_
      rw [cmp_self _]
      refine r_if_eq hC dL_law_1866 (tgt := 1871) (by decide) (fun _ => ?_) (fun h => absurd (by decide) h)
      refine r_goto hC dL_law_1871 (tgt := 2109) (by decide) ?_
      refine r_locals [2, 3, 4, 5, 6, 7] (L' := [(0, .ref 2000000), (1, .ref 0), (2, .ref 89), (3, .ref 100), (4, .ref 101), (5, .int (nI (4 * q)))]) rfl ?_
      exact Wp.wid (by omega) (by omega) (kk w_2 (hlen_2.trans hlen_1) (J9.step Lw.1 (fun z h1 h2 h3 => f1 z h1 h2) ⟨q1, hq1⟩ ⟨qd, (f1 101 (by omega) (by omega)).trans hqd⟩ T_2 (⟨hOK.1, hLn, hI, hOK.2.2.2.1, hOK.2.2.2.2.1, hOK.2.2.2.2.2.1, Nat.le_trans hL4 (by decide), rowN_ch (LnOK.of hI) hr (Nat.le_refl 5), hea, hfa⟩)))
    · exfalso
      first | exact absurd hc hm | exact absurd hm hc | (rw [hc] at hm; cases hm; done) | (rw [hc.1] at hm; cases hm; done) | (rw [hc] at hm; exact absurd hm.1 (by decide)) | (rw [hc.1] at hm; exact absurd hm.1 (by decide)) | exact absurd hm.2 hc.2 | exact absurd hc.2 hm.2 | (have h9 := hm.2; rw [hc.2] at h9; cases h9; done)
  · have f1 : ∀ z, (z < 0 ∨ 0 + 88 < z) → z ≠ 100 → w_1[z]? = w[z]? := Lw.2.2
    have hm1 := hmd.frame (fun z _ _ => f1 z (by omega) (by omega))
    obtain ⟨fs1, hb1⟩ := hm1.ob
    obtain ⟨q1, hq1⟩ := Lw.2.1
    rw [hv_1]
    show Wp X (k + 21) (n + 3024) w_1 [(0, .ref 2000000), (1, .ref 0), (2, .ref 89), (3, .ref 100), (4, .ref 101), (5, .int (nI (4 * q)))] [.int 1] 1829
    refine r_istore hC dL_law_1829 (by rw [hnl]; decide) (L' := [(6, .int 1), (0, .ref 2000000), (1, .ref 0), (2, .ref 89), (3, .ref 100), (4, .ref 101), (5, .int (nI (4 * q)))]) rfl ?_
    refine r_aload_n hC dL_law_1831 rfl (j := 3) rfl ?_
    refine r_aload_n hC dL_law_1832 rfl (j := 1) rfl ?_
    refine r_iload hC dL_law_1833 (j := 6) rfl ?_
    refine r_iconst hC dL_law_1835 (v := 1) (by decide) ?_
    refine r_iadd hC dL_law_1836 ?_
    rw [show nI (4 * q) + 1 = nI (4 * q + 1) from nI_add (4 * q) 1]
    refine r_ialdX hC dL_law_1837 (j := (4 * q + 1)) hX (mIx_nI (by omega) (by omega)) ?_
    
    refine r_callV hC (vs := [.int (xs (4 * q + 1))]) vL_law_1838 (sm_describeRow (d := d) (x := (xs (4 * q + 1))) hm1 h25 hpos (LnOK.of hI).2.2 (LnOK.of hI).2.1) hb1 rfl rfl (by omega) (by omega) (by omega) (Nat.le_of_ble_eq_true rfl) (fun v_2 w_2 hP_2 hlen_2 => ?_) (fun _ _ h => h.elim)
    rcases hP_2 with ⟨hm, hv_2, T_2⟩ | ⟨hm, hv_2, T_2⟩
    · exfalso
      first | exact absurd hc hm | exact absurd hm hc | (rw [hc] at hm; cases hm; done) | (rw [hc.1] at hm; cases hm; done) | (rw [hc] at hm; exact absurd hm.1 (by decide)) | (rw [hc.1] at hm; exact absurd hm.1 (by decide)) | exact absurd hm.2 hc.2 | exact absurd hc.2 hm.2 | (have h9 := hm.2; rw [hc.2] at h9; cases h9; done)
    · have hqo2 := (T_2.2.2 100 (by omega)).trans hq1
      obtain ⟨fs2, hb2⟩ := T_2.1.ob
      rw [hv_2]
      show Wp X (k + 21) (n + 3024) w_2 [(6, .int 1), (0, .ref 2000000), (1, .ref 0), (2, .ref 89), (3, .ref 100), (4, .ref 101), (5, .int (nI (4 * q)))] [.int 0] 1841
      refine r_istore hC dL_law_1841 (by rw [hnl]; decide) (L' := [(7, .int 0), (6, .int 1), (0, .ref 2000000), (1, .ref 0), (2, .ref 89), (3, .ref 100), (4, .ref 101), (5, .int (nI (4 * q)))]) rfl ?_
      refine r_aload_n hC dL_law_1843 rfl (j := 4) rfl ?_
      refine r_callV hC (vs := []) vL_law_1844 (sm_thrown (d := d) T_2.1) hb2 rfl rfl (by omega) (by omega) (by omega) (Nat.le_of_ble_eq_true rfl) (fun v_11 w_11 hP_11 hlen_11 => ?_) (fun _ _ h => h.elim)
      rw [hP_11.1, hP_11.2]
      show Wp X (k + 21) (n + 3024) w_2 [(7, .int 0), (6, .int 1), (0, .ref 2000000), (1, .ref 0), (2, .ref 89), (3, .ref 100), (4, .ref 101), (5, .int (nI (4 * q)))] [.int 1] 1847
      refine r_iload hC dL_law_1847 (j := 1) rfl ?_
      refine r_icmp_eq hC dL_law_1849 (tgt := 1854) (by decide) (fun _ => ?_) (fun h => absurd (by decide) h)
      refine r_iload hC dL_law_1854 (j := 1) rfl ?_
      refine r_if_ne hC dL_law_1856 (tgt := 1871) (by decide) (fun _ => ?_) (fun h => absurd h (by decide))
      refine r_goto hC dL_law_1871 (tgt := 2109) (by decide) ?_
      refine r_locals [2, 3, 4, 5, 6, 7] (L' := [(0, .ref 2000000), (1, .ref 0), (2, .ref 89), (3, .ref 100), (4, .ref 101), (5, .int (nI (4 * q)))]) rfl ?_
      exact Wp.wid (by omega) (by omega) (kk w_2 (hlen_2.trans hlen_1) (J9.step Lw.1 (fun z h1 h2 h3 => f1 z h1 h2) ⟨q1, hq1⟩ ⟨qd, (f1 101 (by omega) (by omega)).trans hqd⟩ T_2 (hOK)))
end LP7
