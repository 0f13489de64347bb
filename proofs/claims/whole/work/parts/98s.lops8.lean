section LP8
set_option maxRecDepth 100000 in
set_option maxHeartbeats 4000000 in
theorem op_39 {X : mC} {d q mc ms k n : Nat} {w : mW} {N : Nat} {xs : Nat → Int32} {th : Int32} {f g : Nat → Int32} {sl op lo : Int32} {hd rs : Nat → Int32} {np : Nat} {tp av lg pl tk : Int32} {l : List sv} {ea fa : Int32} {so : Option sv} {txl lnl : List Nat} {tx : Nat → Int32} {tn : Nat} {lf : Nat → Int32} {ln : Nat} (hX : mScr X N xs) (J : JI w th ((f, g, sl, op, lo), hd, rs, np, tp, av, lg, pl, tk) l ea fa so txl lnl tx tn lf ln) (hC : Cx X RL cL_law (d + 12) mc ms) (hnl : mNL X = 9) (hq : 4 * q + 4 ≤ N) (hN : N ≤ 2048) (hk : k + 25 ≤ mc) (hn : n + 3100 ≤ ms) (kk : ∀ w', w'.length = w.length → JV w' → Wp X (k + 25) (n + 3100) w' [(0, .ref 2000000), (1, .ref 0), (2, .ref 89), (3, .ref 100), (4, .ref 101), (5, .int (nI (4 * q)))] [] 2109)  : Wp X k n w [(0, .ref 2000000), (1, .ref 0), (2, .ref 89), (3, .ref 100), (4, .ref 101), (5, .int (nI (4 * q)))] [] 1874 := by
  have J9 := J
  obtain ⟨hct, hmd, ⟨qo, hqo⟩, ⟨qd, hqd⟩, hOK⟩ := J
  have hI : SInv ((f, g, sl, op, lo), hd, rs, np, tp, av, lg, pl, tk) := hOK.2.2.1
  have hnp : np ≤ 4 := hI.2.2
  have h25 : f 25 = 0 := hI.1.2.1
  have hop : op = 0 ∨ op = 1 := hI.1.2.2.1
  have hpos : ∀ j, j < 25 → ¬ f j < 0 := hI.1.1.1
  have hlg : ¬ lg < 0 := hI.2.1
  have hea := hOK.2.2.2.2.2.2.2.2.1
  have hfa := hOK.2.2.2.2.2.2.2.2.2
  obtain ⟨fc0, hc0⟩ := hct.ob
  obtain ⟨fm0, hm0⟩ := hmd.ob
  obtain ⟨eln, hlf⟩ := hOK.2.1
  subst eln
  have hl4 : lnl.length ≤ 40 := hOK.2.2.2.2.2.2.1
  have hch : ∀ j, j < lnl.length → lnl.getD j 0 < 128 := fun j hj => hOK.2.2.2.2.2.2.2.1 _ (by rw [List.getD_eq_getElem?_getD, List.getElem?_eq_getElem hj]; exact List.getElem_mem hj)
  refine r_aload_n hC dL_law_1874 rfl (j := 1) rfl ?_
  refine r_aload_n hC dL_law_1875 rfl (j := 0) rfl ?_
  refine r_iload hC dL_law_1876 (j := 5) rfl ?_
  refine r_iconst hC dL_law_1878 (v := 1) (by decide) ?_
  refine r_iadd hC dL_law_1879 ?_
  rw [show nI (4 * q) + 1 = nI (4 * q + 1) from nI_add (4 * q) 1]
  refine r_ialdX hC dL_law_1880 (j := (4 * q + 1)) hX (mIx_nI (by omega) (by omega)) ?_
  refine r_aload_n hC dL_law_1881 rfl (j := 3) rfl ?_
  
  refine r_callH hC (vs := [.ref 0, .int (xs (4 * q + 1)), .ref 100]) wL_law_1882 (lw_lineAt (d := d) (i := (xs (4 * q + 1))) hct hqo (Or.inr (by decide)) hl4 hch) rfl (by omega) (by omega) (by omega) (Nat.le_of_ble_eq_true rfl) (fun v_1 w_1 hP_1 hlen_1 => ?_)
  rcases hP_1 with ⟨hc, hv_1, Lw⟩ | ⟨hc, hv_1, Lw⟩
  · have f1 : ∀ z, (z < 0 ∨ 0 + 88 < z) → z ≠ 100 → w_1[z]? = w[z]? := Lw.2.2
    have hm1 := hmd.frame (fun z _ _ => f1 z (by omega) (by omega))
    obtain ⟨fs1, hb1⟩ := hm1.ob
    obtain ⟨q1, hq1, hr1⟩ := Lw.2.1
    rw [hv_1]
    show Wp X (k + 1) (n + 6) w_1 [(0, .ref 2000000), (1, .ref 0), (2, .ref 89), (3, .ref 100), (4, .ref 101), (5, .int (nI (4 * q)))] [.int 0] 1885
    refine r_istore hC dL_law_1885 (by rw [hnl]; decide) (L' := [(6, .int 0), (0, .ref 2000000), (1, .ref 0), (2, .ref 89), (3, .ref 100), (4, .ref 101), (5, .int (nI (4 * q)))]) rfl ?_
    refine r_aload_n hC dL_law_1887 rfl (j := 3) rfl ?_
    refine r_aload_n hC dL_law_1888 rfl (j := 1) rfl ?_
    refine r_iload hC dL_law_1889 (j := 6) rfl ?_
    refine r_iconst hC dL_law_1891 (v := 1) (by decide) ?_
    refine r_iadd hC dL_law_1892 ?_
    rw [show nI (4 * q) + 1 = nI (4 * q + 1) from nI_add (4 * q) 1]
    refine r_ialdX hC dL_law_1893 (j := (4 * q + 1)) hX (mIx_nI (by omega) (by omega)) ?_
    
    refine r_callV hC (vs := [.int (xs (4 * q + 1))]) vL_law_1894 (sm_lineAt (d := d) (x := (xs (4 * q + 1))) hm1 hl4 (fun j hj => ⟨_, hch j hj, hlf j hj⟩)) hb1 rfl rfl (by omega) (by omega) (by omega) (Nat.le_of_ble_eq_true rfl) (fun v_2 w_2 hP_2 hlen_2 => ?_) (fun _ _ h => h.elim)
    rcases hP_2 with ⟨hm, hv_2, T_2⟩ | ⟨hm, hv_2, T_2⟩
    · have eb : lf (xs (4 * q + 1)).toNatClampNeg = nI (lnl.getD (xs (4 * q + 1)).toNatClampNeg 0) := hlf _ (isI_n (by omega) hc).1
      rw [eb] at hv_2
      have hqo2 := (T_2.2.2 100 (by omega)).trans hq1
      obtain ⟨fs2, hb2⟩ := T_2.1.ob
      rw [hv_2]
      show Wp X (k + 1) (n + 6) w_2 [(6, .int 0), (0, .ref 2000000), (1, .ref 0), (2, .ref 89), (3, .ref 100), (4, .ref 101), (5, .int (nI (4 * q)))] [.int (nI (lnl.getD (xs (4 * q + 1)).toNatClampNeg 0))] 1897
      refine r_istore hC dL_law_1897 (by rw [hnl]; decide) (L' := [(7, .int (nI (lnl.getD (xs (4 * q + 1)).toNatClampNeg 0))), (6, .int 0), (0, .ref 2000000), (1, .ref 0), (2, .ref 89), (3, .ref 100), (4, .ref 101), (5, .int (nI (4 * q)))]) rfl ?_
      refine r_aload_n hC dL_law_1899 rfl (j := 4) rfl ?_
      refine r_callV hC (vs := []) vL_law_1900 (sm_thrown (d := d) T_2.1) hb2 rfl rfl (by omega) (by omega) (by omega) (Nat.le_of_ble_eq_true rfl) (fun v_11 w_11 hP_11 hlen_11 => ?_) (fun _ _ h => h.elim)
      rw [hP_11.1, hP_11.2]
      show Wp X (k + 1) (n + 6) w_2 [(7, .int (nI (lnl.getD (xs (4 * q + 1)).toNatClampNeg 0))), (6, .int 0), (0, .ref 2000000), (1, .ref 0), (2, .ref 89), (3, .ref 100), (4, .ref 101), (5, .int (nI (4 * q)))] [.int 0] 1903
      refine r_iload hC dL_law_1903 (j := 1) rfl ?_
      refine r_icmp_eq hC dL_law_1905 (tgt := 1910) (by decide) (fun _ => ?_) (fun h => absurd (by decide) h)
      refine r_iload hC dL_law_1910 (j := 1) rfl ?_
      refine r_if_ne hC dL_law_1912 (tgt := 1927) (by decide) (fun h => absurd (by decide) h) (fun _ => ?_)
      refine r_aload_n hC dL_law_1915 rfl (j := 5) rfl ?_
      refine r_iconst hC dL_law_1916 (v := 0) (by decide) ?_
      refine r_lald hC dL_law_1917 (j := 0) hqo2 ⟨by decide, by decide, by decide⟩ ?_
      rw [hr1]
      refine r_iload hC dL_law_1918 (j := 0) rfl ?_
      refine r_i2l hC dL_law_1920 rfl ?_
      refine r_lcmp hC dL_law_1921 ?_
      rw [cmp_self _]
      refine r_if_eq hC dL_law_1922 (tgt := 1927) (by decide) (fun _ => ?_) (fun h => absurd (by decide) h)
      refine r_goto hC dL_law_1927 (tgt := 2109) (by decide) ?_
      refine r_locals [2, 3, 4, 5, 6, 7] (L' := [(0, .ref 2000000), (1, .ref 0), (2, .ref 89), (3, .ref 100), (4, .ref 101), (5, .int (nI (4 * q)))]) rfl ?_
      exact Wp.wid (by omega) (by omega) (kk w_2 (hlen_2.trans hlen_1) (J9.step Lw.1 (fun z h1 h2 h3 => f1 z h1 h2) ⟨q1, hq1⟩ ⟨qd, (f1 101 (by omega) (by omega)).trans hqd⟩ T_2 (hOK)))
    · exfalso
      first | exact absurd hc hm | exact absurd hm hc | (rw [hc] at hm; cases hm; done) | (rw [hc.1] at hm; cases hm; done) | (rw [hc] at hm; exact absurd hm.1 (by decide)) | (rw [hc.1] at hm; exact absurd hm.1 (by decide)) | exact absurd hm.2 hc.2 | exact absurd hc.2 hm.2 | (have h9 := hm.2; rw [hc.2] at h9; cases h9; done)
  · have f1 : ∀ z, (z < 0 ∨ 0 + 88 < z) → z ≠ 100 → w_1[z]? = w[z]? := Lw.2.2
    have hm1 := hmd.frame (fun z _ _ => f1 z (by omega) (by omega))
    obtain ⟨fs1, hb1⟩ := hm1.ob
    obtain ⟨q1, hq1⟩ := Lw.2.1
    rw [hv_1]
    show Wp X (k + 1) (n + 6) w_1 [(0, .ref 2000000), (1, .ref 0), (2, .ref 89), (3, .ref 100), (4, .ref 101), (5, .int (nI (4 * q)))] [.int 1] 1885
    refine r_istore hC dL_law_1885 (by rw [hnl]; decide) (L' := [(6, .int 1), (0, .ref 2000000), (1, .ref 0), (2, .ref 89), (3, .ref 100), (4, .ref 101), (5, .int (nI (4 * q)))]) rfl ?_
    refine r_aload_n hC dL_law_1887 rfl (j := 3) rfl ?_
    refine r_aload_n hC dL_law_1888 rfl (j := 1) rfl ?_
    refine r_iload hC dL_law_1889 (j := 6) rfl ?_
    refine r_iconst hC dL_law_1891 (v := 1) (by decide) ?_
    refine r_iadd hC dL_law_1892 ?_
    rw [show nI (4 * q) + 1 = nI (4 * q + 1) from nI_add (4 * q) 1]
    refine r_ialdX hC dL_law_1893 (j := (4 * q + 1)) hX (mIx_nI (by omega) (by omega)) ?_
    
    refine r_callV hC (vs := [.int (xs (4 * q + 1))]) vL_law_1894 (sm_lineAt (d := d) (x := (xs (4 * q + 1))) hm1 hl4 (fun j hj => ⟨_, hch j hj, hlf j hj⟩)) hb1 rfl rfl (by omega) (by omega) (by omega) (Nat.le_of_ble_eq_true rfl) (fun v_2 w_2 hP_2 hlen_2 => ?_) (fun _ _ h => h.elim)
    rcases hP_2 with ⟨hm, hv_2, T_2⟩ | ⟨hm, hv_2, T_2⟩
    · exfalso
      first | exact absurd hc hm | exact absurd hm hc | (rw [hc] at hm; cases hm; done) | (rw [hc.1] at hm; cases hm; done) | (rw [hc] at hm; exact absurd hm.1 (by decide)) | (rw [hc.1] at hm; exact absurd hm.1 (by decide)) | exact absurd hm.2 hc.2 | exact absurd hc.2 hm.2 | (have h9 := hm.2; rw [hc.2] at h9; cases h9; done)
    · have hqo2 := (T_2.2.2 100 (by omega)).trans hq1
      obtain ⟨fs2, hb2⟩ := T_2.1.ob
      rw [hv_2]
      show Wp X (k + 1) (n + 6) w_2 [(6, .int 1), (0, .ref 2000000), (1, .ref 0), (2, .ref 89), (3, .ref 100), (4, .ref 101), (5, .int (nI (4 * q)))] [.int 97] 1897
      refine r_istore hC dL_law_1897 (by rw [hnl]; decide) (L' := [(7, .int 97), (6, .int 1), (0, .ref 2000000), (1, .ref 0), (2, .ref 89), (3, .ref 100), (4, .ref 101), (5, .int (nI (4 * q)))]) rfl ?_
      refine r_aload_n hC dL_law_1899 rfl (j := 4) rfl ?_
      refine r_callV hC (vs := []) vL_law_1900 (sm_thrown (d := d) T_2.1) hb2 rfl rfl (by omega) (by omega) (by omega) (Nat.le_of_ble_eq_true rfl) (fun v_11 w_11 hP_11 hlen_11 => ?_) (fun _ _ h => h.elim)
      rw [hP_11.1, hP_11.2]
      show Wp X (k + 1) (n + 6) w_2 [(7, .int 97), (6, .int 1), (0, .ref 2000000), (1, .ref 0), (2, .ref 89), (3, .ref 100), (4, .ref 101), (5, .int (nI (4 * q)))] [.int 1] 1903
      refine r_iload hC dL_law_1903 (j := 1) rfl ?_
      refine r_icmp_eq hC dL_law_1905 (tgt := 1910) (by decide) (fun _ => ?_) (fun h => absurd (by decide) h)
      refine r_iload hC dL_law_1910 (j := 1) rfl ?_
      refine r_if_ne hC dL_law_1912 (tgt := 1927) (by decide) (fun _ => ?_) (fun h => absurd h (by decide))
      refine r_goto hC dL_law_1927 (tgt := 2109) (by decide) ?_
      refine r_locals [2, 3, 4, 5, 6, 7] (L' := [(0, .ref 2000000), (1, .ref 0), (2, .ref 89), (3, .ref 100), (4, .ref 101), (5, .int (nI (4 * q)))]) rfl ?_
      exact Wp.wid (by omega) (by omega) (kk w_2 (hlen_2.trans hlen_1) (J9.step Lw.1 (fun z h1 h2 h3 => f1 z h1 h2) ⟨q1, hq1⟩ ⟨qd, (f1 101 (by omega) (by omega)).trans hqd⟩ T_2 (hOK)))
end LP8
