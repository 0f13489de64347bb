section HL5
/-- how many places below c have p -/
def hCnt (q : Nat → Bool) : Nat → Int32
  | 0 => 0
  | c + 1 => if q c then hCnt q c + 1 else hCnt q c
/-- the sum of f over the places below c that have p -/
def hSumIf (q : Nat → Bool) (f : Nat → Int32) : Nat → Int32
  | 0 => 0
  | c + 1 => if q c then hSumIf q f c + f c else hSumIf q f c
def hAheadP (f : Nat → Int32) (k c : Nat) : Bool := (decide (f k < f c) || (decide (f c = f k) && decide (c < k))) && hPeak f c
def hOwnP (f g : Nat → Int32) (t : Int32) (c : Nat) : Bool := decide (g c = t) && hPeak f c
theorem bI_0 {b : Bool} : bI b = 0 ↔ b = false := by cases b <;> decide
set_option maxRecDepth 100000 in
set_option maxHeartbeats 4000000 in
theorem cp_it {X : mC} {d : Nat} {c : Nat} {w : mW} {h a b : Nat} {f g : Nat → Int32} {sl op lo : Int32} (hC : Cx X RX4 cX4_countPeaks (d + 1) 0 0) (hnl : mNL X = 3) (H : HillAt w h a b (f, g, sl, op, lo)) (hc : c < 25) (kk : Wp X 0 0 w [(0, .ref h), (1, .int (hCnt (hPeak f) (c + 1))), (2, .int (nI (c + 1)))] [] 4) : Wp X 0 0 w [(0, .ref h), (1, .int (hCnt (hPeak f) c)), (2, .int (nI c))] [] 4 := by
  obtain ⟨nha, nhb, nab⟩ := H.ne
  have hh : w[h]? = some (mO 6 [.ref a, .ref b, .int sl, .int op, .int lo]) := H.1
  have ha : w[a]? = some (mI 0 26 f) := H.2.1
  have hb : w[b]? = some (mI 0 25 g) := H.2.2
  refine r_iload_n hC dX4_countPeaks_4 rfl (j := 2) rfl ?_
  refine r_bipush hC dX4_countPeaks_5 (v := 25) (by decide) ?_
  refine r_icmp_ge hC dX4_countPeaks_7 (tgt := 27) (by decide) (fun h => absurd h (lit_ge rfl hc (by decide))) (fun _ => ?_)
  refine r_aload_n hC dX4_countPeaks_10 rfl (j := 0) rfl ?_
  refine r_iload_n hC dX4_countPeaks_11 rfl (j := 2) rfl ?_
  refine r_callV hC (vs := [.int (nI c)]) vX4_countPeaks_12 (sp_peak (d := d) H hc) hh rfl rfl (by omega) (by omega) (by omega) (Nat.le_of_ble_eq_true rfl) (fun v_1 w_1 hP_1 hlen_1 => ?_) (fun _ _ h => h.elim)
  rw [hP_1.1, hP_1.2]
  show Wp X 0 0 w [(0, .ref h), (1, .int (hCnt (hPeak f) c)), (2, .int (nI c))] [.int (bI (hPeak f c))] 15
  refine r_if_eq hC dX4_countPeaks_15 (tgt := 21) (by decide) (fun c15 => ?_) (fun c15 => ?_)
  · refine r_iinc hC dX4_countPeaks_21 (j := 2) rfl (v := nI (c + 1)) (nI_succ c).symm (by rw [hnl]; decide) (L' := [(2, .int (nI (c + 1))), (0, .ref h), (1, .int (hCnt (hPeak f) c))]) rfl ?_
    refine r_goto hC dX4_countPeaks_24 (tgt := 4) (by decide) ?_
    refine r_locals [1, 2, 0] (L' := [(0, .ref h), (1, .int (hCnt (hPeak f) c)), (2, .int (nI (c + 1)))]) rfl ?_
    have e9 : hCnt (hPeak f) (c + 1) = hCnt (hPeak f) c := if_neg (by rw [bI_0.mp c15]; decide)
    rw [e9] at kk
    exact kk
  · refine r_iinc hC dX4_countPeaks_18 (j := 1) rfl (v := (hCnt (hPeak f) c) + 1) rfl (by rw [hnl]; decide) (L' := [(1, .int ((hCnt (hPeak f) c) + 1)), (0, .ref h), (2, .int (nI c))]) rfl ?_
    refine r_iinc hC dX4_countPeaks_21 (j := 2) rfl (v := nI (c + 1)) (nI_succ c).symm (by rw [hnl]; decide) (L' := [(2, .int (nI (c + 1))), (1, .int ((hCnt (hPeak f) c) + 1)), (0, .ref h)]) rfl ?_
    refine r_goto hC dX4_countPeaks_24 (tgt := 4) (by decide) ?_
    refine r_locals [2, 1, 0] (L' := [(0, .ref h), (1, .int ((hCnt (hPeak f) c) + 1)), (2, .int (nI (c + 1)))]) rfl ?_
    have e9 : hCnt (hPeak f) (c + 1) = hCnt (hPeak f) c + 1 := if_pos (by cases h9 : hPeak f c with | true => rfl | false => exact absurd (by rw [h9]; rfl) c15)
    rw [e9] at kk
    exact kk
set_option maxRecDepth 100000 in
theorem cp_all {X : mC} {d : Nat} {w : mW} {h a b : Nat} {f g : Nat → Int32} {sl op lo : Int32} (hC : Cx X RX4 cX4_countPeaks (d + 1) 0 0) (hnl : mNL X = 3) (H : HillAt w h a b (f, g, sl, op, lo)) (kk : Wp X 0 0 w [(0, .ref h), (1, .int (hCnt (hPeak f) 25)), (2, .int (nI 25))] [] 4) : ∀ n c : Nat, c + n = 25 → Wp X 0 0 w [(0, .ref h), (1, .int (hCnt (hPeak f) c)), (2, .int (nI c))] [] 4 := by
  intro n
  induction n with
  | zero =>
    intro c h9
    obtain rfl : c = 25 := by omega
    exact kk
  | succ n ih =>
    intro c h9
    exact cp_it hC hnl H (by omega) (ih (c + 1) (by omega))
set_option maxRecDepth 100000 in
set_option maxHeartbeats 4000000 in
theorem sp_peaks {d : Nat} {w : mW} {h a b : Nat} {f g : Nat → Int32} {sl op lo : Int32} (H : HillAt w h a b (f, g, sl, op, lo)) : Sp (d + 1) yX4_countPeaks cX4_countPeaks 3 (some .int) [.ref h] w 0 0 (fun v w' => v = some (.int (hCnt (hPeak f) 25)) ∧ w' = w) noX := by
  refine Sp.of (by decide +kernel) (Nat.le_of_ble_eq_true rfl) (fun X hC hnl hE hR hN => ?_)
  have hC : Cx X RX4 cX4_countPeaks (d + 1) 0 0 := hC
  show Wp X 0 0 w [(0, .ref h)] [] 0
  obtain ⟨nha, nhb, nab⟩ := H.ne
  have hh : w[h]? = some (mO 6 [.ref a, .ref b, .int sl, .int op, .int lo]) := H.1
  have ha : w[a]? = some (mI 0 26 f) := H.2.1
  have hb : w[b]? = some (mI 0 25 g) := H.2.2
  refine r_iconst hC dX4_countPeaks_0 (v := 0) (by decide) ?_
  refine r_istore_n hC dX4_countPeaks_1 rfl (by rw [hnl]; decide) (L' := [(1, .int 0), (0, .ref h)]) rfl ?_
  refine r_iconst hC dX4_countPeaks_2 (v := 0) (by decide) ?_
  refine r_istore_n hC dX4_countPeaks_3 rfl (by rw [hnl]; decide) (L' := [(2, .int 0), (1, .int 0), (0, .ref h)]) rfl ?_
  refine r_locals [2, 1, 0] (L' := [(0, .ref h), (1, .int 0), (2, .int 0)]) rfl ?_
  refine cp_all hC hnl H ?_ 25 0 rfl
  refine r_iload_n hC dX4_countPeaks_4 rfl (j := 2) rfl ?_
  refine r_bipush hC dX4_countPeaks_5 (v := 25) (by decide) ?_
  refine r_icmp_ge hC dX4_countPeaks_7 (tgt := 27) (by decide) (fun _ => ?_) (fun h => absurd (lit_le rfl (Nat.le_refl 25) (by decide)) h)
  refine r_iload_n hC dX4_countPeaks_27 rfl (j := 1) rfl ?_
  refine r_iret hC hE hR dX4_countPeaks_28 (by omega) (by omega) (rfl) ?_
  exact ⟨rfl, rfl⟩
set_option maxRecDepth 100000 in
set_option maxHeartbeats 4000000 in
theorem cpa_it {X : mC} {d : Nat} {c : Nat} {k : Nat} {w : mW} {h a b : Nat} {f g : Nat → Int32} {sl op lo : Int32} (hC : Cx X RX4 cX4_countPeaksAhead (d + 1) 0 0) (hnl : mNL X = 5) (H : HillAt w h a b (f, g, sl, op, lo)) (hk : k < 25) (hc : c < 25) (kk : Wp X 0 0 w [(0, .ref h), (1, .int (nI k)), (2, .int (hCnt (hAheadP f k) (c + 1))), (3, .int (nI (c + 1)))] [] 4) : Wp X 0 0 w [(0, .ref h), (1, .int (nI k)), (2, .int (hCnt (hAheadP f k) c)), (3, .int (nI c))] [] 4 := by
  obtain ⟨nha, nhb, nab⟩ := H.ne
  have hh : w[h]? = some (mO 6 [.ref a, .ref b, .int sl, .int op, .int lo]) := H.1
  have ha : w[a]? = some (mI 0 26 f) := H.2.1
  have hb : w[b]? = some (mI 0 25 g) := H.2.2
  refine r_iload_n hC dX4_countPeaksAhead_4 rfl (j := 3) rfl ?_
  refine r_bipush hC dX4_countPeaksAhead_5 (v := 25) (by decide) ?_
  refine r_icmp_ge hC dX4_countPeaksAhead_7 (tgt := 74) (by decide) (fun h => absurd h (lit_ge rfl hc (by decide))) (fun _ => ?_)
  refine r_aload_n hC dX4_countPeaksAhead_10 rfl (j := 0) rfl ?_
  refine r_get hC gX4_countPeaksAhead_11 hh (v := .ref a) rfl ?_
  refine r_iload_n hC dX4_countPeaksAhead_14 rfl (j := 3) rfl ?_
  refine r_iald hC dX4_countPeaksAhead_15 (j := c) ha (mIx_nI (by omega) (by decide)) ?_
  refine r_aload_n hC dX4_countPeaksAhead_16 rfl (j := 0) rfl ?_
  refine r_get hC gX4_countPeaksAhead_17 hh (v := .ref a) rfl ?_
  refine r_iload_n hC dX4_countPeaksAhead_20 rfl (j := 1) rfl ?_
  refine r_iald hC dX4_countPeaksAhead_21 (j := k) ha (mIx_nI (by omega) (by decide)) ?_
  refine r_icmp_gt hC dX4_countPeaksAhead_22 (tgt := 45) (by decide) (fun c22 => ?_) (fun c22 => ?_)
  · refine r_iconst hC dX4_countPeaksAhead_45 (v := 1) (by decide) ?_
    refine r_goto hC dX4_countPeaksAhead_46 (tgt := 50) (by decide) ?_
    refine r_istore hC dX4_countPeaksAhead_50 (by rw [hnl]; decide) (L' := [(4, .int 1), (0, .ref h), (1, .int (nI k)), (2, .int (hCnt (hAheadP f k) c)), (3, .int (nI c))]) rfl ?_
    refine r_iload hC dX4_countPeaksAhead_52 (j := 0) rfl ?_
    refine r_if_eq hC dX4_countPeaksAhead_54 (tgt := 68) (by decide) (fun h => absurd h (by decide)) (fun _ => ?_)
    refine r_aload_n hC dX4_countPeaksAhead_57 rfl (j := 1) rfl ?_
    refine r_iload_n hC dX4_countPeaksAhead_58 rfl (j := 4) rfl ?_
    refine r_callV hC (vs := [.int (nI c)]) vX4_countPeaksAhead_59 (sp_peak (d := d) H hc) hh rfl rfl (by omega) (by omega) (by omega) (Nat.le_of_ble_eq_true rfl) (fun v_1 w_1 hP_1 hlen_1 => ?_) (fun _ _ h => h.elim)
    rw [hP_1.1, hP_1.2]
    show Wp X 0 0 w [(4, .int 1), (0, .ref h), (1, .int (nI k)), (2, .int (hCnt (hAheadP f k) c)), (3, .int (nI c))] [.int (bI (hPeak f c))] 62
    refine r_if_eq hC dX4_countPeaksAhead_62 (tgt := 68) (by decide) (fun c62 => ?_) (fun c62 => ?_)
    · refine r_iinc hC dX4_countPeaksAhead_68 (j := 4) rfl (v := nI (c + 1)) (nI_succ c).symm (by rw [hnl]; decide) (L' := [(3, .int (nI (c + 1))), (4, .int 1), (0, .ref h), (1, .int (nI k)), (2, .int (hCnt (hAheadP f k) c))]) rfl ?_
      refine r_goto hC dX4_countPeaksAhead_71 (tgt := 4) (by decide) ?_
      refine r_locals [2, 3, 4, 0] (L' := [(0, .ref h), (1, .int (nI k)), (2, .int (hCnt (hAheadP f k) c)), (3, .int (nI (c + 1)))]) rfl ?_
      have h8 : hAheadP f k c = false := by
        have h62 : hPeak f c = false := bI_0.mp c62
        simp [hAheadP, h62, c22]
      have e9 : hCnt (hAheadP f k) (c + 1) = hCnt (hAheadP f k) c := if_neg (by rw [h8]; decide)
      rw [e9] at kk
      exact kk
    · refine r_iinc hC dX4_countPeaksAhead_65 (j := 3) rfl (v := (hCnt (hAheadP f k) c) + 1) rfl (by rw [hnl]; decide) (L' := [(2, .int ((hCnt (hAheadP f k) c) + 1)), (4, .int 1), (0, .ref h), (1, .int (nI k)), (3, .int (nI c))]) rfl ?_
      refine r_iinc hC dX4_countPeaksAhead_68 (j := 4) rfl (v := nI (c + 1)) (nI_succ c).symm (by rw [hnl]; decide) (L' := [(3, .int (nI (c + 1))), (2, .int ((hCnt (hAheadP f k) c) + 1)), (4, .int 1), (0, .ref h), (1, .int (nI k))]) rfl ?_
      refine r_goto hC dX4_countPeaksAhead_71 (tgt := 4) (by decide) ?_
      refine r_locals [3, 4, 1, 0] (L' := [(0, .ref h), (1, .int (nI k)), (2, .int ((hCnt (hAheadP f k) c) + 1)), (3, .int (nI (c + 1)))]) rfl ?_
      have h8 : hAheadP f k c = true := by
        have h62 : hPeak f c = true := by cases h9 : hPeak f c with | true => rfl | false => exact absurd (by rw [h9]; rfl) c62
        simp [hAheadP, h62, c22]
      have e9 : hCnt (hAheadP f k) (c + 1) = hCnt (hAheadP f k) c + 1 := if_pos h8
      rw [e9] at kk
      exact kk
  · refine r_aload_n hC dX4_countPeaksAhead_25 rfl (j := 0) rfl ?_
    refine r_get hC gX4_countPeaksAhead_26 hh (v := .ref a) rfl ?_
    refine r_iload_n hC dX4_countPeaksAhead_29 rfl (j := 3) rfl ?_
    refine r_iald hC dX4_countPeaksAhead_30 (j := c) ha (mIx_nI (by omega) (by decide)) ?_
    refine r_aload_n hC dX4_countPeaksAhead_31 rfl (j := 0) rfl ?_
    refine r_get hC gX4_countPeaksAhead_32 hh (v := .ref a) rfl ?_
    refine r_iload_n hC dX4_countPeaksAhead_35 rfl (j := 1) rfl ?_
    refine r_iald hC dX4_countPeaksAhead_36 (j := k) ha (mIx_nI (by omega) (by decide)) ?_
    refine r_icmp_ne hC dX4_countPeaksAhead_37 (tgt := 49) (by decide) (fun c37 => ?_) (fun c37 => ?_)
    · refine r_iconst hC dX4_countPeaksAhead_49 (v := 0) (by decide) ?_
      refine r_istore hC dX4_countPeaksAhead_50 (by rw [hnl]; decide) (L' := [(4, .int 0), (0, .ref h), (1, .int (nI k)), (2, .int (hCnt (hAheadP f k) c)), (3, .int (nI c))]) rfl ?_
      refine r_iload hC dX4_countPeaksAhead_52 (j := 0) rfl ?_
      refine r_if_eq hC dX4_countPeaksAhead_54 (tgt := 68) (by decide) (fun _ => ?_) (fun h => absurd (by decide) h)
      refine r_iinc hC dX4_countPeaksAhead_68 (j := 4) rfl (v := nI (c + 1)) (nI_succ c).symm (by rw [hnl]; decide) (L' := [(3, .int (nI (c + 1))), (4, .int 0), (0, .ref h), (1, .int (nI k)), (2, .int (hCnt (hAheadP f k) c))]) rfl ?_
      refine r_goto hC dX4_countPeaksAhead_71 (tgt := 4) (by decide) ?_
      refine r_locals [2, 3, 4, 0] (L' := [(0, .ref h), (1, .int (nI k)), (2, .int (hCnt (hAheadP f k) c)), (3, .int (nI (c + 1)))]) rfl ?_
      have h8 : hAheadP f k c = false := by
        simp [hAheadP, c22, c37]
      have e9 : hCnt (hAheadP f k) (c + 1) = hCnt (hAheadP f k) c := if_neg (by rw [h8]; decide)
      rw [e9] at kk
      exact kk
    · refine r_iload_n hC dX4_countPeaksAhead_40 rfl (j := 3) rfl ?_
      refine r_iload_n hC dX4_countPeaksAhead_41 rfl (j := 1) rfl ?_
      refine r_icmp_ge hC dX4_countPeaksAhead_42 (tgt := 49) (by decide) (fun c42 => ?_) (fun c42 => ?_)
      · refine r_iconst hC dX4_countPeaksAhead_49 (v := 0) (by decide) ?_
        refine r_istore hC dX4_countPeaksAhead_50 (by rw [hnl]; decide) (L' := [(4, .int 0), (0, .ref h), (1, .int (nI k)), (2, .int (hCnt (hAheadP f k) c)), (3, .int (nI c))]) rfl ?_
        refine r_iload hC dX4_countPeaksAhead_52 (j := 0) rfl ?_
        refine r_if_eq hC dX4_countPeaksAhead_54 (tgt := 68) (by decide) (fun _ => ?_) (fun h => absurd (by decide) h)
        refine r_iinc hC dX4_countPeaksAhead_68 (j := 4) rfl (v := nI (c + 1)) (nI_succ c).symm (by rw [hnl]; decide) (L' := [(3, .int (nI (c + 1))), (4, .int 0), (0, .ref h), (1, .int (nI k)), (2, .int (hCnt (hAheadP f k) c))]) rfl ?_
        refine r_goto hC dX4_countPeaksAhead_71 (tgt := 4) (by decide) ?_
        refine r_locals [2, 3, 4, 0] (L' := [(0, .ref h), (1, .int (nI k)), (2, .int (hCnt (hAheadP f k) c)), (3, .int (nI (c + 1)))]) rfl ?_
        have h8 : hAheadP f k c = false := by
          have h42 : ¬ c < k := fun q => absurd c42 (nI_ge q (by omega))
          simp [hAheadP, h42, c22, c37]
        have e9 : hCnt (hAheadP f k) (c + 1) = hCnt (hAheadP f k) c := if_neg (by rw [h8]; decide)
        rw [e9] at kk
        exact kk
      · refine r_iconst hC dX4_countPeaksAhead_45 (v := 1) (by decide) ?_
        refine r_goto hC dX4_countPeaksAhead_46 (tgt := 50) (by decide) ?_
        refine r_istore hC dX4_countPeaksAhead_50 (by rw [hnl]; decide) (L' := [(4, .int 1), (0, .ref h), (1, .int (nI k)), (2, .int (hCnt (hAheadP f k) c)), (3, .int (nI c))]) rfl ?_
        refine r_iload hC dX4_countPeaksAhead_52 (j := 0) rfl ?_
        refine r_if_eq hC dX4_countPeaksAhead_54 (tgt := 68) (by decide) (fun h => absurd h (by decide)) (fun _ => ?_)
        refine r_aload_n hC dX4_countPeaksAhead_57 rfl (j := 1) rfl ?_
        refine r_iload_n hC dX4_countPeaksAhead_58 rfl (j := 4) rfl ?_
        refine r_callV hC (vs := [.int (nI c)]) vX4_countPeaksAhead_59 (sp_peak (d := d) H hc) hh rfl rfl (by omega) (by omega) (by omega) (Nat.le_of_ble_eq_true rfl) (fun v_2 w_2 hP_2 hlen_2 => ?_) (fun _ _ h => h.elim)
        rw [hP_2.1, hP_2.2]
        show Wp X 0 0 w [(4, .int 1), (0, .ref h), (1, .int (nI k)), (2, .int (hCnt (hAheadP f k) c)), (3, .int (nI c))] [.int (bI (hPeak f c))] 62
        refine r_if_eq hC dX4_countPeaksAhead_62 (tgt := 68) (by decide) (fun c62 => ?_) (fun c62 => ?_)
        · refine r_iinc hC dX4_countPeaksAhead_68 (j := 4) rfl (v := nI (c + 1)) (nI_succ c).symm (by rw [hnl]; decide) (L' := [(3, .int (nI (c + 1))), (4, .int 1), (0, .ref h), (1, .int (nI k)), (2, .int (hCnt (hAheadP f k) c))]) rfl ?_
          refine r_goto hC dX4_countPeaksAhead_71 (tgt := 4) (by decide) ?_
          refine r_locals [2, 3, 4, 0] (L' := [(0, .ref h), (1, .int (nI k)), (2, .int (hCnt (hAheadP f k) c)), (3, .int (nI (c + 1)))]) rfl ?_
          have h8 : hAheadP f k c = false := by
            have h42 : c < k := (Nat.lt_of_not_le (fun q => c42 (nI_le q (by omega))))
            have h62 : hPeak f c = false := bI_0.mp c62
            simp [hAheadP, h42, h62, c22, c37]
          have e9 : hCnt (hAheadP f k) (c + 1) = hCnt (hAheadP f k) c := if_neg (by rw [h8]; decide)
          rw [e9] at kk
          exact kk
        · refine r_iinc hC dX4_countPeaksAhead_65 (j := 3) rfl (v := (hCnt (hAheadP f k) c) + 1) rfl (by rw [hnl]; decide) (L' := [(2, .int ((hCnt (hAheadP f k) c) + 1)), (4, .int 1), (0, .ref h), (1, .int (nI k)), (3, .int (nI c))]) rfl ?_
          refine r_iinc hC dX4_countPeaksAhead_68 (j := 4) rfl (v := nI (c + 1)) (nI_succ c).symm (by rw [hnl]; decide) (L' := [(3, .int (nI (c + 1))), (2, .int ((hCnt (hAheadP f k) c) + 1)), (4, .int 1), (0, .ref h), (1, .int (nI k))]) rfl ?_
          refine r_goto hC dX4_countPeaksAhead_71 (tgt := 4) (by decide) ?_
          refine r_locals [3, 4, 1, 0] (L' := [(0, .ref h), (1, .int (nI k)), (2, .int ((hCnt (hAheadP f k) c) + 1)), (3, .int (nI (c + 1)))]) rfl ?_
          have h8 : hAheadP f k c = true := by
            have h42 : c < k := (Nat.lt_of_not_le (fun q => c42 (nI_le q (by omega))))
            have h62 : hPeak f c = true := by cases h9 : hPeak f c with | true => rfl | false => exact absurd (by rw [h9]; rfl) c62
            simp [hAheadP, h42, h62, c22, c37]
          have e9 : hCnt (hAheadP f k) (c + 1) = hCnt (hAheadP f k) c + 1 := if_pos h8
          rw [e9] at kk
          exact kk
set_option maxRecDepth 100000 in
theorem cpa_all {X : mC} {d : Nat} {k : Nat} {w : mW} {h a b : Nat} {f g : Nat → Int32} {sl op lo : Int32} (hC : Cx X RX4 cX4_countPeaksAhead (d + 1) 0 0) (hnl : mNL X = 5) (H : HillAt w h a b (f, g, sl, op, lo)) (hk : k < 25) (kk : Wp X 0 0 w [(0, .ref h), (1, .int (nI k)), (2, .int (hCnt (hAheadP f k) 25)), (3, .int (nI 25))] [] 4) : ∀ n c : Nat, c + n = 25 → Wp X 0 0 w [(0, .ref h), (1, .int (nI k)), (2, .int (hCnt (hAheadP f k) c)), (3, .int (nI c))] [] 4 := by
  intro n
  induction n with
  | zero =>
    intro c h9
    obtain rfl : c = 25 := by omega
    exact kk
  | succ n ih =>
    intro c h9
    exact cpa_it hC hnl H hk (by omega) (ih (c + 1) (by omega))
set_option maxRecDepth 100000 in
set_option maxHeartbeats 4000000 in
theorem sp_ahead {d k : Nat} {w : mW} {h a b : Nat} {f g : Nat → Int32} {sl op lo : Int32} (H : HillAt w h a b (f, g, sl, op, lo)) (hk : k < 25) : Sp (d + 1) yX4_countPeaksAhead cX4_countPeaksAhead 5 (some .int) [.ref h, .int (nI k)] w 0 0 (fun v w' => v = some (.int (hCnt (hAheadP f k) 25)) ∧ w' = w) noX := by
  refine Sp.of (by decide +kernel) (Nat.le_of_ble_eq_true rfl) (fun X hC hnl hE hR hN => ?_)
  have hC : Cx X RX4 cX4_countPeaksAhead (d + 1) 0 0 := hC
  show Wp X 0 0 w [(0, .ref h), (1, .int (nI k))] [] 0
  obtain ⟨nha, nhb, nab⟩ := H.ne
  have hh : w[h]? = some (mO 6 [.ref a, .ref b, .int sl, .int op, .int lo]) := H.1
  have ha : w[a]? = some (mI 0 26 f) := H.2.1
  have hb : w[b]? = some (mI 0 25 g) := H.2.2
  refine r_iconst hC dX4_countPeaksAhead_0 (v := 0) (by decide) ?_
  refine r_istore_n hC dX4_countPeaksAhead_1 rfl (by rw [hnl]; decide) (L' := [(2, .int 0), (0, .ref h), (1, .int (nI k))]) rfl ?_
  refine r_iconst hC dX4_countPeaksAhead_2 (v := 0) (by decide) ?_
  refine r_istore_n hC dX4_countPeaksAhead_3 rfl (by rw [hnl]; decide) (L' := [(3, .int 0), (2, .int 0), (0, .ref h), (1, .int (nI k))]) rfl ?_
  refine r_locals [2, 3, 1, 0] (L' := [(0, .ref h), (1, .int (nI k)), (2, .int 0), (3, .int 0)]) rfl ?_
  refine cpa_all hC hnl H hk ?_ 25 0 rfl
  refine r_iload_n hC dX4_countPeaksAhead_4 rfl (j := 3) rfl ?_
  refine r_bipush hC dX4_countPeaksAhead_5 (v := 25) (by decide) ?_
  refine r_icmp_ge hC dX4_countPeaksAhead_7 (tgt := 74) (by decide) (fun _ => ?_) (fun h => absurd (lit_le rfl (Nat.le_refl 25) (by decide)) h)
  refine r_iload_n hC dX4_countPeaksAhead_74 rfl (j := 2) rfl ?_
  refine r_iret hC hE hR dX4_countPeaksAhead_75 (by omega) (by omega) (rfl) ?_
  exact ⟨rfl, rfl⟩
set_option maxRecDepth 100000 in
set_option maxHeartbeats 4000000 in
theorem cpo_it {X : mC} {d : Nat} {c : Nat} {t : Int32} {w : mW} {h a b : Nat} {f g : Nat → Int32} {sl op lo : Int32} (hC : Cx X RX4 cX4_countPeaksOf (d + 1) 0 0) (hnl : mNL X = 4) (H : HillAt w h a b (f, g, sl, op, lo)) (hc : c < 25) (kk : Wp X 0 0 w [(0, .ref h), (1, .int t), (2, .int (hCnt (hOwnP f g t) (c + 1))), (3, .int (nI (c + 1)))] [] 4) : Wp X 0 0 w [(0, .ref h), (1, .int t), (2, .int (hCnt (hOwnP f g t) c)), (3, .int (nI c))] [] 4 := by
  obtain ⟨nha, nhb, nab⟩ := H.ne
  have hh : w[h]? = some (mO 6 [.ref a, .ref b, .int sl, .int op, .int lo]) := H.1
  have ha : w[a]? = some (mI 0 26 f) := H.2.1
  have hb : w[b]? = some (mI 0 25 g) := H.2.2
  refine r_iload_n hC dX4_countPeaksOf_4 rfl (j := 3) rfl ?_
  refine r_bipush hC dX4_countPeaksOf_5 (v := 25) (by decide) ?_
  refine r_icmp_ge hC dX4_countPeaksOf_7 (tgt := 37) (by decide) (fun h => absurd h (lit_ge rfl hc (by decide))) (fun _ => ?_)
  refine r_aload_n hC dX4_countPeaksOf_10 rfl (j := 0) rfl ?_
  refine r_get hC gX4_countPeaksOf_11 hh (v := .ref b) rfl ?_
  refine r_iload_n hC dX4_countPeaksOf_14 rfl (j := 3) rfl ?_
  refine r_iald hC dX4_countPeaksOf_15 (j := c) hb (mIx_nI (by omega) (by decide)) ?_
  refine r_iload_n hC dX4_countPeaksOf_16 rfl (j := 1) rfl ?_
  refine r_icmp_ne hC dX4_countPeaksOf_17 (tgt := 31) (by decide) (fun c17 => ?_) (fun c17 => ?_)
  · refine r_iinc hC dX4_countPeaksOf_31 (j := 3) rfl (v := nI (c + 1)) (nI_succ c).symm (by rw [hnl]; decide) (L' := [(3, .int (nI (c + 1))), (0, .ref h), (1, .int t), (2, .int (hCnt (hOwnP f g t) c))]) rfl ?_
    refine r_goto hC dX4_countPeaksOf_34 (tgt := 4) (by decide) ?_
    refine r_locals [1, 2, 3, 0] (L' := [(0, .ref h), (1, .int t), (2, .int (hCnt (hOwnP f g t) c)), (3, .int (nI (c + 1)))]) rfl ?_
    have h8 : hOwnP f g t c = false := by
      simp [hOwnP, c17]
    have e9 : hCnt (hOwnP f g t) (c + 1) = hCnt (hOwnP f g t) c := if_neg (by rw [h8]; decide)
    rw [e9] at kk
    exact kk
  · refine r_aload_n hC dX4_countPeaksOf_20 rfl (j := 0) rfl ?_
    refine r_iload_n hC dX4_countPeaksOf_21 rfl (j := 3) rfl ?_
    refine r_callV hC (vs := [.int (nI c)]) vX4_countPeaksOf_22 (sp_peak (d := d) H hc) hh rfl rfl (by omega) (by omega) (by omega) (Nat.le_of_ble_eq_true rfl) (fun v_1 w_1 hP_1 hlen_1 => ?_) (fun _ _ h => h.elim)
    rw [hP_1.1, hP_1.2]
    show Wp X 0 0 w [(0, .ref h), (1, .int t), (2, .int (hCnt (hOwnP f g t) c)), (3, .int (nI c))] [.int (bI (hPeak f c))] 25
    refine r_if_eq hC dX4_countPeaksOf_25 (tgt := 31) (by decide) (fun c25 => ?_) (fun c25 => ?_)
    · refine r_iinc hC dX4_countPeaksOf_31 (j := 3) rfl (v := nI (c + 1)) (nI_succ c).symm (by rw [hnl]; decide) (L' := [(3, .int (nI (c + 1))), (0, .ref h), (1, .int t), (2, .int (hCnt (hOwnP f g t) c))]) rfl ?_
      refine r_goto hC dX4_countPeaksOf_34 (tgt := 4) (by decide) ?_
      refine r_locals [1, 2, 3, 0] (L' := [(0, .ref h), (1, .int t), (2, .int (hCnt (hOwnP f g t) c)), (3, .int (nI (c + 1)))]) rfl ?_
      have h8 : hOwnP f g t c = false := by
        have h62 : hPeak f c = false := bI_0.mp c25
        simp [hOwnP, c17, h62]
      have e9 : hCnt (hOwnP f g t) (c + 1) = hCnt (hOwnP f g t) c := if_neg (by rw [h8]; decide)
      rw [e9] at kk
      exact kk
    · refine r_iinc hC dX4_countPeaksOf_28 (j := 2) rfl (v := (hCnt (hOwnP f g t) c) + 1) rfl (by rw [hnl]; decide) (L' := [(2, .int ((hCnt (hOwnP f g t) c) + 1)), (0, .ref h), (1, .int t), (3, .int (nI c))]) rfl ?_
      refine r_iinc hC dX4_countPeaksOf_31 (j := 3) rfl (v := nI (c + 1)) (nI_succ c).symm (by rw [hnl]; decide) (L' := [(3, .int (nI (c + 1))), (2, .int ((hCnt (hOwnP f g t) c) + 1)), (0, .ref h), (1, .int t)]) rfl ?_
      refine r_goto hC dX4_countPeaksOf_34 (tgt := 4) (by decide) ?_
      refine r_locals [2, 3, 1, 0] (L' := [(0, .ref h), (1, .int t), (2, .int ((hCnt (hOwnP f g t) c) + 1)), (3, .int (nI (c + 1)))]) rfl ?_
      have h8 : hOwnP f g t c = true := by
        have h62 : hPeak f c = true := by cases h9 : hPeak f c with | true => rfl | false => exact absurd (by rw [h9]; rfl) c25
        simp [hOwnP, c17, h62]
      have e9 : hCnt (hOwnP f g t) (c + 1) = hCnt (hOwnP f g t) c + 1 := if_pos h8
      rw [e9] at kk
      exact kk
set_option maxRecDepth 100000 in
theorem cpo_all {X : mC} {d : Nat} {t : Int32} {w : mW} {h a b : Nat} {f g : Nat → Int32} {sl op lo : Int32} (hC : Cx X RX4 cX4_countPeaksOf (d + 1) 0 0) (hnl : mNL X = 4) (H : HillAt w h a b (f, g, sl, op, lo)) (kk : Wp X 0 0 w [(0, .ref h), (1, .int t), (2, .int (hCnt (hOwnP f g t) 25)), (3, .int (nI 25))] [] 4) : ∀ n c : Nat, c + n = 25 → Wp X 0 0 w [(0, .ref h), (1, .int t), (2, .int (hCnt (hOwnP f g t) c)), (3, .int (nI c))] [] 4 := by
  intro n
  induction n with
  | zero =>
    intro c h9
    obtain rfl : c = 25 := by omega
    exact kk
  | succ n ih =>
    intro c h9
    exact cpo_it hC hnl H (by omega) (ih (c + 1) (by omega))
set_option maxRecDepth 100000 in
set_option maxHeartbeats 4000000 in
theorem sp_peaksOf {d : Nat} {t : Int32} {w : mW} {h a b : Nat} {f g : Nat → Int32} {sl op lo : Int32} (H : HillAt w h a b (f, g, sl, op, lo)) : Sp (d + 1) yX4_countPeaksOf cX4_countPeaksOf 4 (some .int) [.ref h, .int t] w 0 0 (fun v w' => v = some (.int (hCnt (hOwnP f g t) 25)) ∧ w' = w) noX := by
  refine Sp.of (by decide +kernel) (Nat.le_of_ble_eq_true rfl) (fun X hC hnl hE hR hN => ?_)
  have hC : Cx X RX4 cX4_countPeaksOf (d + 1) 0 0 := hC
  show Wp X 0 0 w [(0, .ref h), (1, .int t)] [] 0
  obtain ⟨nha, nhb, nab⟩ := H.ne
  have hh : w[h]? = some (mO 6 [.ref a, .ref b, .int sl, .int op, .int lo]) := H.1
  have ha : w[a]? = some (mI 0 26 f) := H.2.1
  have hb : w[b]? = some (mI 0 25 g) := H.2.2
  refine r_iconst hC dX4_countPeaksOf_0 (v := 0) (by decide) ?_
  refine r_istore_n hC dX4_countPeaksOf_1 rfl (by rw [hnl]; decide) (L' := [(2, .int 0), (0, .ref h), (1, .int t)]) rfl ?_
  refine r_iconst hC dX4_countPeaksOf_2 (v := 0) (by decide) ?_
  refine r_istore_n hC dX4_countPeaksOf_3 rfl (by rw [hnl]; decide) (L' := [(3, .int 0), (2, .int 0), (0, .ref h), (1, .int t)]) rfl ?_
  refine r_locals [2, 3, 1, 0] (L' := [(0, .ref h), (1, .int t), (2, .int 0), (3, .int 0)]) rfl ?_
  refine cpo_all hC hnl H ?_ 25 0 rfl
  refine r_iload_n hC dX4_countPeaksOf_4 rfl (j := 3) rfl ?_
  refine r_bipush hC dX4_countPeaksOf_5 (v := 25) (by decide) ?_
  refine r_icmp_ge hC dX4_countPeaksOf_7 (tgt := 37) (by decide) (fun _ => ?_) (fun h => absurd (lit_le rfl (Nat.le_refl 25) (by decide)) h)
  refine r_iload_n hC dX4_countPeaksOf_37 rfl (j := 2) rfl ?_
  refine r_iret hC hE hR dX4_countPeaksOf_38 (by omega) (by omega) (rfl) ?_
  exact ⟨rfl, rfl⟩
set_option maxRecDepth 100000 in
set_option maxHeartbeats 4000000 in
theorem spo_it {X : mC} {d : Nat} {c : Nat} {t : Int32} {w : mW} {h a b : Nat} {f g : Nat → Int32} {sl op lo : Int32} (hC : Cx X RX4 cX4_sumPeaksOf (d + 1) 0 0) (hnl : mNL X = 4) (H : HillAt w h a b (f, g, sl, op, lo)) (hc : c < 25) (kk : Wp X 0 0 w [(0, .ref h), (1, .int t), (2, .int (hSumIf (hOwnP f g t) f (c + 1))), (3, .int (nI (c + 1)))] [] 4) : Wp X 0 0 w [(0, .ref h), (1, .int t), (2, .int (hSumIf (hOwnP f g t) f c)), (3, .int (nI c))] [] 4 := by
  obtain ⟨nha, nhb, nab⟩ := H.ne
  have hh : w[h]? = some (mO 6 [.ref a, .ref b, .int sl, .int op, .int lo]) := H.1
  have ha : w[a]? = some (mI 0 26 f) := H.2.1
  have hb : w[b]? = some (mI 0 25 g) := H.2.2
  refine r_iload_n hC dX4_sumPeaksOf_4 rfl (j := 3) rfl ?_
  refine r_bipush hC dX4_sumPeaksOf_5 (v := 25) (by decide) ?_
  refine r_icmp_ge hC dX4_sumPeaksOf_7 (tgt := 43) (by decide) (fun h => absurd h (lit_ge rfl hc (by decide))) (fun _ => ?_)
  refine r_aload_n hC dX4_sumPeaksOf_10 rfl (j := 0) rfl ?_
  refine r_get hC gX4_sumPeaksOf_11 hh (v := .ref b) rfl ?_
  refine r_iload_n hC dX4_sumPeaksOf_14 rfl (j := 3) rfl ?_
  refine r_iald hC dX4_sumPeaksOf_15 (j := c) hb (mIx_nI (by omega) (by decide)) ?_
  refine r_iload_n hC dX4_sumPeaksOf_16 rfl (j := 1) rfl ?_
  refine r_icmp_ne hC dX4_sumPeaksOf_17 (tgt := 37) (by decide) (fun c17 => ?_) (fun c17 => ?_)
  · refine r_iinc hC dX4_sumPeaksOf_37 (j := 3) rfl (v := nI (c + 1)) (nI_succ c).symm (by rw [hnl]; decide) (L' := [(3, .int (nI (c + 1))), (0, .ref h), (1, .int t), (2, .int (hSumIf (hOwnP f g t) f c))]) rfl ?_
    refine r_goto hC dX4_sumPeaksOf_40 (tgt := 4) (by decide) ?_
    refine r_locals [1, 2, 3, 0] (L' := [(0, .ref h), (1, .int t), (2, .int (hSumIf (hOwnP f g t) f c)), (3, .int (nI (c + 1)))]) rfl ?_
    have h8 : hOwnP f g t c = false := by
      simp [hOwnP, c17]
    have e9 : hSumIf (hOwnP f g t) f (c + 1) = hSumIf (hOwnP f g t) f c := if_neg (by rw [h8]; decide)
    rw [e9] at kk
    exact kk
  · refine r_aload_n hC dX4_sumPeaksOf_20 rfl (j := 0) rfl ?_
    refine r_iload_n hC dX4_sumPeaksOf_21 rfl (j := 3) rfl ?_
    refine r_callV hC (vs := [.int (nI c)]) vX4_sumPeaksOf_22 (sp_peak (d := d) H hc) hh rfl rfl (by omega) (by omega) (by omega) (Nat.le_of_ble_eq_true rfl) (fun v_1 w_1 hP_1 hlen_1 => ?_) (fun _ _ h => h.elim)
    rw [hP_1.1, hP_1.2]
    show Wp X 0 0 w [(0, .ref h), (1, .int t), (2, .int (hSumIf (hOwnP f g t) f c)), (3, .int (nI c))] [.int (bI (hPeak f c))] 25
    refine r_if_eq hC dX4_sumPeaksOf_25 (tgt := 37) (by decide) (fun c25 => ?_) (fun c25 => ?_)
    · refine r_iinc hC dX4_sumPeaksOf_37 (j := 3) rfl (v := nI (c + 1)) (nI_succ c).symm (by rw [hnl]; decide) (L' := [(3, .int (nI (c + 1))), (0, .ref h), (1, .int t), (2, .int (hSumIf (hOwnP f g t) f c))]) rfl ?_
      refine r_goto hC dX4_sumPeaksOf_40 (tgt := 4) (by decide) ?_
      refine r_locals [1, 2, 3, 0] (L' := [(0, .ref h), (1, .int t), (2, .int (hSumIf (hOwnP f g t) f c)), (3, .int (nI (c + 1)))]) rfl ?_
      have h8 : hOwnP f g t c = false := by
        have h62 : hPeak f c = false := bI_0.mp c25
        simp [hOwnP, c17, h62]
      have e9 : hSumIf (hOwnP f g t) f (c + 1) = hSumIf (hOwnP f g t) f c := if_neg (by rw [h8]; decide)
      rw [e9] at kk
      exact kk
    · refine r_iload_n hC dX4_sumPeaksOf_28 rfl (j := 2) rfl ?_
      refine r_aload_n hC dX4_sumPeaksOf_29 rfl (j := 0) rfl ?_
      refine r_get hC gX4_sumPeaksOf_30 hh (v := .ref a) rfl ?_
      refine r_iload_n hC dX4_sumPeaksOf_33 rfl (j := 3) rfl ?_
      refine r_iald hC dX4_sumPeaksOf_34 (j := c) ha (mIx_nI (by omega) (by decide)) ?_
      refine r_iadd hC dX4_sumPeaksOf_35 ?_
      refine r_istore_n hC dX4_sumPeaksOf_36 rfl (by rw [hnl]; decide) (L' := [(2, .int ((hSumIf (hOwnP f g t) f c) + (f c))), (0, .ref h), (1, .int t), (3, .int (nI c))]) rfl ?_
      refine r_iinc hC dX4_sumPeaksOf_37 (j := 3) rfl (v := nI (c + 1)) (nI_succ c).symm (by rw [hnl]; decide) (L' := [(3, .int (nI (c + 1))), (2, .int ((hSumIf (hOwnP f g t) f c) + (f c))), (0, .ref h), (1, .int t)]) rfl ?_
      refine r_goto hC dX4_sumPeaksOf_40 (tgt := 4) (by decide) ?_
      refine r_locals [2, 3, 1, 0] (L' := [(0, .ref h), (1, .int t), (2, .int ((hSumIf (hOwnP f g t) f c) + (f c))), (3, .int (nI (c + 1)))]) rfl ?_
      have h8 : hOwnP f g t c = true := by
        have h62 : hPeak f c = true := by cases h9 : hPeak f c with | true => rfl | false => exact absurd (by rw [h9]; rfl) c25
        simp [hOwnP, c17, h62]
      have e9 : hSumIf (hOwnP f g t) f (c + 1) = hSumIf (hOwnP f g t) f c + f c := if_pos h8
      rw [e9] at kk
      exact kk
set_option maxRecDepth 100000 in
theorem spo_all {X : mC} {d : Nat} {t : Int32} {w : mW} {h a b : Nat} {f g : Nat → Int32} {sl op lo : Int32} (hC : Cx X RX4 cX4_sumPeaksOf (d + 1) 0 0) (hnl : mNL X = 4) (H : HillAt w h a b (f, g, sl, op, lo)) (kk : Wp X 0 0 w [(0, .ref h), (1, .int t), (2, .int (hSumIf (hOwnP f g t) f 25)), (3, .int (nI 25))] [] 4) : ∀ n c : Nat, c + n = 25 → Wp X 0 0 w [(0, .ref h), (1, .int t), (2, .int (hSumIf (hOwnP f g t) f c)), (3, .int (nI c))] [] 4 := by
  intro n
  induction n with
  | zero =>
    intro c h9
    obtain rfl : c = 25 := by omega
    exact kk
  | succ n ih =>
    intro c h9
    exact spo_it hC hnl H (by omega) (ih (c + 1) (by omega))
set_option maxRecDepth 100000 in
set_option maxHeartbeats 4000000 in
theorem sp_sumOf {d : Nat} {t : Int32} {w : mW} {h a b : Nat} {f g : Nat → Int32} {sl op lo : Int32} (H : HillAt w h a b (f, g, sl, op, lo)) : Sp (d + 1) yX4_sumPeaksOf cX4_sumPeaksOf 4 (some .int) [.ref h, .int t] w 0 0 (fun v w' => v = some (.int (hSumIf (hOwnP f g t) f 25)) ∧ w' = w) noX := by
  refine Sp.of (by decide +kernel) (Nat.le_of_ble_eq_true rfl) (fun X hC hnl hE hR hN => ?_)
  have hC : Cx X RX4 cX4_sumPeaksOf (d + 1) 0 0 := hC
  show Wp X 0 0 w [(0, .ref h), (1, .int t)] [] 0
  obtain ⟨nha, nhb, nab⟩ := H.ne
  have hh : w[h]? = some (mO 6 [.ref a, .ref b, .int sl, .int op, .int lo]) := H.1
  have ha : w[a]? = some (mI 0 26 f) := H.2.1
  have hb : w[b]? = some (mI 0 25 g) := H.2.2
  refine r_iconst hC dX4_sumPeaksOf_0 (v := 0) (by decide) ?_
  refine r_istore_n hC dX4_sumPeaksOf_1 rfl (by rw [hnl]; decide) (L' := [(2, .int 0), (0, .ref h), (1, .int t)]) rfl ?_
  refine r_iconst hC dX4_sumPeaksOf_2 (v := 0) (by decide) ?_
  refine r_istore_n hC dX4_sumPeaksOf_3 rfl (by rw [hnl]; decide) (L' := [(3, .int 0), (2, .int 0), (0, .ref h), (1, .int t)]) rfl ?_
  refine r_locals [2, 3, 1, 0] (L' := [(0, .ref h), (1, .int t), (2, .int 0), (3, .int 0)]) rfl ?_
  refine spo_all hC hnl H ?_ 25 0 rfl
  refine r_iload_n hC dX4_sumPeaksOf_4 rfl (j := 3) rfl ?_
  refine r_bipush hC dX4_sumPeaksOf_5 (v := 25) (by decide) ?_
  refine r_icmp_ge hC dX4_sumPeaksOf_7 (tgt := 43) (by decide) (fun _ => ?_) (fun h => absurd (lit_le rfl (Nat.le_refl 25) (by decide)) h)
  refine r_iload_n hC dX4_sumPeaksOf_43 rfl (j := 2) rfl ?_
  refine r_iret hC hE hR dX4_sumPeaksOf_44 (by omega) (by omega) (rfl) ?_
  exact ⟨rfl, rfl⟩
set_option maxRecDepth 100000 in
set_option maxHeartbeats 4000000 in
theorem sp_hcopy {d : Nat} {w : mW} {h a b h2 a2 b2 : Nat} {f g f2 g2 : Nat → Int32} {sl op lo sl2 op2 lo2 : Int32} (H : HillAt w h a b (f, g, sl, op, lo)) (H2 : HillAt w h2 a2 b2 (f2, g2, sl2, op2, lo2)) (n1 : h ≠ h2) (n2 : a ≠ a2) (n3 : b ≠ b2) (ho : op2 = 0 ∨ op2 = 1) : Sp d yX4_copyFrom cX4_copyFrom 2 none [.ref h, .ref h2] w 0 0 (fun v w' => v = none ∧ w' = hillSet w h a b (f2, g2, sl2, op2, lo2)) noX := by
  refine Sp.of (by decide +kernel) (Nat.le_of_ble_eq_true rfl) (fun X hC hnl hE hR hN => ?_)
  have hC : Cx X RX4 cX4_copyFrom d 0 0 := hC
  show Wp X 0 0 w [(0, .ref h), (1, .ref h2)] [] 0
  obtain ⟨nha, nhb, nab⟩ := H.ne
  obtain ⟨nha2, nhb2, nab2⟩ := H2.ne
  have hh : w[h]? = some (mO 6 [.ref a, .ref b, .int sl, .int op, .int lo]) := H.1
  have ha : w[a]? = some (mI 0 26 f) := H.2.1
  have hb : w[b]? = some (mI 0 25 g) := H.2.2
  have hh2 : w[h2]? = some (mO 6 [.ref a2, .ref b2, .int sl2, .int op2, .int lo2]) := H2.1
  have ha2 : w[a2]? = some (mI 0 26 f2) := H2.2.1
  have hb2 : w[b2]? = some (mI 0 25 g2) := H2.2.2
  have m1 : h ≠ a2 := fun e => by rw [e, ha2] at hh; cases hh
  have m2 : h ≠ b2 := fun e => by rw [e, hb2] at hh; cases hh
  have m3 : a ≠ h2 := fun e => by rw [e, hh2] at ha; cases ha
  have m4 : b ≠ h2 := fun e => by rw [e, hh2] at hb; cases hb
  have m5 : a ≠ b2 := fun e => by rw [e, hb2] at ha; exact mI_ne (by decide) (Option.some.inj ha)
  have m6 : b ≠ a2 := fun e => by rw [e, ha2] at hb; exact mI_ne (by decide) (Option.some.inj hb)
  refine r_aload_n hC dX4_copyFrom_0 rfl (j := 1) rfl ?_
  refine r_get hC gX4_copyFrom_1 hh2 (v := .ref a2) rfl ?_
  refine r_iconst hC dX4_copyFrom_4 (v := 0) (by decide) ?_
  refine r_aload_n hC dX4_copyFrom_5 rfl (j := 0) rfl ?_
  refine r_get hC gX4_copyFrom_6 hh (v := .ref a) rfl ?_
  refine r_iconst hC dX4_copyFrom_9 (v := 0) (by decide) ?_
  refine r_bipush hC dX4_copyFrom_10 (v := 26) (by decide) ?_
  refine r_copyAll hC vX4_copyFrom_12 ha2 ha (by decide) (by decide) (Nat.le_of_ble_eq_true rfl) (fun w_1 ew_1 => ?_)
  have hf1_h : w_1[h]? = some (mO 6 [.ref a, .ref b, .int sl, .int op, .int lo]) := by rw [ew_1, List.getElem?_set_ne (Ne.symm nha)]; exact hh
  have hf1_a : w_1[a]? = some (mI 0 26 f2) := by rw [ew_1]; exact List.getElem?_set_self (lt_of_get ha)
  have hf1_b : w_1[b]? = some (mI 0 25 g) := by rw [ew_1, List.getElem?_set_ne nab]; exact hb
  have hf1_h2 : w_1[h2]? = some (mO 6 [.ref a2, .ref b2, .int sl2, .int op2, .int lo2]) := by rw [ew_1, List.getElem?_set_ne m3]; exact hh2
  have hf1_a2 : w_1[a2]? = some (mI 0 26 f2) := by rw [ew_1, List.getElem?_set_ne n2]; exact ha2
  have hf1_b2 : w_1[b2]? = some (mI 0 25 g2) := by rw [ew_1, List.getElem?_set_ne m5]; exact hb2
  refine r_aload_n hC dX4_copyFrom_15 rfl (j := 1) rfl ?_
  refine r_get hC gX4_copyFrom_16 hf1_h2 (v := .ref b2) rfl ?_
  refine r_iconst hC dX4_copyFrom_19 (v := 0) (by decide) ?_
  refine r_aload_n hC dX4_copyFrom_20 rfl (j := 0) rfl ?_
  refine r_get hC gX4_copyFrom_21 hf1_h (v := .ref b) rfl ?_
  refine r_iconst hC dX4_copyFrom_24 (v := 0) (by decide) ?_
  refine r_bipush hC dX4_copyFrom_25 (v := 25) (by decide) ?_
  refine r_copyAll hC vX4_copyFrom_27 hf1_b2 hf1_b (by decide) (by decide) (Nat.le_of_ble_eq_true rfl) (fun w_2 ew_2 => ?_)
  have hf2_h : w_2[h]? = some (mO 6 [.ref a, .ref b, .int sl, .int op, .int lo]) := by rw [ew_2, List.getElem?_set_ne (Ne.symm nhb)]; exact hf1_h
  have hf2_a : w_2[a]? = some (mI 0 26 f2) := by rw [ew_2, List.getElem?_set_ne (Ne.symm nab)]; exact hf1_a
  have hf2_b : w_2[b]? = some (mI 0 25 g2) := by rw [ew_2]; exact List.getElem?_set_self (lt_of_get hf1_b)
  have hf2_h2 : w_2[h2]? = some (mO 6 [.ref a2, .ref b2, .int sl2, .int op2, .int lo2]) := by rw [ew_2, List.getElem?_set_ne m4]; exact hf1_h2
  have hf2_a2 : w_2[a2]? = some (mI 0 26 f2) := by rw [ew_2, List.getElem?_set_ne m6]; exact hf1_a2
  have hf2_b2 : w_2[b2]? = some (mI 0 25 g2) := by rw [ew_2, List.getElem?_set_ne n3]; exact hf1_b2
  refine r_aload_n hC dX4_copyFrom_30 rfl (j := 0) rfl ?_
  refine r_aload_n hC dX4_copyFrom_31 rfl (j := 1) rfl ?_
  refine r_get hC gX4_copyFrom_32 hf2_h2 (v := .int sl2) rfl ?_
  refine r_put' hC pX4_copyFrom_35 hf2_h (Nat.le_of_ble_eq_true rfl) (fun _ => rfl) (fun _ => rfl) (fun w_3 ew_3 => ?_)
  have hf3_h : w_3[h]? = some (mO 6 [.ref a, .ref b, .int sl2, .int op, .int lo]) := by rw [ew_3]; exact List.getElem?_set_self (lt_of_get hf2_h)
  have hf3_a : w_3[a]? = some (mI 0 26 f2) := by rw [ew_3, List.getElem?_set_ne nha]; exact hf2_a
  have hf3_b : w_3[b]? = some (mI 0 25 g2) := by rw [ew_3, List.getElem?_set_ne nhb]; exact hf2_b
  have hf3_h2 : w_3[h2]? = some (mO 6 [.ref a2, .ref b2, .int sl2, .int op2, .int lo2]) := by rw [ew_3, List.getElem?_set_ne n1]; exact hf2_h2
  have hf3_a2 : w_3[a2]? = some (mI 0 26 f2) := by rw [ew_3, List.getElem?_set_ne m1]; exact hf2_a2
  have hf3_b2 : w_3[b2]? = some (mI 0 25 g2) := by rw [ew_3, List.getElem?_set_ne m2]; exact hf2_b2
  refine r_aload_n hC dX4_copyFrom_38 rfl (j := 0) rfl ?_
  refine r_aload_n hC dX4_copyFrom_39 rfl (j := 1) rfl ?_
  refine r_get hC gX4_copyFrom_40 hf3_h2 (v := .int op2) rfl ?_
  refine r_put' hC pX4_copyFrom_43 hf3_h (Nat.le_of_ble_eq_true rfl) (fun _ => by rcases ho with rfl | rfl <;> rfl) (fun _ => by rcases ho with rfl | rfl <;> rfl) (fun w_4 ew_4 => ?_)
  have hf4_h : w_4[h]? = some (mO 6 [.ref a, .ref b, .int sl2, .int op2, .int lo]) := by rw [ew_4]; exact List.getElem?_set_self (lt_of_get hf3_h)
  have hf4_a : w_4[a]? = some (mI 0 26 f2) := by rw [ew_4, List.getElem?_set_ne nha]; exact hf3_a
  have hf4_b : w_4[b]? = some (mI 0 25 g2) := by rw [ew_4, List.getElem?_set_ne nhb]; exact hf3_b
  have hf4_h2 : w_4[h2]? = some (mO 6 [.ref a2, .ref b2, .int sl2, .int op2, .int lo2]) := by rw [ew_4, List.getElem?_set_ne n1]; exact hf3_h2
  have hf4_a2 : w_4[a2]? = some (mI 0 26 f2) := by rw [ew_4, List.getElem?_set_ne m1]; exact hf3_a2
  have hf4_b2 : w_4[b2]? = some (mI 0 25 g2) := by rw [ew_4, List.getElem?_set_ne m2]; exact hf3_b2
  refine r_aload_n hC dX4_copyFrom_46 rfl (j := 0) rfl ?_
  refine r_aload_n hC dX4_copyFrom_47 rfl (j := 1) rfl ?_
  refine r_get hC gX4_copyFrom_48 hf4_h2 (v := .int lo2) rfl ?_
  refine r_put' hC pX4_copyFrom_51 hf4_h (Nat.le_of_ble_eq_true rfl) (fun _ => rfl) (fun _ => rfl) (fun w_5 ew_5 => ?_)
  have hf5_h : w_5[h]? = some (mO 6 [.ref a, .ref b, .int sl2, .int op2, .int lo2]) := by rw [ew_5]; exact List.getElem?_set_self (lt_of_get hf4_h)
  have hf5_a : w_5[a]? = some (mI 0 26 f2) := by rw [ew_5, List.getElem?_set_ne nha]; exact hf4_a
  have hf5_b : w_5[b]? = some (mI 0 25 g2) := by rw [ew_5, List.getElem?_set_ne nhb]; exact hf4_b
  have hf5_h2 : w_5[h2]? = some (mO 6 [.ref a2, .ref b2, .int sl2, .int op2, .int lo2]) := by rw [ew_5, List.getElem?_set_ne n1]; exact hf4_h2
  have hf5_a2 : w_5[a2]? = some (mI 0 26 f2) := by rw [ew_5, List.getElem?_set_ne m1]; exact hf4_a2
  have hf5_b2 : w_5[b2]? = some (mI 0 25 g2) := by rw [ew_5, List.getElem?_set_ne m2]; exact hf4_b2
  refine r_vret hC hE hR dX4_copyFrom_54 (by omega) (by omega) (by simp only [ew_5, ew_4, ew_3, ew_2, ew_1, List.length_set]) ?_
  refine ⟨rfl, ?_⟩
  have k1 : w_2 = hillSet w h a b (f2, g2, sl, op, lo) := by rw [ew_2, ew_1]; exact hillSet_fg H _ _
  have K1 : HillAt w_2 h a b (f2, g2, sl, op, lo) := by rw [k1]; exact H.set _
  have k2 : w_3 = hillSet w h a b (f2, g2, sl2, op, lo) := by rw [ew_3, k1]; rw [k1] at K1; exact (hillSet_h K1 _ _ _).trans (hillSet_set H)
  have K2 : HillAt w_3 h a b (f2, g2, sl2, op, lo) := by rw [k2]; exact H.set _
  have k3 : w_4 = hillSet w h a b (f2, g2, sl2, op2, lo) := by rw [ew_4, k2]; rw [k2] at K2; exact (hillSet_h K2 _ _ _).trans (hillSet_set H)
  have K3 : HillAt w_4 h a b (f2, g2, sl2, op2, lo) := by rw [k3]; exact H.set _
  rw [ew_5, k3]
  rw [k3] at K3
  exact (hillSet_h K3 _ _ _).trans (hillSet_set H)
end HL5
