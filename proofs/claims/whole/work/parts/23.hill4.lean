section HL4
def hSum (f : Nat → Int32) : Nat → Int32
  | 0 => 0
  | c + 1 => hSum f c + f c
/-- the first highest place below c -/
def hMax (f : Nat → Int32) : Nat → Nat
  | 0 => 0
  | c + 1 => if ¬ f c ≤ f (hMax f c) then c else hMax f c
theorem hMax_lt {f : Nat → Int32} : ∀ {c : Nat}, 0 < c → hMax f c < c
  | 0, h => absurd h (Nat.lt_irrefl 0)
  | c + 1, _ => by
    unfold hMax
    split
    · omega
    · rcases Nat.eq_zero_or_pos c with rfl | h
      · exact Nat.zero_lt_one
      · have := hMax_lt (f := f) h; omega
def bI (b : Bool) : Int32 := if b then 1 else 0
def hPeak (f : Nat → Int32) (c : Nat) : Bool := decide (¬ f c = 0) && (decide (f (hNb c 0) < f c) && (decide (f (hNb c 1) < f c) && (decide (f (hNb c 2) < f c) && decide (f (hNb c 3) < f c))))
set_option maxRecDepth 100000 in
set_option maxHeartbeats 4000000 in
theorem cbc_it {X : mC} {d : Nat} {c : Nat} {w : mW} {h a b : Nat} {f g : Nat → Int32} {sl op lo : Int32} (hC : Cx X RX4 cX4_countByCells d 0 0) (hnl : mNL X = 3) (H : HillAt w h a b (f, g, sl, op, lo)) (hc : c < 25) (kk : Wp X 0 0 w [(0, .ref h), (1, .int (hSum f (c + 1))), (2, .int (nI (c + 1)))] [] 4) : Wp X 0 0 w [(0, .ref h), (1, .int (hSum f c)), (2, .int (nI c))] [] 4 := by
  obtain ⟨nha, nhb, nab⟩ := H.ne
  have hh : w[h]? = some (mO 6 [.ref a, .ref b, .int sl, .int op, .int lo]) := H.1
  have ha : w[a]? = some (mI 0 26 f) := H.2.1
  have hb : w[b]? = some (mI 0 25 g) := H.2.2
  refine r_iload_n hC dX4_countByCells_4 rfl (j := 2) rfl ?_
  refine r_bipush hC dX4_countByCells_5 (v := 25) (by decide) ?_
  refine r_icmp_ge hC dX4_countByCells_7 (tgt := 25) (by decide) (fun h => absurd h (lit_ge rfl hc (by decide))) (fun _ => ?_)
  refine r_iload_n hC dX4_countByCells_10 rfl (j := 1) rfl ?_
  refine r_aload_n hC dX4_countByCells_11 rfl (j := 0) rfl ?_
  refine r_get hC gX4_countByCells_12 hh (v := .ref a) rfl ?_
  refine r_iload_n hC dX4_countByCells_15 rfl (j := 2) rfl ?_
  refine r_iald hC dX4_countByCells_16 (j := c) ha (mIx_nI (by omega) (by decide)) ?_
  refine r_iadd hC dX4_countByCells_17 ?_
  refine r_istore_n hC dX4_countByCells_18 rfl (by rw [hnl]; decide) (L' := [(1, .int ((hSum f c) + (f c))), (0, .ref h), (2, .int (nI c))]) rfl ?_
  refine r_iinc hC dX4_countByCells_19 (j := 2) rfl (v := nI (c + 1)) (nI_succ c).symm (by rw [hnl]; decide) (L' := [(2, .int (nI (c + 1))), (1, .int ((hSum f c) + (f c))), (0, .ref h)]) rfl ?_
  refine r_goto hC dX4_countByCells_22 (tgt := 4) (by decide) ?_
  refine r_locals [2, 1, 0] (L' := [(0, .ref h), (1, .int ((hSum f c) + (f c))), (2, .int (nI (c + 1)))]) rfl ?_
  exact kk
set_option maxRecDepth 100000 in
theorem cbc_all {X : mC} {d : Nat} {w : mW} {h a b : Nat} {f g : Nat → Int32} {sl op lo : Int32} (hC : Cx X RX4 cX4_countByCells d 0 0) (hnl : mNL X = 3) (H : HillAt w h a b (f, g, sl, op, lo)) (kk : Wp X 0 0 w [(0, .ref h), (1, .int (hSum f 25)), (2, .int (nI 25))] [] 4) : ∀ n c : Nat, c + n = 25 → Wp X 0 0 w [(0, .ref h), (1, .int (hSum f c)), (2, .int (nI c))] [] 4 := by
  intro n
  induction n with
  | zero =>
    intro c h9
    obtain rfl : c = 25 := by omega
    exact kk
  | succ n ih =>
    intro c h9
    exact cbc_it hC hnl H (by omega) (ih (c + 1) (by omega))
set_option maxRecDepth 100000 in
set_option maxHeartbeats 4000000 in
theorem sp_cells {d : Nat} {w : mW} {h a b : Nat} {f g : Nat → Int32} {sl op lo : Int32} (H : HillAt w h a b (f, g, sl, op, lo)) : Sp d yX4_countByCells cX4_countByCells 3 (some .int) [.ref h] w 0 0 (fun v w' => v = some (.int (hSum f 25)) ∧ w' = w) noX := by
  refine Sp.of (by decide +kernel) (Nat.le_of_ble_eq_true rfl) (fun X hC hnl hE hR hN => ?_)
  have hC : Cx X RX4 cX4_countByCells d 0 0 := hC
  show Wp X 0 0 w [(0, .ref h)] [] 0
  obtain ⟨nha, nhb, nab⟩ := H.ne
  have hh : w[h]? = some (mO 6 [.ref a, .ref b, .int sl, .int op, .int lo]) := H.1
  have ha : w[a]? = some (mI 0 26 f) := H.2.1
  have hb : w[b]? = some (mI 0 25 g) := H.2.2
  refine r_iconst hC dX4_countByCells_0 (v := 0) (by decide) ?_
  refine r_istore_n hC dX4_countByCells_1 rfl (by rw [hnl]; decide) (L' := [(1, .int 0), (0, .ref h)]) rfl ?_
  refine r_iconst hC dX4_countByCells_2 (v := 0) (by decide) ?_
  refine r_istore_n hC dX4_countByCells_3 rfl (by rw [hnl]; decide) (L' := [(2, .int 0), (1, .int 0), (0, .ref h)]) rfl ?_
  refine r_locals [2, 1, 0] (L' := [(0, .ref h), (1, .int 0), (2, .int 0)]) rfl ?_
  refine cbc_all hC hnl H ?_ 25 0 rfl
  refine r_iload_n hC dX4_countByCells_4 rfl (j := 2) rfl ?_
  refine r_bipush hC dX4_countByCells_5 (v := 25) (by decide) ?_
  refine r_icmp_ge hC dX4_countByCells_7 (tgt := 25) (by decide) (fun _ => ?_) (fun h => absurd (lit_le rfl (Nat.le_refl 25) (by decide)) h)
  refine r_iload_n hC dX4_countByCells_25 rfl (j := 1) rfl ?_
  refine r_iret hC hE hR dX4_countByCells_26 (by omega) (by omega) (rfl) ?_
  exact ⟨rfl, rfl⟩
set_option maxRecDepth 100000 in
set_option maxHeartbeats 4000000 in
theorem fh_it {X : mC} {d : Nat} {c : Nat} {w : mW} {h a b : Nat} {f g : Nat → Int32} {sl op lo : Int32} (hC : Cx X RX4 cX4_findHighest d 0 0) (hnl : mNL X = 3) (H : HillAt w h a b (f, g, sl, op, lo)) (hc : c < 25) (hc0 : 0 < c) (kk : Wp X 0 0 w [(0, .ref h), (1, .int (nI (hMax f (c + 1)))), (2, .int (nI (c + 1)))] [] 4) : Wp X 0 0 w [(0, .ref h), (1, .int (nI (hMax f c))), (2, .int (nI c))] [] 4 := by
  obtain ⟨nha, nhb, nab⟩ := H.ne
  have hh : w[h]? = some (mO 6 [.ref a, .ref b, .int sl, .int op, .int lo]) := H.1
  have ha : w[a]? = some (mI 0 26 f) := H.2.1
  have hb : w[b]? = some (mI 0 25 g) := H.2.2
  have hlt := hMax_lt (f := f) hc0
  refine r_iload_n hC dX4_findHighest_4 rfl (j := 2) rfl ?_
  refine r_bipush hC dX4_findHighest_5 (v := 25) (by decide) ?_
  refine r_icmp_ge hC dX4_findHighest_7 (tgt := 33) (by decide) (fun h => absurd h (lit_ge rfl hc (by decide))) (fun _ => ?_)
  refine r_aload_n hC dX4_findHighest_10 rfl (j := 0) rfl ?_
  refine r_get hC gX4_findHighest_11 hh (v := .ref a) rfl ?_
  refine r_iload_n hC dX4_findHighest_14 rfl (j := 2) rfl ?_
  refine r_iald hC dX4_findHighest_15 (j := c) ha (mIx_nI (by omega) (by decide)) ?_
  refine r_aload_n hC dX4_findHighest_16 rfl (j := 0) rfl ?_
  refine r_get hC gX4_findHighest_17 hh (v := .ref a) rfl ?_
  refine r_iload_n hC dX4_findHighest_20 rfl (j := 1) rfl ?_
  refine r_iald hC dX4_findHighest_21 (j := (hMax f c)) ha (mIx_nI (by omega) (by decide)) ?_
  refine r_icmp_le hC dX4_findHighest_22 (tgt := 27) (by decide) (fun c22 => ?_) (fun c22 => ?_)
  · refine r_iinc hC dX4_findHighest_27 (j := 2) rfl (v := nI (c + 1)) (nI_succ c).symm (by rw [hnl]; decide) (L' := [(2, .int (nI (c + 1))), (0, .ref h), (1, .int (nI (hMax f c)))]) rfl ?_
    refine r_goto hC dX4_findHighest_30 (tgt := 4) (by decide) ?_
    refine r_locals [1, 2, 0] (L' := [(0, .ref h), (1, .int (nI (hMax f c))), (2, .int (nI (c + 1)))]) rfl ?_
    have e9 : hMax f (c + 1) = hMax f c := if_neg (fun q => q c22)
    rw [e9] at kk
    exact kk
  · refine r_iload_n hC dX4_findHighest_25 rfl (j := 2) rfl ?_
    refine r_istore_n hC dX4_findHighest_26 rfl (by rw [hnl]; decide) (L' := [(1, .int (nI c)), (0, .ref h), (2, .int (nI c))]) rfl ?_
    refine r_iinc hC dX4_findHighest_27 (j := 2) rfl (v := nI (c + 1)) (nI_succ c).symm (by rw [hnl]; decide) (L' := [(2, .int (nI (c + 1))), (1, .int (nI c)), (0, .ref h)]) rfl ?_
    refine r_goto hC dX4_findHighest_30 (tgt := 4) (by decide) ?_
    refine r_locals [2, 1, 0] (L' := [(0, .ref h), (1, .int (nI c)), (2, .int (nI (c + 1)))]) rfl ?_
    have e9 : hMax f (c + 1) = c := if_pos c22
    rw [e9] at kk
    exact kk
theorem fh_all {X : mC} {d : Nat} {w : mW} {h a b : Nat} {f g : Nat → Int32} {sl op lo : Int32} (hC : Cx X RX4 cX4_findHighest d 0 0) (hnl : mNL X = 3) (H : HillAt w h a b (f, g, sl, op, lo)) (kk : Wp X 0 0 w [(0, .ref h), (1, .int (nI (hMax f 25))), (2, .int (nI 25))] [] 4) : ∀ n c : Nat, 0 < c → c + n = 25 → Wp X 0 0 w [(0, .ref h), (1, .int (nI (hMax f c))), (2, .int (nI c))] [] 4 := by
  intro n
  induction n with
  | zero =>
    intro c h8 h9
    obtain rfl : c = 25 := by omega
    exact kk
  | succ n ih =>
    intro c h8 h9
    exact fh_it hC hnl H (by omega) h8 (ih (c + 1) (by omega) (by omega))
theorem hMax_1 (f : Nat → Int32) : hMax f 1 = 0 := by
  show (if ¬ f 0 ≤ f (hMax f 0) then 0 else hMax f 0) = 0
  split <;> rfl
set_option maxRecDepth 100000 in
set_option maxHeartbeats 4000000 in
theorem sp_highest {d : Nat} {w : mW} {h a b : Nat} {f g : Nat → Int32} {sl op lo : Int32} (H : HillAt w h a b (f, g, sl, op, lo)) : Sp d yX4_findHighest cX4_findHighest 3 (some .int) [.ref h] w 0 0 (fun v w' => v = some (.int (nI (hMax f 25))) ∧ w' = w) noX := by
  refine Sp.of (by decide +kernel) (Nat.le_of_ble_eq_true rfl) (fun X hC hnl hE hR hN => ?_)
  have hC : Cx X RX4 cX4_findHighest d 0 0 := hC
  show Wp X 0 0 w [(0, .ref h)] [] 0
  obtain ⟨nha, nhb, nab⟩ := H.ne
  have hh : w[h]? = some (mO 6 [.ref a, .ref b, .int sl, .int op, .int lo]) := H.1
  have ha : w[a]? = some (mI 0 26 f) := H.2.1
  have hb : w[b]? = some (mI 0 25 g) := H.2.2
  refine r_iconst hC dX4_findHighest_0 (v := 0) (by decide) ?_
  refine r_istore_n hC dX4_findHighest_1 rfl (by rw [hnl]; decide) (L' := [(1, .int 0), (0, .ref h)]) rfl ?_
  refine r_iconst hC dX4_findHighest_2 (v := 1) (by decide) ?_
  refine r_istore_n hC dX4_findHighest_3 rfl (by rw [hnl]; decide) (L' := [(2, .int 1), (1, .int 0), (0, .ref h)]) rfl ?_
  refine r_locals [2, 1, 0] (L' := [(0, .ref h), (1, .int 0), (2, .int 1)]) rfl ?_
  suffices k8 : Wp X 0 0 w [(0, .ref h), (1, .int (nI (hMax f 25))), (2, .int (nI 25))] [] 4 from by
    have k9 := fh_all hC hnl H k8 24 1 (by decide) rfl
    rw [hMax_1] at k9
    exact k9
  refine r_iload_n hC dX4_findHighest_4 rfl (j := 2) rfl ?_
  refine r_bipush hC dX4_findHighest_5 (v := 25) (by decide) ?_
  refine r_icmp_ge hC dX4_findHighest_7 (tgt := 33) (by decide) (fun _ => ?_) (fun h => absurd (lit_le rfl (Nat.le_refl 25) (by decide)) h)
  refine r_iload_n hC dX4_findHighest_33 rfl (j := 1) rfl ?_
  refine r_iret hC hE hR dX4_findHighest_34 (by omega) (by omega) (rfl) ?_
  exact ⟨rfl, rfl⟩
set_option maxRecDepth 100000 in
set_option maxHeartbeats 4000000 in
theorem sp_peak {d c : Nat} {w : mW} {h a b : Nat} {f g : Nat → Int32} {sl op lo : Int32} (H : HillAt w h a b (f, g, sl, op, lo)) (hc : c < 25) : Sp d yX4_isSummit cX4_isSummit 3 (some .boolean) [.ref h, .int (nI c)] w 0 0 (fun v w' => v = some (.int (bI (hPeak f c))) ∧ w' = w) noX := by
  refine Sp.of (by decide +kernel) (Nat.le_of_ble_eq_true rfl) (fun X hC hnl hE hR hN => ?_)
  have hC : Cx X RX4 cX4_isSummit d 0 0 := hC
  show Wp X 0 0 w [(0, .ref h), (1, .int (nI c))] [] 0
  obtain ⟨nha, nhb, nab⟩ := H.ne
  have hh : w[h]? = some (mO 6 [.ref a, .ref b, .int sl, .int op, .int lo]) := H.1
  have ha : w[a]? = some (mI 0 26 f) := H.2.1
  have hb : w[b]? = some (mI 0 25 g) := H.2.2
  have hn0 := hNb_lt c hc 0 (by decide)
  have hn1 := hNb_lt c hc 1 (by decide)
  have hn2 := hNb_lt c hc 2 (by decide)
  have hn3 := hNb_lt c hc 3 (by decide)
  refine r_aload_n hC dX4_isSummit_0 rfl (j := 0) rfl ?_
  refine r_get hC gX4_isSummit_1 hh (v := .ref a) rfl ?_
  refine r_iload_n hC dX4_isSummit_4 rfl (j := 1) rfl ?_
  refine r_iald hC dX4_isSummit_5 (j := c) ha (mIx_nI (by omega) (by decide)) ?_
  refine r_if_ne hC dX4_isSummit_6 (tgt := 11) (by decide) (fun c6 => ?_) (fun c6 => ?_)
  · refine r_iconst hC dX4_isSummit_11 (v := 0) (by decide) ?_
    refine r_istore_n hC dX4_isSummit_12 rfl (by rw [hnl]; decide) (L' := [(2, .int 0), (0, .ref h), (1, .int (nI c))]) rfl ?_
    refine r_iload_n hC dX4_isSummit_13 rfl (j := 0) rfl ?_
    refine r_iconst hC dX4_isSummit_14 (v := 4) (by decide) ?_
    refine r_icmp_ge hC dX4_isSummit_15 (tgt := 49) (by decide) (fun h => absurd h (by decide)) (fun _ => ?_)
    refine r_aload_n hC dX4_isSummit_18 rfl (j := 1) rfl ?_
    refine r_get hC gX4_isSummit_19 hh (v := .ref a) rfl ?_
    refine r_gets hC sX4_isSummit_22 (v := .ref 1000000) gZ_nb ?_
    refine r_iload_n hC dX4_isSummit_25 rfl (j := 2) rfl ?_
    refine r_iconst hC dX4_isSummit_26 (v := 4) (by decide) ?_
    refine r_imul hC dX4_isSummit_27 ?_
    refine r_iload_n hC dX4_isSummit_28 rfl (j := 0) rfl ?_
    refine r_iadd hC dX4_isSummit_29 ?_
    refine r_ialdS hC dX4_isSummit_30 (j := c * 4 + 0) gT_nb (mIx4 (s := 0) hc (by decide)) ?_
    rw [tNb (s := 0) hc (by decide)]
    refine r_iald hC dX4_isSummit_31 (j := (hNb c 0)) ha (mIx_nI (by omega) (by decide)) ?_
    refine r_aload_n hC dX4_isSummit_32 rfl (j := 1) rfl ?_
    refine r_get hC gX4_isSummit_33 hh (v := .ref a) rfl ?_
    refine r_iload_n hC dX4_isSummit_36 rfl (j := 2) rfl ?_
    refine r_iald hC dX4_isSummit_37 (j := c) ha (mIx_nI (by omega) (by decide)) ?_
    refine r_icmp_lt hC dX4_isSummit_38 (tgt := 43) (by decide) (fun c38 => ?_) (fun c38 => ?_)
    · refine r_iinc hC dX4_isSummit_43 (j := 0) rfl (v := 1) (by decide) (by rw [hnl]; decide) (L' := [(2, .int 1), (0, .ref h), (1, .int (nI c))]) rfl ?_
      refine r_goto hC dX4_isSummit_46 (tgt := 13) (by decide) ?_
      refine r_iload_n hC dX4_isSummit_13 rfl (j := 0) rfl ?_
      refine r_iconst hC dX4_isSummit_14 (v := 4) (by decide) ?_
      refine r_icmp_ge hC dX4_isSummit_15 (tgt := 49) (by decide) (fun h => absurd h (by decide)) (fun _ => ?_)
      refine r_aload_n hC dX4_isSummit_18 rfl (j := 1) rfl ?_
      refine r_get hC gX4_isSummit_19 hh (v := .ref a) rfl ?_
      refine r_gets hC sX4_isSummit_22 (v := .ref 1000000) gZ_nb ?_
      refine r_iload_n hC dX4_isSummit_25 rfl (j := 2) rfl ?_
      refine r_iconst hC dX4_isSummit_26 (v := 4) (by decide) ?_
      refine r_imul hC dX4_isSummit_27 ?_
      refine r_iload_n hC dX4_isSummit_28 rfl (j := 0) rfl ?_
      refine r_iadd hC dX4_isSummit_29 ?_
      refine r_ialdS hC dX4_isSummit_30 (j := c * 4 + 1) gT_nb (mIx4 (s := 1) hc (by decide)) ?_
      rw [tNb (s := 1) hc (by decide)]
      refine r_iald hC dX4_isSummit_31 (j := (hNb c 1)) ha (mIx_nI (by omega) (by decide)) ?_
      refine r_aload_n hC dX4_isSummit_32 rfl (j := 1) rfl ?_
      refine r_get hC gX4_isSummit_33 hh (v := .ref a) rfl ?_
      refine r_iload_n hC dX4_isSummit_36 rfl (j := 2) rfl ?_
      refine r_iald hC dX4_isSummit_37 (j := c) ha (mIx_nI (by omega) (by decide)) ?_
      refine r_icmp_lt hC dX4_isSummit_38 (tgt := 43) (by decide) (fun c38_1 => ?_) (fun c38_1 => ?_)
      · refine r_iinc hC dX4_isSummit_43 (j := 0) rfl (v := 2) (by decide) (by rw [hnl]; decide) (L' := [(2, .int 2), (0, .ref h), (1, .int (nI c))]) rfl ?_
        refine r_goto hC dX4_isSummit_46 (tgt := 13) (by decide) ?_
        refine r_iload_n hC dX4_isSummit_13 rfl (j := 0) rfl ?_
        refine r_iconst hC dX4_isSummit_14 (v := 4) (by decide) ?_
        refine r_icmp_ge hC dX4_isSummit_15 (tgt := 49) (by decide) (fun h => absurd h (by decide)) (fun _ => ?_)
        refine r_aload_n hC dX4_isSummit_18 rfl (j := 1) rfl ?_
        refine r_get hC gX4_isSummit_19 hh (v := .ref a) rfl ?_
        refine r_gets hC sX4_isSummit_22 (v := .ref 1000000) gZ_nb ?_
        refine r_iload_n hC dX4_isSummit_25 rfl (j := 2) rfl ?_
        refine r_iconst hC dX4_isSummit_26 (v := 4) (by decide) ?_
        refine r_imul hC dX4_isSummit_27 ?_
        refine r_iload_n hC dX4_isSummit_28 rfl (j := 0) rfl ?_
        refine r_iadd hC dX4_isSummit_29 ?_
        refine r_ialdS hC dX4_isSummit_30 (j := c * 4 + 2) gT_nb (mIx4 (s := 2) hc (by decide)) ?_
        rw [tNb (s := 2) hc (by decide)]
        refine r_iald hC dX4_isSummit_31 (j := (hNb c 2)) ha (mIx_nI (by omega) (by decide)) ?_
        refine r_aload_n hC dX4_isSummit_32 rfl (j := 1) rfl ?_
        refine r_get hC gX4_isSummit_33 hh (v := .ref a) rfl ?_
        refine r_iload_n hC dX4_isSummit_36 rfl (j := 2) rfl ?_
        refine r_iald hC dX4_isSummit_37 (j := c) ha (mIx_nI (by omega) (by decide)) ?_
        refine r_icmp_lt hC dX4_isSummit_38 (tgt := 43) (by decide) (fun c38_2 => ?_) (fun c38_2 => ?_)
        · refine r_iinc hC dX4_isSummit_43 (j := 0) rfl (v := 3) (by decide) (by rw [hnl]; decide) (L' := [(2, .int 3), (0, .ref h), (1, .int (nI c))]) rfl ?_
          refine r_goto hC dX4_isSummit_46 (tgt := 13) (by decide) ?_
          refine r_iload_n hC dX4_isSummit_13 rfl (j := 0) rfl ?_
          refine r_iconst hC dX4_isSummit_14 (v := 4) (by decide) ?_
          refine r_icmp_ge hC dX4_isSummit_15 (tgt := 49) (by decide) (fun h => absurd h (by decide)) (fun _ => ?_)
          refine r_aload_n hC dX4_isSummit_18 rfl (j := 1) rfl ?_
          refine r_get hC gX4_isSummit_19 hh (v := .ref a) rfl ?_
          refine r_gets hC sX4_isSummit_22 (v := .ref 1000000) gZ_nb ?_
          refine r_iload_n hC dX4_isSummit_25 rfl (j := 2) rfl ?_
          refine r_iconst hC dX4_isSummit_26 (v := 4) (by decide) ?_
          refine r_imul hC dX4_isSummit_27 ?_
          refine r_iload_n hC dX4_isSummit_28 rfl (j := 0) rfl ?_
          refine r_iadd hC dX4_isSummit_29 ?_
          refine r_ialdS hC dX4_isSummit_30 (j := c * 4 + 3) gT_nb (mIx4 (s := 3) hc (by decide)) ?_
          rw [tNb (s := 3) hc (by decide)]
          refine r_iald hC dX4_isSummit_31 (j := (hNb c 3)) ha (mIx_nI (by omega) (by decide)) ?_
          refine r_aload_n hC dX4_isSummit_32 rfl (j := 1) rfl ?_
          refine r_get hC gX4_isSummit_33 hh (v := .ref a) rfl ?_
          refine r_iload_n hC dX4_isSummit_36 rfl (j := 2) rfl ?_
          refine r_iald hC dX4_isSummit_37 (j := c) ha (mIx_nI (by omega) (by decide)) ?_
          refine r_icmp_lt hC dX4_isSummit_38 (tgt := 43) (by decide) (fun c38_3 => ?_) (fun c38_3 => ?_)
          · refine r_iinc hC dX4_isSummit_43 (j := 0) rfl (v := 4) (by decide) (by rw [hnl]; decide) (L' := [(2, .int 4), (0, .ref h), (1, .int (nI c))]) rfl ?_
            refine r_goto hC dX4_isSummit_46 (tgt := 13) (by decide) ?_
            refine r_iload_n hC dX4_isSummit_13 rfl (j := 0) rfl ?_
            refine r_iconst hC dX4_isSummit_14 (v := 4) (by decide) ?_
            refine r_icmp_ge hC dX4_isSummit_15 (tgt := 49) (by decide) (fun _ => ?_) (fun h => absurd (by decide) h)
            refine r_iconst hC dX4_isSummit_49 (v := 1) (by decide) ?_
            refine r_nret hC hE hR dX4_isSummit_50 (by decide) (by omega) (by omega) (rfl) ?_
            exact ⟨by simp [hPeak, bI, c6, c38, c38_1, c38_2, c38_3], rfl⟩
          · refine r_iconst hC dX4_isSummit_41 (v := 0) (by decide) ?_
            refine r_nret hC hE hR dX4_isSummit_42 (by decide) (by omega) (by omega) (rfl) ?_
            exact ⟨by simp [hPeak, bI, c6, c38, c38_1, c38_2, c38_3], rfl⟩
        · refine r_iconst hC dX4_isSummit_41 (v := 0) (by decide) ?_
          refine r_nret hC hE hR dX4_isSummit_42 (by decide) (by omega) (by omega) (rfl) ?_
          exact ⟨by simp [hPeak, bI, c6, c38, c38_1, c38_2], rfl⟩
      · refine r_iconst hC dX4_isSummit_41 (v := 0) (by decide) ?_
        refine r_nret hC hE hR dX4_isSummit_42 (by decide) (by omega) (by omega) (rfl) ?_
        exact ⟨by simp [hPeak, bI, c6, c38, c38_1], rfl⟩
    · refine r_iconst hC dX4_isSummit_41 (v := 0) (by decide) ?_
      refine r_nret hC hE hR dX4_isSummit_42 (by decide) (by omega) (by omega) (rfl) ?_
      exact ⟨by simp [hPeak, bI, c6, c38], rfl⟩
  · refine r_iconst hC dX4_isSummit_9 (v := 0) (by decide) ?_
    refine r_nret hC hE hR dX4_isSummit_10 (by decide) (by omega) (by omega) (rfl) ?_
    exact ⟨by simp [hPeak, bI, c6], rfl⟩
end HL4
