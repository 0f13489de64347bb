section HL3
def hRem (x : hv) (c : Nat) : hv := (upd x.1 c (x.1 c - 1), (if x.1 c - 1 = 0 then upd x.2.1 c (-1) else x.2.1), x.2.2.1, x.2.2.2.1, x.2.2.2.2)
def hPlace (x : hv) (c : Nat) (s t : Int32) : hv := (upd x.1 c (x.1 c + s), upd x.2.1 c t, x.2.2.1, x.2.2.2.1, x.2.2.2.2)
def hTopple (x : hv) (c : Nat) : hv := if hLow x.1 x.2.2.2.1 c = 25 then ((hRem x c).1, (hRem x c).2.1, x.2.2.1, x.2.2.2.1, x.2.2.2.2 + 1) else hPlace (hRem x c) (hLow x.1 x.2.2.2.1 c) 1 (x.2.1 c)
def hNx (x : hv) : Option Nat := hNext x.1 x.2.2.2.1 x.2.2.1 25
/-- how the hill comes to rest: n topples at most; how many there are, and the hill behind them -/
def hRest : Nat → hv → Nat × hv
  | 0, x => (0, x)
  | n + 1, x => match hNx x with
    | none => (0, x)
    | some c => ((hRest n (hTopple x c)).1 + 1, (hRest n (hTopple x c)).2)
set_option maxRecDepth 100000 in
set_option maxHeartbeats 4000000 in
theorem sp_topple {d c : Nat} {w : mW} {h a b : Nat} {f g : Nat → Int32} {sl op lo : Int32} (H : HillAt w h a b (f, g, sl, op, lo)) (hc : c < 25) : Sp (d + 1) yX4_topple cX4_topple 4 (some .int) [.ref h, .int (nI c)] w 0 0 (fun v w' => v = some (.int (nI (hLow f op c))) ∧ w' = hillSet w h a b (hTopple (f, g, sl, op, lo) c)) noX := by
  refine Sp.of (by decide +kernel) (Nat.le_of_ble_eq_true rfl) (fun X hC hnl hE hR hN => ?_)
  have hC : Cx X RX4 cX4_topple (d + 1) 0 0 := hC
  show Wp X 0 0 w [(0, .ref h), (1, .int (nI c))] [] 0
  obtain ⟨nha, nhb, nab⟩ := H.ne
  have hh : w[h]? = some (mO 6 [.ref a, .ref b, .int sl, .int op, .int lo]) := H.1
  have ha : w[a]? = some (mI 0 26 f) := H.2.1
  have hb : w[b]? = some (mI 0 25 g) := H.2.2
  have hlt := hLow_lt (f := f) (op := op) hc
  refine r_aload_n hC dX4_topple_0 rfl (j := 0) rfl ?_
  refine r_iload_n hC dX4_topple_1 rfl (j := 1) rfl ?_
  refine r_callV hC (vs := [.int (nI c)]) vX4_topple_2 (sp_low (d := d) H hc) hh rfl rfl (by omega) (by omega) (by omega) (Nat.le_of_ble_eq_true rfl) (fun v_1 w_1 hP_1 hlen_1 => ?_) (fun _ _ h => h.elim)
  rw [hP_1.1, hP_1.2]
  show Wp X 0 0 w [(0, .ref h), (1, .int (nI c))] [.int (nI (hLow f op c))] 5
  refine r_istore_n hC dX4_topple_5 rfl (by rw [hnl]; decide) (L' := [(2, .int (nI (hLow f op c))), (0, .ref h), (1, .int (nI c))]) rfl ?_
  refine r_aload_n hC dX4_topple_6 rfl (j := 1) rfl ?_
  refine r_get hC gX4_topple_7 hh (v := .ref b) rfl ?_
  refine r_iload_n hC dX4_topple_10 rfl (j := 2) rfl ?_
  refine r_iald hC dX4_topple_11 (j := c) hb (mIx_nI (by omega) (by decide)) ?_
  refine r_istore_n hC dX4_topple_12 rfl (by rw [hnl]; decide) (L' := [(3, .int (g c)), (2, .int (nI (hLow f op c))), (0, .ref h), (1, .int (nI c))]) rfl ?_
  refine r_aload_n hC dX4_topple_13 rfl (j := 2) rfl ?_
  refine r_iload_n hC dX4_topple_14 rfl (j := 3) rfl ?_
  refine r_callV hC (vs := [.int (nI c)]) vX4_topple_15 (sp_removeStone (d := d) H hc) hh rfl rfl (by omega) (by omega) (by omega) (Nat.le_of_ble_eq_true rfl) (fun v_2 w_2 hP_2 hlen_2 => ?_) (fun _ _ h => h.elim)
  have H_2 : HillAt w_2 h a b (hRem (f, g, sl, op, lo) c) := by rw [hP_2.2]; exact HillAt.set H _
  have hh_2 : w_2[h]? = some (mO 6 [.ref a, .ref b, .int sl, .int op, .int lo]) := H_2.1
  have ha_2 : w_2[a]? = some (mI 0 26 ((hRem (f, g, sl, op, lo) c)).1) := H_2.2.1
  have hb_2 : w_2[b]? = some (mI 0 25 ((hRem (f, g, sl, op, lo) c)).2.1) := H_2.2.2
  rw [hP_2.1]
  show Wp X 0 0 w_2 [(3, .int (g c)), (2, .int (nI (hLow f op c))), (0, .ref h), (1, .int (nI c))] [] 18
  refine r_iload_n hC dX4_topple_18 rfl (j := 1) rfl ?_
  refine r_bipush hC dX4_topple_19 (v := 25) (by decide) ?_
  refine r_icmp_ne hC dX4_topple_21 (tgt := 37) (by decide) (fun c21 => ?_) (fun c21 => ?_)
  · refine r_aload_n hC dX4_topple_37 rfl (j := 2) rfl ?_
    refine r_iload_n hC dX4_topple_38 rfl (j := 1) rfl ?_
    refine r_iconst hC dX4_topple_39 (v := 1) (by decide) ?_
    refine r_iload_n hC dX4_topple_40 rfl (j := 0) rfl ?_
    refine r_callV hC (vs := [.int (nI (hLow f op c)), .int 1, .int (g c)]) vX4_topple_41 (sp_place (d := d) (c := hLow f op c) H_2 (by omega) (by have : ¬ hLow f op c = 25 := fun q => c21 (by rw [q]; rfl); omega)) hh_2 rfl rfl (by omega) (by omega) (by omega) (Nat.le_of_ble_eq_true rfl) (fun v_3 w_3 hP_3 hlen_3 => ?_) (fun _ _ h => h.elim)
    have H_3 : HillAt w_3 h a b (hPlace (hRem (f, g, sl, op, lo) c) (hLow f op c) 1 (g c)) := by rw [hP_3.2]; exact HillAt.set H_2 _
    have hh_3 : w_3[h]? = some (mO 6 [.ref a, .ref b, .int sl, .int op, .int lo]) := H_3.1
    have ha_3 : w_3[a]? = some (mI 0 26 ((hPlace (hRem (f, g, sl, op, lo) c) (hLow f op c) 1 (g c))).1) := H_3.2.1
    have hb_3 : w_3[b]? = some (mI 0 25 ((hPlace (hRem (f, g, sl, op, lo) c) (hLow f op c) 1 (g c))).2.1) := H_3.2.2
    rw [hP_3.1]
    show Wp X 0 0 w_3 [(3, .int (g c)), (2, .int (nI (hLow f op c))), (0, .ref h), (1, .int (nI c))] [] 44
    refine r_iload_n hC dX4_topple_44 rfl (j := 1) rfl ?_
    refine r_iret hC hE hR dX4_topple_45 (by omega) (by omega) (by rw [hlen_3, hlen_2]) ?_
    have c9 : ¬ hLow f op c = 25 := fun q => c21 (by rw [q]; rfl)
    have e9 : hTopple (f, g, sl, op, lo) c = hPlace (hRem (f, g, sl, op, lo) c) (hLow f op c) 1 (g c) := if_neg c9
    exact ⟨rfl, by rw [e9, hP_3.2, hP_2.2]; exact hillSet_set H⟩
  · refine r_aload_n hC dX4_topple_24 rfl (j := 2) rfl ?_
    refine r_dup hC dX4_topple_25 rfl ?_
    refine r_get hC gX4_topple_26 hh_2 (v := .int lo) rfl ?_
    refine r_iconst hC dX4_topple_29 (v := 1) (by decide) ?_
    refine r_iadd hC dX4_topple_30 ?_
    refine r_put' hC pX4_topple_31 hh_2 (Nat.le_of_ble_eq_true rfl) (fun _ => rfl) (fun _ => rfl) (fun w_4 ew_4 => ?_)
    have hf4_h : w_4[h]? = some (mO 6 [.ref a, .ref b, .int sl, .int op, .int (lo + 1)]) := by rw [ew_4]; exact List.getElem?_set_self (lt_of_get hh_2)
    have hf4_a : w_4[a]? = some (mI 0 26 ((hRem (f, g, sl, op, lo) c)).1) := by rw [ew_4, List.getElem?_set_ne nha]; exact ha_2
    have hf4_b : w_4[b]? = some (mI 0 25 ((hRem (f, g, sl, op, lo) c)).2.1) := by rw [ew_4, List.getElem?_set_ne nhb]; exact hb_2
    refine r_goto hC dX4_topple_34 (tgt := 44) (by decide) ?_
    refine r_iload_n hC dX4_topple_44 rfl (j := 1) rfl ?_
    refine r_iret hC hE hR dX4_topple_45 (by omega) (by omega) (by rw [ew_4, List.length_set, hlen_2]) ?_
    have c9 : hLow f op c = 25 := (lit_eq rfl (by omega) (by decide)).mp c21
    have e9 : hTopple (f, g, sl, op, lo) c = ((hRem (f, g, sl, op, lo) c).1, (hRem (f, g, sl, op, lo) c).2.1, sl, op, lo + 1) := if_pos c9
    exact ⟨rfl, by rw [e9, ew_4, hP_2.2]; rw [hP_2.2] at H_2; exact (hillSet_h H_2 _ _ _).trans (hillSet_set H)⟩
def hRestF (x : hv) : Nat × hv := hRest 50000 x
theorem hRest_none {n : Nat} {x : hv} (h : hNx x = none) : hRest n x = (0, x) := by
  cases n with
  | zero => rfl
  | succ n =>
    show (match hNx x with
      | none => (0, x)
      | some c => ((hRest n (hTopple x c)).1 + 1, (hRest n (hTopple x c)).2)) = _
    rw [h]
theorem hRest_some {n c : Nat} {x : hv} (h : hNx x = some c) : hRest (n + 1) x = ((hRest n (hTopple x c)).1 + 1, (hRest n (hTopple x c)).2) := by
  show (match hNx x with
    | none => (0, x)
    | some c => ((hRest n (hTopple x c)).1 + 1, (hRest n (hTopple x c)).2)) = _
  rw [h]
set_option maxRecDepth 100000 in
set_option maxHeartbeats 4000000 in
theorem ctr_loop {X : mC} {d h a b n0 : Nat} {P : Option Value → mW → Prop} (hC : Cx X RX4 cX4_comeToRest (d + 3) 0 0) (hnl : mNL X = 3) (hE : mEnd X n0 0 0 P noX) (hR : mRet X (some .int)) : ∀ (n t : Nat) (cl : List (Nat × Value)) (w : mW) (f g : Nat → Int32) (sl op lo : Int32), t + n = 50000 → HillAt w h a b (f, g, sl, op, lo) → w.length = n0 → (cl = [] ∨ ∃ v : Int32, cl = [(2, .int v)]) → P (some (.int (nI (t + (hRest n (f, g, sl, op, lo)).1)))) (hillSet w h a b (hRest n (f, g, sl, op, lo)).2) → Wp X 0 0 w ([(0, .ref h), (1, .int (nI t))] ++ cl) [] 2 := by
  intro n
  induction n with
  | zero =>
    intro t cl w f g sl op lo ht H hlen hcl hP9
    obtain rfl : t = 50000 := by omega
    have hP9 : P (some (.int (nI (50000 + 0)))) (hillSet w h a b (f, g, sl, op, lo)) := hP9
    rw [hillSet_same H] at hP9
    refine r_locals [0, 1] (L' := [(0, .ref h), (1, .int (nI 50000))]) (by rcases hcl with rfl | ⟨v, rfl⟩ <;> rfl) ?_
    refine r_iload_n hC dX4_comeToRest_2 rfl (j := 1) rfl ?_
    refine r_ldci hC dX4_comeToRest_3 kc_X4_53 ?_
    refine r_icmp_ge hC dX4_comeToRest_5 (tgt := 33) (by decide) (fun _ => ?_) (fun h => absurd (lit_le (N := 50000) (by decide) (Nat.le_refl _) (by decide)) h)
    refine r_iload_n hC dX4_comeToRest_33 rfl (j := 1) rfl ?_
    refine r_iret hC hE hR dX4_comeToRest_34 (by omega) (by omega) (hlen) ?_
    exact hP9
  | succ n ih =>
    intro t cl w f g sl op lo ht H hlen hcl hP9
    obtain ⟨nha, nhb, nab⟩ := H.ne
    have hh : w[h]? = some (mO 6 [.ref a, .ref b, .int sl, .int op, .int lo]) := H.1
    have ha : w[a]? = some (mI 0 26 f) := H.2.1
    have hb : w[b]? = some (mI 0 25 g) := H.2.2
    refine r_locals [0, 1] (L' := [(0, .ref h), (1, .int (nI t))]) (by rcases hcl with rfl | ⟨v, rfl⟩ <;> rfl) ?_
    refine r_iload_n hC dX4_comeToRest_2 rfl (j := 1) rfl ?_
    refine r_ldci hC dX4_comeToRest_3 kc_X4_53 ?_
    refine r_icmp_ge hC dX4_comeToRest_5 (tgt := 33) (by decide) (fun h => absurd h (lit_ge (N := 50000) (by decide) (by omega) (by decide))) (fun _ => ?_)
    refine r_aload_n hC dX4_comeToRest_8 rfl (j := 0) rfl ?_
    refine r_callV hC (vs := []) vX4_comeToRest_9 (sp_next (d := d) H) hh rfl rfl (by omega) (by omega) (by omega) (Nat.le_of_ble_eq_true rfl) (fun v_1 w_1 hP_1 hlen_1 => ?_) (fun _ _ h => h.elim)
    rw [hP_1.1, hP_1.2]
    show Wp X 0 0 w [(0, .ref h), (1, .int (nI t))] [.int (oI (hNext f op sl 25))] 12
    refine r_istore_n hC dX4_comeToRest_12 rfl (by rw [hnl]; decide) (L' := [(2, .int (oI (hNext f op sl 25))), (0, .ref h), (1, .int (nI t))]) rfl ?_
    refine r_iload_n hC dX4_comeToRest_13 rfl (j := 0) rfl ?_
    refine r_iconst hC dX4_comeToRest_14 (v := (-1)) (by decide) ?_
    refine r_icmp_ne hC dX4_comeToRest_15 (tgt := 21) (by decide) (fun c15 => ?_) (fun c15 => ?_)
    · obtain ⟨c, hc9⟩ : ∃ c, hNext f op sl 25 = some c := by
        cases hq9 : hNext f op sl 25 with
        | none => exact absurd (by rw [hq9]; rfl) c15
        | some k => exact ⟨k, rfl⟩
      have hc : c < 25 := hNext_lt hc9
      rw [hc9]
      show Wp X 0 0 w [(2, .int (nI c)), (0, .ref h), (1, .int (nI t))] [] 21
      refine r_aload_n hC dX4_comeToRest_21 rfl (j := 1) rfl ?_
      refine r_iload_n hC dX4_comeToRest_22 rfl (j := 0) rfl ?_
      refine r_callV hC (vs := [.int (nI c)]) vX4_comeToRest_23 (sp_topple (d := d + 1) H hc) hh rfl rfl (by omega) (by omega) (by omega) (Nat.le_of_ble_eq_true rfl) (fun v_2 w_2 hP_2 hlen_2 => ?_) (fun _ _ h => h.elim)
      have H_2 : HillAt w_2 h a b (hTopple (f, g, sl, op, lo) c) := by rw [hP_2.2]; exact HillAt.set H _
      have hh_2 : w_2[h]? = some (mO 6 [.ref a, .ref b, .int ((hTopple (f, g, sl, op, lo) c)).2.2.1, .int ((hTopple (f, g, sl, op, lo) c)).2.2.2.1, .int ((hTopple (f, g, sl, op, lo) c)).2.2.2.2]) := H_2.1
      have ha_2 : w_2[a]? = some (mI 0 26 ((hTopple (f, g, sl, op, lo) c)).1) := H_2.2.1
      have hb_2 : w_2[b]? = some (mI 0 25 ((hTopple (f, g, sl, op, lo) c)).2.1) := H_2.2.2
      rw [hP_2.1]
      show Wp X 0 0 w_2 [(2, .int (nI c)), (0, .ref h), (1, .int (nI t))] [.int (nI (hLow f op c))] 26
      refine r_pop hC dX4_comeToRest_26 rfl ?_
      refine r_iinc hC dX4_comeToRest_27 (j := 2) rfl (v := nI (t + 1)) (nI_succ t).symm (by rw [hnl]; decide) (L' := [(1, .int (nI (t + 1))), (2, .int (nI c)), (0, .ref h)]) rfl ?_
      refine r_goto hC dX4_comeToRest_30 (tgt := 2) (by decide) ?_
      refine r_locals [2, 0, 1] (L' := [(0, .ref h), (1, .int (nI (t + 1))), (2, .int (nI c))]) rfl ?_
      rw [hRest_some (x := (f, g, sl, op, lo)) hc9] at hP9
      have hP8 : P (some (.int (nI (t + 1 + (hRest n (hTopple (f, g, sl, op, lo) c)).1)))) (hillSet w_2 h a b (hRest n (hTopple (f, g, sl, op, lo) c)).2) := by
        rw [hP_2.2, hillSet_set H, show t + 1 + (hRest n (hTopple (f, g, sl, op, lo) c)).1 = t + ((hRest n (hTopple (f, g, sl, op, lo) c)).1 + 1) by omega]
        exact hP9
      exact ih (t + 1) [(2, .int (nI c))] w_2 _ _ _ _ _ (by omega) H_2 (hlen_2.trans hlen) (Or.inr ⟨_, rfl⟩) hP8
    · refine r_goto hC dX4_comeToRest_18 (tgt := 33) (by decide) ?_
      refine r_iload_n hC dX4_comeToRest_33 rfl (j := 2) rfl ?_
      refine r_iret hC hE hR dX4_comeToRest_34 (by omega) (by omega) (hlen) ?_
      have c9 : hNext f op sl 25 = none := (oI_none (N := 25) (fun k h => hNext_lt h) (by decide)).mp c15
      rw [hRest_none (x := (f, g, sl, op, lo)) c9, hillSet_same H] at hP9
      exact hP9
set_option maxRecDepth 100000 in
set_option maxHeartbeats 4000000 in
theorem sp_rest {d : Nat} {w : mW} {h a b : Nat} {f g : Nat → Int32} {sl op lo : Int32} (H : HillAt w h a b (f, g, sl, op, lo)) : Sp (d + 3) yX4_comeToRest cX4_comeToRest 3 (some .int) [.ref h] w 0 0 (fun v w' => v = some (.int (nI (hRestF (f, g, sl, op, lo)).1)) ∧ w' = hillSet w h a b (hRestF (f, g, sl, op, lo)).2) noX := by
  refine Sp.of (by decide +kernel) (Nat.le_of_ble_eq_true rfl) (fun X hC hnl hE hR hN => ?_)
  have hC : Cx X RX4 cX4_comeToRest (d + 3) 0 0 := hC
  show Wp X 0 0 w [(0, .ref h)] [] 0
  refine r_iconst hC dX4_comeToRest_0 (v := 0) (by decide) ?_
  refine r_istore_n hC dX4_comeToRest_1 rfl (by rw [hnl]; decide) (L' := [(1, .int 0), (0, .ref h)]) rfl ?_
  refine r_locals [1, 0] (L' := [(0, .ref h), (1, .int 0)]) rfl ?_
  exact ctr_loop hC hnl hE hR 50000 0 [] w f g sl op lo rfl H rfl (Or.inl rfl) ⟨by rw [Nat.zero_add]; rfl, rfl⟩
end HL3
