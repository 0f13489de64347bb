section RD
/-- a builder's text as the row of numbers that the reference has -/
def tT (tx : List Nat) : Nat → Int32 := fun i => nI (tx.getD i 0)
def txP (w : mW) (t : Nat) (cn ps : Int32) : mW := w.set t (mO 5 [.ref (t + 1), .ref (t + 2), .int cn, .int ps])
theorem TxAt.pos {w : mW} {t : Nat} {tx : List Nat} {cn ps : Int32} {cs : Nat → cmdT} (H : TxAt w t tx cn ps cs) (cn' ps' : Int32) : TxAt (txP w t cn' ps') t tx cn' ps' cs :=
  ⟨List.getElem?_set_self (lt_of_get H.1), (List.getElem?_set_ne (by omega)).trans H.2.1, (List.getElem?_set_ne (by omega)).trans H.2.2.1, fun i hi => (List.getElem?_set_ne (by omega)).trans (H.2.2.2 i hi)⟩
theorem txP_txP {w : mW} {t : Nat} {a b c d : Int32} : txP (txP w t a b) t c d = txP w t c d := List.set_set ..
theorem txP_same {w : mW} {t : Nat} {tx : List Nat} {cn ps : Int32} {cs : Nat → cmdT} (H : TxAt w t tx cn ps cs) : txP w t cn ps = w := set_same H.1
theorem sgn_in {t : Nat → Int32} {e h : Nat} (hh : h < e) : sgn t e h = t h := if_pos hh
theorem sgn_out {t : Nat → Int32} {e h : Nat} (hh : e ≤ h) : sgn t e h = -1 := if_neg (by omega)
theorem dg_out {t : Nat → Int32} {e h : Nat} (hh : e ≤ h) : dg (sgn t e h) = false := by rw [sgn_out hh]; decide
theorem dg_in {t : Nat → Int32} {e h : Nat} (hd : dg (sgn t e h) = true) : h < e := by
  rcases Nat.lt_or_ge h e with z | z
  · exact z
  · rw [dg_out z] at hd; cases hd
theorem nI_inj60 {a b : Nat} (ha : a ≤ 1000) (hb : b ≤ 1000) : nI a ≤ nI b ↔ a ≤ b := nI_leI (by omega) (by omega)
set_option maxRecDepth 100000 in
set_option maxHeartbeats 4000000 in
theorem sx_sign {d : Nat} {c : Int32} {w : mW} {t h : Nat} {tx : List Nat} {cn : Int32} {cs : Nat → cmdT} (H : TxAt w t tx cn (nI h) cs) (hl : tx.length ≤ 60) (hh : h ≤ tx.length) (hc : ¬ (-1 : Int32) = c) : Sp (d + 5) yX2_readSign cX2_readSign 2 (some .boolean) [.ref t, .int c] w 0 0 (fun v w' => (sgn (tT tx) tx.length h = c ∧ v = some (.int 1) ∧ w' = txP w t cn (nI (h + 1))) ∨ (¬ sgn (tT tx) tx.length h = c ∧ v = some (.int 0) ∧ w' = w)) noX := by
  refine Sp.of (by decide +kernel) (Nat.le_of_ble_eq_true rfl) (fun X hC hnl hE hR hN => ?_)
  have hC : Cx X RX2 cX2_readSign (d + 5) 0 0 := hC
  show Wp X 0 0 w [(0, .ref t), (1, .int c)] [] 0
  have ho := H.1
  have hs := H.2.1
  refine r_aload_n hC dX2_readSign_0 rfl (j := 0) rfl ?_
  refine r_get hC gX2_readSign_1 ho (v := .int (nI h)) rfl ?_
  refine r_aload_n hC dX2_readSign_4 rfl (j := 0) rfl ?_
  refine r_get hC gX2_readSign_5 ho (v := .ref (t + 1)) rfl ?_
  refine r_callXT hC (vs := []) vX2_readSign_8.x (st_len (d := d) hs) hs rfl rfl (by omega) (by omega) (by omega) (Nat.le_of_ble_eq_true rfl) (fun v_1 w_1 hP_1 hlen_1 => ?_)
  rw [hP_1.1, hP_1.2]
  show Wp X 0 0 w [(0, .ref t), (1, .int c)] [.int (nI tx.length), .int (nI h)] 11
  refine r_icmp_ge hC dX2_readSign_11 (tgt := 29) (by decide) (fun c11 => ?_) (fun c11 => ?_)
  · refine r_iconst hC dX2_readSign_29 (v := 0) (by decide) ?_
    refine r_nret hC hE hR dX2_readSign_30 (by decide) (by omega) (by omega) (rfl) ?_
    exact Or.inr ⟨by rw [sgn_out ((nI_inj60 (by omega) (by omega)).mp c11)]; exact hc, rfl, rfl⟩
  · have hlt : h < tx.length := Nat.lt_of_not_le (fun z => c11 ((nI_inj60 (by omega) (by omega)).mpr z))
    refine r_aload_n hC dX2_readSign_14 rfl (j := 0) rfl ?_
    refine r_get hC gX2_readSign_15 ho (v := .ref (t + 1)) rfl ?_
    refine r_aload_n hC dX2_readSign_18 rfl (j := 0) rfl ?_
    refine r_get hC gX2_readSign_19 ho (v := .int (nI h)) rfl ?_
    refine r_callXT hC (vs := [.int (nI h)]) vX2_readSign_22.x (st_chr (d := d) hs (by omega)) hs rfl rfl (by omega) (by omega) (by omega) (Nat.le_of_ble_eq_true rfl) (fun v_2 w_2 hP_2 hlen_2 => ?_)
    rw [hP_2.1, hP_2.2]
    show Wp X 0 0 w [(0, .ref t), (1, .int c)] [.int (nI (tx.getD h 0))] 25
    refine r_iload_n hC dX2_readSign_25 rfl (j := 1) rfl ?_
    refine r_icmp_eq hC dX2_readSign_26 (tgt := 31) (by decide) (fun c26 => ?_) (fun c26 => ?_)
    · refine r_aload_n hC dX2_readSign_31 rfl (j := 0) rfl ?_
      refine r_dup hC dX2_readSign_32 rfl ?_
      refine r_get hC gX2_readSign_33 ho (v := .int (nI h)) rfl ?_
      refine r_iconst hC dX2_readSign_36 (v := 1) (by decide) ?_
      refine r_iadd hC dX2_readSign_37 ?_
      refine r_put' hC pX2_readSign_38 ho (Nat.le_of_ble_eq_true rfl) (fun _ => rfl) (fun _ => rfl) (fun w_3 ew_3 => ?_)
      have hf3_t : w_3[t]? = some (mO 5 [.ref (t + 1), .ref (t + 2), .int cn, .int ((nI h) + 1)]) := by rw [ew_3]; exact List.getElem?_set_self (lt_of_get ho)
      have hf3__t___1_ : w_3[(t + 1)]? = some (mT tx) := by rw [ew_3, List.getElem?_set_ne (by omega)]; exact hs
      refine r_iconst hC dX2_readSign_41 (v := 1) (by decide) ?_
      refine r_nret hC hE hR dX2_readSign_42 (by decide) (by omega) (by omega) (by simp only [ew_3, List.length_set]) ?_
      exact Or.inl ⟨by rw [sgn_in hlt]; exact c26, rfl, by rw [ew_3, nI_succ]; rfl⟩
    · refine r_iconst hC dX2_readSign_29 (v := 0) (by decide) ?_
      refine r_nret hC hE hR dX2_readSign_30 (by decide) (by omega) (by omega) (rfl) ?_
      exact Or.inr ⟨by rw [sgn_in hlt]; exact c26, rfl, rfl⟩
set_option maxRecDepth 100000 in
set_option maxHeartbeats 4000000 in
theorem sx_isd {d : Nat} {w : mW} {t h : Nat} {tx : List Nat} {cn : Int32} {cs : Nat → cmdT} (H : TxAt w t tx cn (nI h) cs) (hl : tx.length ≤ 60) (hh : h ≤ tx.length) : Sp (d + 5) yX2_isDigitNext cX2_isDigitNext 1 (some .boolean) [.ref t] w 0 0 (fun v w' => v = some (.int (bI (dg (sgn (tT tx) tx.length h)))) ∧ w' = w) noX := by
  refine Sp.of (by decide +kernel) (Nat.le_of_ble_eq_true rfl) (fun X hC hnl hE hR hN => ?_)
  have hC : Cx X RX2 cX2_isDigitNext (d + 5) 0 0 := hC
  show Wp X 0 0 w [(0, .ref t)] [] 0
  have ho := H.1
  have hs := H.2.1
  refine r_aload_n hC dX2_isDigitNext_0 rfl (j := 0) rfl ?_
  refine r_get hC gX2_isDigitNext_1 ho (v := .int (nI h)) rfl ?_
  refine r_aload_n hC dX2_isDigitNext_4 rfl (j := 0) rfl ?_
  refine r_get hC gX2_isDigitNext_5 ho (v := .ref (t + 1)) rfl ?_
  refine r_callXT hC (vs := []) vX2_isDigitNext_8.x (st_len (d := d) hs) hs rfl rfl (by omega) (by omega) (by omega) (Nat.le_of_ble_eq_true rfl) (fun v_1 w_1 hP_1 hlen_1 => ?_)
  rw [hP_1.1, hP_1.2]
  show Wp X 0 0 w [(0, .ref t)] [.int (nI tx.length), .int (nI h)] 11
  refine r_icmp_ge hC dX2_isDigitNext_11 (tgt := 50) (by decide) (fun c11 => ?_) (fun c11 => ?_)
  · refine r_iconst hC dX2_isDigitNext_50 (v := 0) (by decide) ?_
    refine r_nret hC hE hR dX2_isDigitNext_51 (by decide) (by omega) (by omega) (rfl) ?_
    exact ⟨by rw [dg_out ((nI_inj60 (by omega) (by omega)).mp c11)]; rfl, rfl⟩
  · have hlt : h < tx.length := Nat.lt_of_not_le (fun z => c11 ((nI_inj60 (by omega) (by omega)).mpr z))
    refine r_aload_n hC dX2_isDigitNext_14 rfl (j := 0) rfl ?_
    refine r_get hC gX2_isDigitNext_15 ho (v := .ref (t + 1)) rfl ?_
    refine r_aload_n hC dX2_isDigitNext_18 rfl (j := 0) rfl ?_
    refine r_get hC gX2_isDigitNext_19 ho (v := .int (nI h)) rfl ?_
    refine r_callXT hC (vs := [.int (nI h)]) vX2_isDigitNext_22.x (st_chr (d := d) hs (by omega)) hs rfl rfl (by omega) (by omega) (by omega) (Nat.le_of_ble_eq_true rfl) (fun v_2 w_2 hP_2 hlen_2 => ?_)
    rw [hP_2.1, hP_2.2]
    show Wp X 0 0 w [(0, .ref t)] [.int (nI (tx.getD h 0))] 25
    refine r_bipush hC dX2_isDigitNext_25 (v := 48) (by decide) ?_
    refine r_icmp_lt hC dX2_isDigitNext_27 (tgt := 50) (by decide) (fun c27 => ?_) (fun c27 => ?_)
    · refine r_iconst hC dX2_isDigitNext_50 (v := 0) (by decide) ?_
      refine r_nret hC hE hR dX2_isDigitNext_51 (by decide) (by omega) (by omega) (rfl) ?_
      have e9 : dg (tT tx h) = false := by
        unfold dg isI
        rw [show decide (tT tx h < 48) = true from decide_eq_true c27]
        rfl
      exact ⟨by rw [sgn_in hlt, e9]; rfl, rfl⟩
    · refine r_aload_n hC dX2_isDigitNext_30 rfl (j := 0) rfl ?_
      refine r_get hC gX2_isDigitNext_31 ho (v := .ref (t + 1)) rfl ?_
      refine r_aload_n hC dX2_isDigitNext_34 rfl (j := 0) rfl ?_
      refine r_get hC gX2_isDigitNext_35 ho (v := .int (nI h)) rfl ?_
      refine r_callXT hC (vs := [.int (nI h)]) vX2_isDigitNext_38.x (st_chr (d := d) hs (by omega)) hs rfl rfl (by omega) (by omega) (by omega) (Nat.le_of_ble_eq_true rfl) (fun v_3 w_3 hP_3 hlen_3 => ?_)
      rw [hP_3.1, hP_3.2]
      show Wp X 0 0 w [(0, .ref t)] [.int (nI (tx.getD h 0))] 41
      refine r_bipush hC dX2_isDigitNext_41 (v := 57) (by decide) ?_
      refine r_icmp_gt hC dX2_isDigitNext_43 (tgt := 50) (by decide) (fun c43 => ?_) (fun c43 => ?_)
      · refine r_iconst hC dX2_isDigitNext_50 (v := 0) (by decide) ?_
        refine r_nret hC hE hR dX2_isDigitNext_51 (by decide) (by omega) (by omega) (rfl) ?_
        have e9 : dg (tT tx h) = false := by
          unfold dg isI
          rw [show decide (tT tx h < 48) = false from decide_eq_false c27, show decide (57 < tT tx h) = true from decide_eq_true c43]
          rfl
        exact ⟨by rw [sgn_in hlt, e9]; rfl, rfl⟩
      · refine r_iconst hC dX2_isDigitNext_46 (v := 1) (by decide) ?_
        refine r_goto hC dX2_isDigitNext_47 (tgt := 51) (by decide) ?_
        refine r_nret hC hE hR dX2_isDigitNext_51 (by decide) (by omega) (by omega) (rfl) ?_
        have e9 : dg (tT tx h) = true := by
          unfold dg isI
          rw [show decide (tT tx h < 48) = false from decide_eq_false c27, show decide (57 < tT tx h) = false from decide_eq_false c43]
          rfl
        exact ⟨by rw [sgn_in hlt, e9]; rfl, rfl⟩
set_option maxRecDepth 100000 in
set_option maxHeartbeats 4000000 in
theorem sx_dig {d : Nat} {w : mW} {t h : Nat} {tx : List Nat} {cn : Int32} {cs : Nat → cmdT} (H : TxAt w t tx cn (nI h) cs) (hl : tx.length ≤ 60) (hh : h ≤ tx.length) (hlt : h < tx.length) : Sp (d + 5) yX2_readDigit cX2_readDigit 2 (some .int) [.ref t] w 0 0 (fun v w' => v = some (.int (sgn (tT tx) tx.length h - 48)) ∧ w' = txP w t cn (nI (h + 1))) noX := by
  refine Sp.of (by decide +kernel) (Nat.le_of_ble_eq_true rfl) (fun X hC hnl hE hR hN => ?_)
  have hC : Cx X RX2 cX2_readDigit (d + 5) 0 0 := hC
  show Wp X 0 0 w [(0, .ref t)] [] 0
  have ho := H.1
  have hs := H.2.1
  refine r_aload_n hC dX2_readDigit_0 rfl (j := 0) rfl ?_
  refine r_get hC gX2_readDigit_1 ho (v := .ref (t + 1)) rfl ?_
  refine r_aload_n hC dX2_readDigit_4 rfl (j := 0) rfl ?_
  refine r_get hC gX2_readDigit_5 ho (v := .int (nI h)) rfl ?_
  refine r_callXT hC (vs := [.int (nI h)]) vX2_readDigit_8.x (st_chr (d := d) hs (by omega)) hs rfl rfl (by omega) (by omega) (by omega) (Nat.le_of_ble_eq_true rfl) (fun v_1 w_1 hP_1 hlen_1 => ?_)
  rw [hP_1.1, hP_1.2]
  show Wp X 0 0 w [(0, .ref t)] [.int (nI (tx.getD h 0))] 11
  refine r_bipush hC dX2_readDigit_11 (v := 48) (by decide) ?_
  refine r_isub hC dX2_readDigit_13 ?_
  refine r_istore_n hC dX2_readDigit_14 rfl (by rw [hnl]; decide) (L' := [(1, .int ((nI (tx.getD h 0)) - 48)), (0, .ref t)]) rfl ?_
  refine r_aload_n hC dX2_readDigit_15 rfl (j := 1) rfl ?_
  refine r_dup hC dX2_readDigit_16 rfl ?_
  refine r_get hC gX2_readDigit_17 ho (v := .int (nI h)) rfl ?_
  refine r_iconst hC dX2_readDigit_20 (v := 1) (by decide) ?_
  refine r_iadd hC dX2_readDigit_21 ?_
  refine r_put' hC pX2_readDigit_22 ho (Nat.le_of_ble_eq_true rfl) (fun _ => rfl) (fun _ => rfl) (fun w_2 ew_2 => ?_)
  have hf2_t : w_2[t]? = some (mO 5 [.ref (t + 1), .ref (t + 2), .int cn, .int ((nI h) + 1)]) := by rw [ew_2]; exact List.getElem?_set_self (lt_of_get ho)
  have hf2__t___1_ : w_2[(t + 1)]? = some (mT tx) := by rw [ew_2, List.getElem?_set_ne (by omega)]; exact hs
  refine r_iload_n hC dX2_readDigit_25 rfl (j := 0) rfl ?_
  refine r_iret hC hE hR dX2_readDigit_26 (by omega) (by omega) (by simp only [ew_2, List.length_set]) ?_
  exact ⟨by rw [sgn_in hlt]; rfl, by rw [ew_2, nI_succ]; rfl⟩
theorem i32_assoc (a b c : Int32) : a + b - c = a + (b - c) := by rw [Int32.sub_eq_add_neg, Int32.sub_eq_add_neg, Int32.add_assoc]
/-- the number that stands at h: of one digit, or of two where it may -/
def rNum (t : Nat → Int32) (e h : Nat) (b : Bool) : Int32 × Nat := if b = true ∧ dg (sgn t e (h + 1)) = true then (10 * (sgn t e h - 48) + (sgn t e (h + 1) - 48), h + 1 + 1) else (sgn t e h - 48, h + 1)
theorem rNum_dig {t : Nat → Int32} {e h : Nat} (hd : dg (sgn t e h) = true) (most : Nat) : pDig t e h most = (some (rNum t e h (decide (most = 2))).1, (rNum t e h (decide (most = 2))).2) := by
  unfold pDig rNum
  rw [if_pos hd]
  by_cases z : most = 2 ∧ dg (sgn t e (h + 1)) = true
  · rw [if_pos z, if_pos ⟨decide_eq_true z.1, z.2⟩]
    show (some (10 * (sgn t e h - 48) + sgn t e (h + 1) - 48), h + 1 + 1) = _
    rw [i32_assoc]
  · rw [if_neg z, if_neg (fun q => z ⟨of_decide_eq_true q.1, q.2⟩)]
set_option maxRecDepth 100000 in
set_option maxHeartbeats 4000000 in
theorem sx_num0 {d : Nat} {w : mW} {t h : Nat} {tx : List Nat} {cn : Int32} {cs : Nat → cmdT} (H : TxAt w t tx cn (nI h) cs) (hl : tx.length ≤ 60) (hh : h ≤ tx.length) (hlt : h < tx.length) : Sp (d + 6) yX2_readNumber cX2_readNumber 3 (some .int) [.ref t, .int 0] w 0 0 (fun v w' => v = some (.int (rNum (tT tx) tx.length h false).1) ∧ w' = txP w t cn (nI (rNum (tT tx) tx.length h false).2)) noX := by
  refine Sp.of (by decide +kernel) (Nat.le_of_ble_eq_true rfl) (fun X hC hnl hE hR hN => ?_)
  have hC : Cx X RX2 cX2_readNumber (d + 6) 0 0 := hC
  show Wp X 0 0 w [(0, .ref t), (1, .int 0)] [] 0
  have ho := H.1
  have hs := H.2.1
  refine r_aload_n hC dX2_readNumber_0 rfl (j := 0) rfl ?_
  refine r_callV hC (vs := []) vX2_readNumber_1 (sx_dig (d := d) H hl (by omega) hlt) ho rfl rfl (by omega) (by omega) (by omega) (Nat.le_of_ble_eq_true rfl) (fun v_1 w_1 hP_1 hlen_1 => ?_) (fun _ _ h => h.elim)
  obtain ⟨rfl, ew_1⟩ := hP_1
  have H1 : TxAt w_1 t tx cn (nI (h + 1)) cs := by rw [ew_1]; exact H.pos _ _
  show Wp X 0 0 w_1 [(0, .ref t), (1, .int 0)] [.int (sgn (tT tx) tx.length h - 48)] 4
  refine r_istore_n hC dX2_readNumber_4 rfl (by rw [hnl]; decide) (L' := [(2, .int (sgn (tT tx) tx.length h - 48)), (0, .ref t), (1, .int 0)]) rfl ?_
  refine r_iload_n hC dX2_readNumber_5 rfl (j := 2) rfl ?_
  refine r_if_eq hC dX2_readNumber_6 (tgt := 26) (by decide) (fun _ => ?_) (fun h => absurd (by decide) h)
  refine r_iload_n hC dX2_readNumber_26 rfl (j := 0) rfl ?_
  refine r_iret hC hE hR dX2_readNumber_27 (by omega) (by omega) (by simp only [ew_1, txP, List.length_set]) ?_
  refine ⟨?_, ?_⟩
  · unfold rNum; rw [if_neg (fun q => by cases q.1)]
  · rw [ew_1]; unfold rNum; rw [if_neg (fun q => by cases q.1)]
set_option maxRecDepth 100000 in
set_option maxHeartbeats 4000000 in
theorem sx_num1 {d : Nat} {w : mW} {t h : Nat} {tx : List Nat} {cn : Int32} {cs : Nat → cmdT} (H : TxAt w t tx cn (nI h) cs) (hl : tx.length ≤ 60) (hh : h ≤ tx.length) (hlt : h < tx.length) : Sp (d + 6) yX2_readNumber cX2_readNumber 3 (some .int) [.ref t, .int 1] w 0 0 (fun v w' => v = some (.int (rNum (tT tx) tx.length h true).1) ∧ w' = txP w t cn (nI (rNum (tT tx) tx.length h true).2)) noX := by
  refine Sp.of (by decide +kernel) (Nat.le_of_ble_eq_true rfl) (fun X hC hnl hE hR hN => ?_)
  have hC : Cx X RX2 cX2_readNumber (d + 6) 0 0 := hC
  show Wp X 0 0 w [(0, .ref t), (1, .int 1)] [] 0
  have ho := H.1
  have hs := H.2.1
  refine r_aload_n hC dX2_readNumber_0 rfl (j := 0) rfl ?_
  refine r_callV hC (vs := []) vX2_readNumber_1 (sx_dig (d := d) H hl (by omega) hlt) ho rfl rfl (by omega) (by omega) (by omega) (Nat.le_of_ble_eq_true rfl) (fun v_1 w_1 hP_1 hlen_1 => ?_) (fun _ _ h => h.elim)
  obtain ⟨rfl, ew_1⟩ := hP_1
  have H1 : TxAt w_1 t tx cn (nI (h + 1)) cs := by rw [ew_1]; exact H.pos _ _
  show Wp X 0 0 w_1 [(0, .ref t), (1, .int 1)] [.int (sgn (tT tx) tx.length h - 48)] 4
  refine r_istore_n hC dX2_readNumber_4 rfl (by rw [hnl]; decide) (L' := [(2, .int (sgn (tT tx) tx.length h - 48)), (0, .ref t), (1, .int 1)]) rfl ?_
  refine r_iload_n hC dX2_readNumber_5 rfl (j := 2) rfl ?_
  refine r_if_eq hC dX2_readNumber_6 (tgt := 26) (by decide) (fun h => absurd h (by decide)) (fun _ => ?_)
  refine r_aload_n hC dX2_readNumber_9 rfl (j := 1) rfl ?_
  refine r_callV hC (vs := []) vX2_readNumber_10 (sx_isd (d := d) H1 hl (by omega)) H1.1 rfl rfl (by omega) (by omega) (by omega) (Nat.le_of_ble_eq_true rfl) (fun v_2 w_2 hP_2 hlen_2 => ?_) (fun _ _ h => h.elim)
  rw [hP_2.1, hP_2.2]
  show Wp X 0 0 w_1 [(2, .int (sgn (tT tx) tx.length h - 48)), (0, .ref t), (1, .int 1)] [.int (bI (dg (sgn (tT tx) tx.length (h + 1))))] 13
  refine r_if_eq hC dX2_readNumber_13 (tgt := 26) (by decide) (fun c13 => ?_) (fun c13 => ?_)
  · refine r_iload_n hC dX2_readNumber_26 rfl (j := 0) rfl ?_
    refine r_iret hC hE hR dX2_readNumber_27 (by omega) (by omega) (by simp only [ew_1, txP, List.length_set]) ?_
    have e9 : ¬ (true = true ∧ dg (sgn (tT tx) tx.length (h + 1)) = true) := fun q => by rw [q.2] at c13; exact absurd c13 (by decide)
    refine ⟨?_, ?_⟩
    · unfold rNum; rw [if_neg e9]
    · rw [ew_1]; unfold rNum; rw [if_neg e9]
  · refine r_bipush hC dX2_readNumber_16 (v := 10) (by decide) ?_
    refine r_iload_n hC dX2_readNumber_18 rfl (j := 0) rfl ?_
    refine r_imul hC dX2_readNumber_19 ?_
    have hl1 : h + 1 < tx.length := dg_in (bI_ne.mp c13)
    refine r_aload_n hC dX2_readNumber_20 rfl (j := 1) rfl ?_
    refine r_callV hC (vs := []) vX2_readNumber_21 (sx_dig (d := d) H1 hl (by omega) hl1) H1.1 rfl rfl (by omega) (by omega) (by omega) (Nat.le_of_ble_eq_true rfl) (fun v_3 w_3 hP_3 hlen_3 => ?_) (fun _ _ h => h.elim)
    obtain ⟨rfl, ew_3⟩ := hP_3
    rw [ew_1, txP_txP] at ew_3
    show Wp X 0 0 w_3 [(2, .int (sgn (tT tx) tx.length h - 48)), (0, .ref t), (1, .int 1)] [.int (sgn (tT tx) tx.length (h + 1) - 48), .int (10 * (sgn (tT tx) tx.length h - 48))] 24
    refine r_iadd hC dX2_readNumber_24 ?_
    refine r_istore_n hC dX2_readNumber_25 rfl (by rw [hnl]; decide) (L' := [(2, .int ((10 * (sgn (tT tx) tx.length h - 48)) + (sgn (tT tx) tx.length (h + 1) - 48))), (0, .ref t), (1, .int 1)]) rfl ?_
    refine r_iload_n hC dX2_readNumber_26 rfl (j := 0) rfl ?_
    refine r_iret hC hE hR dX2_readNumber_27 (by omega) (by omega) (by simp only [ew_3, txP, List.length_set]) ?_
    have e9 : true = true ∧ dg (sgn (tT tx) tx.length (h + 1)) = true := ⟨rfl, bI_ne.mp c13⟩
    refine ⟨?_, ?_⟩
    · unfold rNum; rw [if_pos e9]
    · rw [ew_3]; unfold rNum; rw [if_pos e9]
/-- how many of the word's letters stand from h on -/
def cAl (t : Nat → Int32) (e : Nat) : List Int32 → Nat → Nat
  | [], _ => 0
  | x :: r, h => if sgn t e h = x then cAl t e r (h + 1) + 1 else 0
/-- .. the first n stand there -/
def cPre (t : Nat → Int32) (e : Nat) (l : List Int32) (h n : Nat) : Prop := ∀ i, i < n → sgn t e (h + i) = l.getD i 0
theorem cAl_le {t : Nat → Int32} {e : Nat} : ∀ {l : List Int32} {h : Nat}, cAl t e l h ≤ l.length
  | [], _ => Nat.le_refl 0
  | x :: r, h => by
    unfold cAl
    split
    · exact Nat.succ_le_succ cAl_le
    · exact Nat.zero_le _
theorem cAl_end {t : Nat → Int32} {e : Nat} : ∀ {n : Nat} {l : List Int32} {h : Nat}, n ≤ l.length → cPre t e l h n → (n = l.length ∨ ¬ sgn t e (h + n) = l.getD n 0) → cAl t e l h = n
  | 0, [], _, _, _, _ => rfl
  | 0, x :: r, h, _, _, hn => by
    unfold cAl
    exact if_neg (hn.resolve_left (fun z => by simp at z))
  | n + 1, [], _, hl, _, _ => absurd hl (by simp)
  | n + 1, x :: r, h, hl, hp, hn => by
    unfold cAl
    have h0 : sgn t e h = x := hp 0 (by omega)
    rw [if_pos h0, cAl_end (n := n) (by simpa using hl) (fun i hi => by have := hp (i + 1) (by omega); rw [show h + 1 + i = h + (i + 1) by omega]; simpa using this) (by
      rcases hn with hn | hn
      · exact Or.inl (by simpa using hn)
      · exact Or.inr (by rw [show h + 1 + n = h + (n + 1) by omega]; simpa using hn))]
/-- a constant text, its letters l -/
def KW (h vh : Nat) (l : List Int32) : Prop := ("java/lang/String", "coder", "B", Value.int 0, h) ∈ gFs ∧ ("java/lang/String", "value", "[B", Value.ref vh, h) ∈ gFs ∧ ("java/lang/String", h) ∈ gOs ∧ ((.byte : FieldType), vh, l.length, tArr l) ∈ gTs ∧ l.length < 10 ∧ ∀ i, i < l.length → (l.getD i 0).toNatClampNeg < 128 ∧ l.getD i 0 = nI (l.getD i 0).toNatClampNeg
theorem kw_0 : KW 1000030 1000050 mSt30 := ⟨List.mem_of_getElem? (i := 24) rfl, List.mem_of_getElem? (i := 25) rfl, List.mem_of_getElem? (i := 14) rfl, List.mem_of_getElem? (i := 5) rfl, by decide, by decide +kernel⟩
theorem kw_1 : KW 1000031 1000051 mSt31 := ⟨List.mem_of_getElem? (i := 26) rfl, List.mem_of_getElem? (i := 27) rfl, List.mem_of_getElem? (i := 15) rfl, List.mem_of_getElem? (i := 6) rfl, by decide, by decide +kernel⟩
theorem kw_2 : KW 1000032 1000052 mSt32 := ⟨List.mem_of_getElem? (i := 28) rfl, List.mem_of_getElem? (i := 29) rfl, List.mem_of_getElem? (i := 16) rfl, List.mem_of_getElem? (i := 7) rfl, by decide, by decide +kernel⟩
theorem kw_3 : KW 1000033 1000053 mSt33 := ⟨List.mem_of_getElem? (i := 30) rfl, List.mem_of_getElem? (i := 31) rfl, List.mem_of_getElem? (i := 17) rfl, List.mem_of_getElem? (i := 8) rfl, by decide, by decide +kernel⟩
theorem kw_4 : KW 1000034 1000054 mSt34 := ⟨List.mem_of_getElem? (i := 32) rfl, List.mem_of_getElem? (i := 33) rfl, List.mem_of_getElem? (i := 18) rfl, List.mem_of_getElem? (i := 9) rfl, by decide, by decide +kernel⟩
theorem kw_5 : KW 1000035 1000055 mSt35 := ⟨List.mem_of_getElem? (i := 34) rfl, List.mem_of_getElem? (i := 35) rfl, List.mem_of_getElem? (i := 19) rfl, List.mem_of_getElem? (i := 10) rfl, by decide, by decide +kernel⟩
theorem kw_6 : KW 1000036 1000056 mSt36 := ⟨List.mem_of_getElem? (i := 36) rfl, List.mem_of_getElem? (i := 37) rfl, List.mem_of_getElem? (i := 20) rfl, List.mem_of_getElem? (i := 11) rfl, by decide, by decide +kernel⟩
theorem kw_7 : KW 1000037 1000057 mSt37 := ⟨List.mem_of_getElem? (i := 38) rfl, List.mem_of_getElem? (i := 39) rfl, List.mem_of_getElem? (i := 21) rfl, List.mem_of_getElem? (i := 12) rfl, by decide, by decide +kernel⟩
theorem kw_10 : KW 1000040 1000060 mSt40 := ⟨List.mem_of_getElem? (i := 40) rfl, List.mem_of_getElem? (i := 41) rfl, List.mem_of_getElem? (i := 22) rfl, List.mem_of_getElem? (i := 13) rfl, by decide, by decide +kernel⟩
theorem kw_11 : KW 1000041 1000061 mSt41 := ⟨List.mem_of_getElem? (i := 42) rfl, List.mem_of_getElem? (i := 43) rfl, List.mem_of_getElem? (i := 23) rfl, List.mem_of_getElem? (i := 14) rfl, by decide, by decide +kernel⟩
theorem kw_12 : KW 1000042 1000062 mSt42 := ⟨List.mem_of_getElem? (i := 44) rfl, List.mem_of_getElem? (i := 45) rfl, List.mem_of_getElem? (i := 24) rfl, List.mem_of_getElem? (i := 15) rfl, by decide, by decide +kernel⟩
theorem kw_13 : KW 1000043 1000063 mSt43 := ⟨List.mem_of_getElem? (i := 46) rfl, List.mem_of_getElem? (i := 47) rfl, List.mem_of_getElem? (i := 25) rfl, List.mem_of_getElem? (i := 16) rfl, by decide, by decide +kernel⟩
theorem kw_14 : KW 1000044 1000064 mSt44 := ⟨List.mem_of_getElem? (i := 48) rfl, List.mem_of_getElem? (i := 49) rfl, List.mem_of_getElem? (i := 26) rfl, List.mem_of_getElem? (i := 17) rfl, by decide, by decide +kernel⟩
theorem kw_15 : KW 1000045 1000065 mSt45 := ⟨List.mem_of_getElem? (i := 50) rfl, List.mem_of_getElem? (i := 51) rfl, List.mem_of_getElem? (i := 27) rfl, List.mem_of_getElem? (i := 18) rfl, by decide, by decide +kernel⟩
set_option maxRecDepth 100000 in
set_option maxHeartbeats 4000000 in
theorem ca_all {X : mC} {d hw vh : Nat} {l : List Int32} {w : mW} {t h : Nat} {tx : List Nat} {cn : Int32} {cs : Nat → cmdT} {P : Option Value → mW → Prop} (hC : Cx X RX2 cX2_countAlike (d + 5) 0 0) (hnl : mNL X = 3) (hE : mEnd X w.length 0 0 P noX) (hR : mRet X (some .int)) (H : TxAt w t tx cn (nI h) cs) (hl : tx.length ≤ 60) (hh : h ≤ tx.length) (hK : KW hw vh l) (hP : P (some (.int (nI (cAl (tT tx) tx.length l h)))) w) : ∀ i9 n : Nat, n + i9 = l.length → cPre (tT tx) tx.length l h n → Wp X 0 0 w [(0, .ref t), (1, .ref hw), (2, .int (nI n))] [] 2 := by
  have ho := H.1
  have hs := H.2.1
  have hl10 := hK.2.2.2.2.1
  have hfin : ∀ n, n ≤ l.length → cPre (tT tx) tx.length l h n → (n = l.length ∨ ¬ sgn (tT tx) tx.length (h + n) = l.getD n 0) → Wp X 0 0 w [(0, .ref t), (1, .ref hw), (2, .int (nI n))] [] 53 := fun n h1 h2 h3 => by
    rw [cAl_end h1 h2 h3] at hP
    refine r_iload_n hC dX2_countAlike_53 rfl (j := 2) rfl ?_
    exact r_iret hC hE hR dX2_countAlike_54 (by omega) (by omega) rfl hP
  intro i9
  induction i9 with
  | zero =>
    intro n h9 hp
    obtain rfl : n = l.length := by omega
    refine r_iload_n hC dX2_countAlike_2 rfl (j := 2) rfl ?_
    refine r_aload_n hC dX2_countAlike_3 rfl (j := 1) rfl ?_
    refine r_callXK hC (vs := []) vX2_countAlike_4.x (sk_len (d := d) hK.1 hK.2.1 hK.2.2.1 hK.2.2.2.1) hK.2.2.1 rfl (by omega) (by omega) (by omega) (Nat.le_of_ble_eq_true rfl) (fun v_1 w_1 hP_1 hlen_1 => ?_)
    rw [hP_1.1, hP_1.2]
    show Wp X 0 0 w [(0, .ref t), (1, .ref hw), (2, .int (nI l.length))] [.int (nI l.length), .int (nI l.length)] 7
    refine r_icmp_ge hC dX2_countAlike_7 (tgt := 53) (by decide) (fun _ => ?_) (fun h => absurd (Int32.le_refl _) h)
    exact hfin l.length (Nat.le_refl _) hp (Or.inl rfl)
  | succ i9 ih =>
    intro n h9 hp
    have hn9 : n < l.length := by omega
    refine r_iload_n hC dX2_countAlike_2 rfl (j := 2) rfl ?_
    refine r_aload_n hC dX2_countAlike_3 rfl (j := 1) rfl ?_
    refine r_callXK hC (vs := []) vX2_countAlike_4.x (sk_len (d := d) hK.1 hK.2.1 hK.2.2.1 hK.2.2.2.1) hK.2.2.1 rfl (by omega) (by omega) (by omega) (Nat.le_of_ble_eq_true rfl) (fun v_1 w_1 hP_1 hlen_1 => ?_)
    rw [hP_1.1, hP_1.2]
    show Wp X 0 0 w [(0, .ref t), (1, .ref hw), (2, .int (nI n))] [.int (nI l.length), .int (nI n)] 7
    refine r_icmp_ge hC dX2_countAlike_7 (tgt := 53) (by decide) (fun h => absurd h (Int32.not_le.mpr ((nI_ltS (by omega) (by omega)).mpr hn9))) (fun _ => ?_)
    refine r_aload_n hC dX2_countAlike_10 rfl (j := 0) rfl ?_
    refine r_get hC gX2_countAlike_11 ho (v := .int (nI h)) rfl ?_
    refine r_iload_n hC dX2_countAlike_14 rfl (j := 2) rfl ?_
    refine r_iadd hC dX2_countAlike_15 ?_
    rw [nI_add h n]
    refine r_aload_n hC dX2_countAlike_16 rfl (j := 0) rfl ?_
    refine r_get hC gX2_countAlike_17 ho (v := .ref (t + 1)) rfl ?_
    refine r_callXT hC (vs := []) vX2_countAlike_20.x (st_len (d := d) hs) hs rfl rfl (by omega) (by omega) (by omega) (Nat.le_of_ble_eq_true rfl) (fun v_2 w_2 hP_2 hlen_2 => ?_)
    rw [hP_2.1, hP_2.2]
    show Wp X 0 0 w [(0, .ref t), (1, .ref hw), (2, .int (nI n))] [.int (nI tx.length), .int (nI (h + n))] 23
    refine r_icmp_ge hC dX2_countAlike_23 (tgt := 53) (by decide) (fun c23 => ?_) (fun c23 => ?_)
    · 
      exact hfin n (by omega) hp (Or.inr (by rw [sgn_out ((nI_inj60 (by omega) (by omega)).mp c23), (hK.2.2.2.2.2 n hn9).2]; exact fun z => (nI_pos (n := (l.getD n 0).toNatClampNeg) (by have := (hK.2.2.2.2.2 n hn9).1; omega)) (by rw [← z]; decide)))
    · have hlt : h + n < tx.length := Nat.lt_of_not_le (fun z => c23 ((nI_inj60 (by omega) (by omega)).mpr z))
      refine r_aload_n hC dX2_countAlike_26 rfl (j := 0) rfl ?_
      refine r_get hC gX2_countAlike_27 ho (v := .ref (t + 1)) rfl ?_
      refine r_aload_n hC dX2_countAlike_30 rfl (j := 0) rfl ?_
      refine r_get hC gX2_countAlike_31 ho (v := .int (nI h)) rfl ?_
      refine r_iload_n hC dX2_countAlike_34 rfl (j := 2) rfl ?_
      refine r_iadd hC dX2_countAlike_35 ?_
      rw [nI_add h n]
      refine r_callXT hC (vs := [.int (nI (h + n))]) vX2_countAlike_36.x (st_chr (d := d) hs hlt) hs rfl rfl (by omega) (by omega) (by omega) (Nat.le_of_ble_eq_true rfl) (fun v_3 w_3 hP_3 hlen_3 => ?_)
      rw [hP_3.1, hP_3.2]
      show Wp X 0 0 w [(0, .ref t), (1, .ref hw), (2, .int (nI n))] [.int (nI (tx.getD (h + n) 0))] 39
      refine r_aload_n hC dX2_countAlike_39 rfl (j := 1) rfl ?_
      refine r_iload_n hC dX2_countAlike_40 rfl (j := 2) rfl ?_
      refine r_callXK hC (vs := [.int (nI n)]) vX2_countAlike_41.x (sk_chr (d := d) (c := (l.getD n 0).toNatClampNeg) hK.1 hK.2.1 hK.2.2.1 hK.2.2.2.1 hn9 (by have := hK.2.2.2.2.1; omega) (by show Value.int (l.getD n 0) = _; rw [← (hK.2.2.2.2.2 n hn9).2]) (hK.2.2.2.2.2 n hn9).1) hK.2.2.1 rfl (by omega) (by omega) (by omega) (Nat.le_of_ble_eq_true rfl) (fun v_4 w_4 hP_4 hlen_4 => ?_)
      rw [hP_4.1, hP_4.2]
      show Wp X 0 0 w [(0, .ref t), (1, .ref hw), (2, .int (nI n))] [.int (nI (l.getD n 0).toNatClampNeg), .int (nI (tx.getD (h + n) 0))] 44
      rw [← (hK.2.2.2.2.2 n hn9).2]
      refine r_icmp_ne hC dX2_countAlike_44 (tgt := 53) (by decide) (fun c44 => ?_) (fun c44 => ?_)
      · 
        exact hfin n (by omega) hp (Or.inr (by rw [sgn_in hlt]; exact c44))
      · refine r_iinc hC dX2_countAlike_47 (j := 2) rfl (v := nI (n + 1)) (nI_succ n).symm (by rw [hnl]; decide) (L' := [(2, .int (nI (n + 1))), (0, .ref t), (1, .ref hw)]) rfl ?_
        refine r_goto hC dX2_countAlike_50 (tgt := 2) (by decide) ?_
        refine r_locals [1, 2, 0] (L' := [(0, .ref t), (1, .ref hw), (2, .int (nI (n + 1)))]) rfl ?_
        refine ih (n + 1) (by omega) (fun i hi => ?_)
        rcases Nat.lt_or_ge i n with z | z
        · exact hp i z
        · obtain rfl : i = n := by omega
          rw [sgn_in hlt]
          exact c44
set_option maxRecDepth 100000 in
set_option maxHeartbeats 4000000 in
theorem sx_alike {d hw vh : Nat} {l : List Int32} {w : mW} {t h : Nat} {tx : List Nat} {cn : Int32} {cs : Nat → cmdT} (H : TxAt w t tx cn (nI h) cs) (hl : tx.length ≤ 60) (hh : h ≤ tx.length) (hK : KW hw vh l) : Sp (d + 5) yX2_countAlike cX2_countAlike 3 (some .int) [.ref t, .ref hw] w 0 0 (fun v w' => v = some (.int (nI (cAl (tT tx) tx.length l h))) ∧ w' = w) noX := by
  refine Sp.of (by decide +kernel) (Nat.le_of_ble_eq_true rfl) (fun X hC hnl hE hR hN => ?_)
  have hC : Cx X RX2 cX2_countAlike (d + 5) 0 0 := hC
  show Wp X 0 0 w [(0, .ref t), (1, .ref hw)] [] 0
  refine r_iconst hC dX2_countAlike_0 (v := 0) (by decide) ?_
  refine r_istore_n hC dX2_countAlike_1 rfl (by rw [hnl]; decide) (L' := [(2, .int 0), (0, .ref t), (1, .ref hw)]) rfl ?_
  refine r_locals [1, 2, 0] (L' := [(0, .ref t), (1, .ref hw), (2, .int 0)]) rfl ?_
  exact ca_all (d := d) hC hnl hE hR H hl hh hK ⟨rfl, rfl⟩ l.length 0 (Nat.zero_add _) (fun i hi => absurd hi (Nat.not_lt_zero i))
set_option maxRecDepth 100000 in
set_option maxHeartbeats 4000000 in
theorem sx_set0 {d c kw : Nat} {x x1 x2 x3 : Int32} {w : mW} (hc : w[c]? = some (mO 4 [.ref kw, .int x1, .int x2, .int x3])) : Sp d yX1_setNumber cX1_setNumber 3 none [.ref c, .int 0, .int x] w 0 0 (fun v w' => v = none ∧ w' = w.set c (mO 4 [.ref kw, .int x, .int x2, .int x3])) noX := by
  refine Sp.of (by decide +kernel) (Nat.le_of_ble_eq_true rfl) (fun X hC hnl hE hR hN => ?_)
  have hC : Cx X RX1 cX1_setNumber d 0 0 := hC
  show Wp X 0 0 w [(0, .ref c), (1, .int 0), (2, .int x)] [] 0
  refine r_iload_n hC dX1_setNumber_0 rfl (j := 1) rfl ?_
  refine r_if_ne hC dX1_setNumber_1 (tgt := 12) (by decide) (fun h => absurd (by decide) h) (fun _ => ?_)
  refine r_aload_n hC dX1_setNumber_4 rfl (j := 0) rfl ?_
  refine r_iload_n hC dX1_setNumber_5 rfl (j := 2) rfl ?_
  refine r_put' hC pX1_setNumber_6 hc (Nat.le_of_ble_eq_true rfl) (fun _ => rfl) (fun _ => rfl) (fun w_1 ew_1 => ?_)
  have hf1_c : w_1[c]? = some (mO 4 [.ref kw, .int x, .int x2, .int x3]) := by rw [ew_1]; exact List.getElem?_set_self (lt_of_get hc)
  refine r_goto hC dX1_setNumber_9 (tgt := 30) (by decide) ?_
  refine r_vret hC hE hR dX1_setNumber_30 (by omega) (by omega) (by simp only [ew_1, List.length_set]) ?_
  exact ⟨rfl, ew_1⟩
set_option maxRecDepth 100000 in
set_option maxHeartbeats 4000000 in
theorem sx_set1 {d c kw : Nat} {x x1 x2 x3 : Int32} {w : mW} (hc : w[c]? = some (mO 4 [.ref kw, .int x1, .int x2, .int x3])) : Sp d yX1_setNumber cX1_setNumber 3 none [.ref c, .int 1, .int x] w 0 0 (fun v w' => v = none ∧ w' = w.set c (mO 4 [.ref kw, .int x1, .int x, .int x3])) noX := by
  refine Sp.of (by decide +kernel) (Nat.le_of_ble_eq_true rfl) (fun X hC hnl hE hR hN => ?_)
  have hC : Cx X RX1 cX1_setNumber d 0 0 := hC
  show Wp X 0 0 w [(0, .ref c), (1, .int 1), (2, .int x)] [] 0
  refine r_iload_n hC dX1_setNumber_0 rfl (j := 1) rfl ?_
  refine r_if_ne hC dX1_setNumber_1 (tgt := 12) (by decide) (fun _ => ?_) (fun h => absurd h (by decide))
  refine r_iload_n hC dX1_setNumber_12 rfl (j := 1) rfl ?_
  refine r_iconst hC dX1_setNumber_13 (v := 1) (by decide) ?_
  refine r_icmp_ne hC dX1_setNumber_14 (tgt := 25) (by decide) (fun h => absurd (by decide) h) (fun _ => ?_)
  refine r_aload_n hC dX1_setNumber_17 rfl (j := 0) rfl ?_
  refine r_iload_n hC dX1_setNumber_18 rfl (j := 2) rfl ?_
  refine r_put' hC pX1_setNumber_19 hc (Nat.le_of_ble_eq_true rfl) (fun _ => rfl) (fun _ => rfl) (fun w_1 ew_1 => ?_)
  have hf1_c : w_1[c]? = some (mO 4 [.ref kw, .int x1, .int x, .int x3]) := by rw [ew_1]; exact List.getElem?_set_self (lt_of_get hc)
  refine r_goto hC dX1_setNumber_22 (tgt := 30) (by decide) ?_
  refine r_vret hC hE hR dX1_setNumber_30 (by omega) (by omega) (by simp only [ew_1, List.length_set]) ?_
  exact ⟨rfl, ew_1⟩
set_option maxRecDepth 100000 in
set_option maxHeartbeats 4000000 in
theorem sx_set2 {d c kw : Nat} {x x1 x2 x3 : Int32} {w : mW} (hc : w[c]? = some (mO 4 [.ref kw, .int x1, .int x2, .int x3])) : Sp d yX1_setNumber cX1_setNumber 3 none [.ref c, .int 2, .int x] w 0 0 (fun v w' => v = none ∧ w' = w.set c (mO 4 [.ref kw, .int x1, .int x2, .int x])) noX := by
  refine Sp.of (by decide +kernel) (Nat.le_of_ble_eq_true rfl) (fun X hC hnl hE hR hN => ?_)
  have hC : Cx X RX1 cX1_setNumber d 0 0 := hC
  show Wp X 0 0 w [(0, .ref c), (1, .int 2), (2, .int x)] [] 0
  refine r_iload_n hC dX1_setNumber_0 rfl (j := 1) rfl ?_
  refine r_if_ne hC dX1_setNumber_1 (tgt := 12) (by decide) (fun _ => ?_) (fun h => absurd h (by decide))
  refine r_iload_n hC dX1_setNumber_12 rfl (j := 1) rfl ?_
  refine r_iconst hC dX1_setNumber_13 (v := 1) (by decide) ?_
  refine r_icmp_ne hC dX1_setNumber_14 (tgt := 25) (by decide) (fun _ => ?_) (fun h => absurd h (by decide))
  refine r_aload_n hC dX1_setNumber_25 rfl (j := 0) rfl ?_
  refine r_iload_n hC dX1_setNumber_26 rfl (j := 2) rfl ?_
  refine r_put' hC pX1_setNumber_27 hc (Nat.le_of_ble_eq_true rfl) (fun _ => rfl) (fun _ => rfl) (fun w_1 ew_1 => ?_)
  have hf1_c : w_1[c]? = some (mO 4 [.ref kw, .int x1, .int x2, .int x]) := by rw [ew_1]; exact List.getElem?_set_self (lt_of_get hc)
  refine r_vret hC hE hR dX1_setNumber_30 (by omega) (by omega) (by simp only [ew_1, List.length_set]) ?_
  exact ⟨rfl, ew_1⟩
end RD
