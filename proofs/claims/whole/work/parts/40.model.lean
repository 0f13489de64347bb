section MD
/-- the first nine numbers of the reference's row -/
def encS (y : sv) : List Int32 := [nI y.2.2.2.1, y.1.2.2.1, y.1.2.2.2.1, y.2.2.2.2.1, y.2.2.2.2.2.1, y.2.2.2.2.2.2.1, y.2.2.2.2.2.2.2.1, y.1.2.2.2.2, y.2.2.2.2.2.2.2.2]
/-- a state as the reference's row of numbers -/
def enc (y : sv) (j : Nat) : Int32 := if j < 9 then (encS y).getD j 0 else if j < 13 then y.2.1 (j - 9) else if j < 17 then y.2.2.1 (j - 13) else if j < 42 then y.1.1 (j - 17) else if j < 67 then y.1.2.1 (j - 42) + 1 else 0
section
variable {f g : Nat → Int32} {sl op lo : Int32} {hd rs : Nat → Int32} {np : Nat} {tp av lg pl tk : Int32}
theorem enc_hi {c : Nat} (hc : c < 25) : enc ((f, g, sl, op, lo), hd, rs, np, tp, av, lg, pl, tk) (17 + c) = f c := by
  unfold enc
  rw [if_neg (by omega), if_neg (by omega), if_neg (by omega), if_pos (by omega)]
  show f (17 + c - 17) = f c
  congr 1
  omega
theorem enc_ow {c : Nat} (hc : c < 25) : enc ((f, g, sl, op, lo), hd, rs, np, tp, av, lg, pl, tk) (42 + c) = g c + 1 := by
  unfold enc
  rw [if_neg (by omega), if_neg (by omega), if_neg (by omega), if_neg (by omega), if_pos (by omega)]
  show g (42 + c - 42) + 1 = g c + 1
  congr 2
  omega
theorem enc_hand {c : Nat} (hc : c < 4) : enc ((f, g, sl, op, lo), hd, rs, np, tp, av, lg, pl, tk) (9 + c) = hd c := by
  unfold enc
  rw [if_neg (by omega), if_pos (by omega)]
  show hd (9 + c - 9) = hd c
  congr 1
  omega
theorem enc_rest {c : Nat} (hc : c < 4) : enc ((f, g, sl, op, lo), hd, rs, np, tp, av, lg, pl, tk) (13 + c) = rs c := by
  unfold enc
  rw [if_neg (by omega), if_neg (by omega), if_pos (by omega)]
  show rs (13 + c - 13) = rs c
  congr 1
  omega
theorem upd_hi {c : Nat} {x : Int32} (hc : c < 25) : upd (enc ((f, g, sl, op, lo), hd, rs, np, tp, av, lg, pl, tk)) (17 + c) x = enc ((upd f c x, g, sl, op, lo), hd, rs, np, tp, av, lg, pl, tk) := by
  funext j
  by_cases h : j = 17 + c
  · subst h
    rw [pk_us, enc_hi hc, pk_us]
  · rw [pk_un h]
    unfold enc
    split
    · rfl
    · split
      · rfl
      · split
        · rfl
        · split
          · show f (j - 17) = upd f c x (j - 17)
            rw [pk_un (by omega)]
          · rfl
theorem upd_ow {c : Nat} {x : Int32} (hc : c < 25) : upd (enc ((f, g, sl, op, lo), hd, rs, np, tp, av, lg, pl, tk)) (42 + c) (x + 1) = enc ((f, upd g c x, sl, op, lo), hd, rs, np, tp, av, lg, pl, tk) := by
  funext j
  by_cases h : j = 42 + c
  · subst h
    rw [pk_us, enc_ow hc, pk_us]
  · rw [pk_un h]
    unfold enc
    split
    · rfl
    · split
      · rfl
      · split
        · rfl
        · split
          · rfl
          · split
            · show g (j - 42) + 1 = upd g c x (j - 42) + 1
              rw [pk_un (by omega)]
            · rfl
theorem upd_hand {c : Nat} {x : Int32} (hc : c < 4) : upd (enc ((f, g, sl, op, lo), hd, rs, np, tp, av, lg, pl, tk)) (9 + c) x = enc ((f, g, sl, op, lo), upd hd c x, rs, np, tp, av, lg, pl, tk) := by
  funext j
  by_cases h : j = 9 + c
  · subst h
    rw [pk_us, enc_hand hc, pk_us]
  · rw [pk_un h]
    unfold enc
    split
    · rfl
    · split
      · show hd (j - 9) = upd hd c x (j - 9)
        rw [pk_un (by omega)]
      · rfl
theorem upd_rest {c : Nat} {x : Int32} (hc : c < 4) : upd (enc ((f, g, sl, op, lo), hd, rs, np, tp, av, lg, pl, tk)) (13 + c) x = enc ((f, g, sl, op, lo), hd, upd rs c x, np, tp, av, lg, pl, tk) := by
  funext j
  by_cases h : j = 13 + c
  · subst h
    rw [pk_us, enc_rest hc, pk_us]
  · rw [pk_un h]
    unfold enc
    split
    · rfl
    · split
      · rfl
      · split
        · show rs (j - 13) = upd rs c x (j - 13)
          rw [pk_un (by omega)]
        · rfl
theorem enc_small {y z : sv} {i : Nat} {x : Int32} (hi : i < 9) (h1 : encS z = (encS y).set i x) (h2 : y.2.1 = z.2.1) (h3 : y.2.2.1 = z.2.2.1) (h4 : y.1.1 = z.1.1) (h5 : y.1.2.1 = z.1.2.1) : upd (enc y) i x = enc z := by
  funext j
  unfold enc
  rw [← h2, ← h3, ← h4, ← h5, h1]
  by_cases h : j = i
  · subst h
    rw [pk_us, if_pos hi, List.getD_eq_getElem?_getD, List.getElem?_set_self (by show j < 9; exact hi)]
    rfl
  · rw [pk_un h]
    split
    · rw [List.getD_eq_getElem?_getD, List.getD_eq_getElem?_getD, List.getElem?_set_ne (fun q => h q.symm)]
    · rfl
end
theorem nI_lit (k c : Nat) : nI k + nI c = nI (k + c) := nI_add k c
theorem ix17 {c : Nat} (hc : c < 25) : mIx (17 + nI c) (17 + c) 67 := by
  rw [show (17 : Int32) + nI c = nI (17 + c) from nI_add 17 c]
  exact mIx_nI (by omega) (by decide)
theorem ix42 {c : Nat} (hc : c < 25) : mIx (42 + nI c) (42 + c) 67 := by
  rw [show (42 : Int32) + nI c = nI (42 + c) from nI_add 42 c]
  exact mIx_nI (by omega) (by decide)
theorem ix9 {c : Nat} (hc : c < 4) : mIx (9 + nI c) (9 + c) 67 := by
  rw [show (9 : Int32) + nI c = nI (9 + c) from nI_add 9 c]
  exact mIx_nI (by omega) (by decide)
theorem ix13 {c : Nat} (hc : c < 4) : mIx (13 + nI c) (13 + c) 67 := by
  rw [show (13 : Int32) + nI c = nI (13 + c) from nI_add 13 c]
  exact mIx_nI (by omega) (by decide)
def isI (x a b : Int32) : Bool := !decide (x < a) && !decide (b < x)
theorem isI_C (x : Int32) : isI x 0 24 = isC x := by
  unfold isI isC
  congr 2
theorem isI_S (x : Int32) : isI x 1 9 = isS x := rfl
theorem isI_P {x : Int32} {np : Nat} (hnp : np ≤ 4) : isI x 0 (nI np - 1) = isP x np := by
  unfold isI isP
  congr 2
  rw [decide_eq_decide, Int32.lt_iff_toInt_lt, Int32.le_iff_toInt_le]
  have e : ∀ n, n ≤ 4 → (nI n - 1).toInt = (n : Int) - 1 ∧ (nI n).toInt = (n : Int) := by
    intro n hn
    rcases (show n = 0 ∨ n = 1 ∨ n = 2 ∨ n = 3 ∨ n = 4 by omega) with rfl | rfl | rfl | rfl | rfl <;> decide
  rw [(e np hnp).1, (e np hnp).2]
  omega
set_option maxRecDepth 100000 in
set_option maxHeartbeats 4000000 in
theorem sm_isIn {d : Nat} {w : mW} {x a b : Int32}  : Sp d yX9_isIn cX9_isIn 3 (some .boolean) [.int x, .int a, .int b] w 0 0 (fun v w' => v = some (.int (bI (isI x a b))) ∧ w' = w) noX := by
  refine Sp.of (by decide +kernel) (Nat.le_of_ble_eq_true rfl) (fun X hC hnl hE hR hN => ?_)
  have hC : Cx X RX9 cX9_isIn d 0 0 := hC
  show Wp X 0 0 w [(0, .int x), (1, .int a), (2, .int b)] [] 0
  refine r_iload_n hC dX9_isIn_0 rfl (j := 0) rfl ?_
  refine r_iload_n hC dX9_isIn_1 rfl (j := 1) rfl ?_
  refine r_icmp_lt hC dX9_isIn_2 (tgt := 14) (by decide) (fun c2 => ?_) (fun c2 => ?_)
  · refine r_iconst hC dX9_isIn_14 (v := 0) (by decide) ?_
    refine r_nret hC hE hR dX9_isIn_15 (by decide) (by omega) (by omega) (rfl) ?_
    exact ⟨by simp [isI, bI, c2], rfl⟩
  · refine r_iload_n hC dX9_isIn_5 rfl (j := 0) rfl ?_
    refine r_iload_n hC dX9_isIn_6 rfl (j := 2) rfl ?_
    refine r_icmp_gt hC dX9_isIn_7 (tgt := 14) (by decide) (fun c7 => ?_) (fun c7 => ?_)
    · refine r_iconst hC dX9_isIn_14 (v := 0) (by decide) ?_
      refine r_nret hC hE hR dX9_isIn_15 (by decide) (by omega) (by omega) (rfl) ?_
      exact ⟨by simp [isI, bI, c2, c7], rfl⟩
    · refine r_iconst hC dX9_isIn_10 (v := 1) (by decide) ?_
      refine r_goto hC dX9_isIn_11 (tgt := 15) (by decide) ?_
      refine r_nret hC hE hR dX9_isIn_15 (by decide) (by omega) (by omega) (rfl) ?_
      exact ⟨by simp [isI, bI, c2, c7], rfl⟩
set_option maxRecDepth 100000 in
set_option maxHeartbeats 4000000 in
theorem sm_isCell {d : Nat} {w : mW} {x : Int32}  : Sp (d + 1) yX9_isCell cX9_isCell 1 (some .boolean) [.int x] w 0 0 (fun v w' => v = some (.int (bI (isC x))) ∧ w' = w) noX := by
  refine Sp.of (by decide +kernel) (Nat.le_of_ble_eq_true rfl) (fun X hC hnl hE hR hN => ?_)
  have hC : Cx X RX9 cX9_isCell (d + 1) 0 0 := hC
  show Wp X 0 0 w [(0, .int x)] [] 0
  refine r_iload_n hC dX9_isCell_0 rfl (j := 0) rfl ?_
  refine r_iconst hC dX9_isCell_1 (v := 0) (by decide) ?_
  refine r_bipush hC dX9_isCell_2 (v := 24) (by decide) ?_
  refine r_callS hC (vs := [.int x, .int 0, .int 24]) vX9_isCell_4 (sm_isIn (d := d)) rfl (by omega) (by omega) (by omega) (Nat.le_of_ble_eq_true rfl) (fun v_1 w_1 hP_1 hlen_1 => ?_) (fun _ _ h => h.elim)
  rw [hP_1.1, hP_1.2]
  show Wp X 0 0 w [(0, .int x)] [.int (bI (isI x 0 24))] 7
  refine r_nret hC hE hR dX9_isCell_7 (by cases isI x 0 24 <;> rfl) (by omega) (by omega) (rfl) ?_
  exact ⟨by rw [isI_C], rfl⟩
set_option maxRecDepth 100000 in
set_option maxHeartbeats 4000000 in
theorem sm_isPlayer {d : Nat} {x : Int32} {w : mW} {m : Nat} {th ch ea fa sv0 tn he en ln iw id0 : Int32} {f g : Nat → Int32} {sl op lo : Int32} {hd rs : Nat → Int32} {np : Nat} {tp av lg pl tk : Int32} (hm : w[m]? = some (mO 10 [.int th, .int ch, .int ea, .int fa, .int sv0, .ref (m + 1), .ref (m + 2), .ref (m + 3), .ref (m + 4), .ref (m + 5), .ref (m + 6), .ref (m + 7), .ref (m + 8), .ref (m + 9), .ref (m + 10), .int tn, .int he, .int en, .int ln, .int iw, .int id0])) (hv : w[m + 1]? = some (mI 0 67 (enc ((f, g, sl, op, lo), hd, rs, np, tp, av, lg, pl, tk)))) (hnp : np ≤ 4) : Sp (d + 1) yX9_isPlayer cX9_isPlayer 2 (some .boolean) [.ref m, .int x] w 0 0 (fun v w' => v = some (.int (bI (isP x np))) ∧ w' = w) noX := by
  refine Sp.of (by decide +kernel) (Nat.le_of_ble_eq_true rfl) (fun X hC hnl hE hR hN => ?_)
  have hC : Cx X RX9 cX9_isPlayer (d + 1) 0 0 := hC
  show Wp X 0 0 w [(0, .ref m), (1, .int x)] [] 0
  refine r_iload_n hC dX9_isPlayer_0 rfl (j := 1) rfl ?_
  refine r_iconst hC dX9_isPlayer_1 (v := 0) (by decide) ?_
  refine r_aload_n hC dX9_isPlayer_2 rfl (j := 0) rfl ?_
  refine r_get hC gX9_isPlayer_3 hm (v := .ref (m + 1)) rfl ?_
  refine r_iconst hC dX9_isPlayer_6 (v := 0) (by decide) ?_
  refine r_iald hC dX9_isPlayer_7 (j := 0) hv ⟨by decide, by decide, by decide⟩ ?_
  rw [show enc ((f, g, sl, op, lo), hd, rs, np, tp, av, lg, pl, tk) 0 = nI np from rfl]
  refine r_iconst hC dX9_isPlayer_8 (v := 1) (by decide) ?_
  refine r_isub hC dX9_isPlayer_9 ?_
  refine r_callS hC (vs := [.int x, .int 0, .int ((nI np) - 1)]) vX9_isPlayer_10 (sm_isIn (d := d)) rfl (by omega) (by omega) (by omega) (Nat.le_of_ble_eq_true rfl) (fun v_1 w_1 hP_1 hlen_1 => ?_) (fun _ _ h => h.elim)
  rw [hP_1.1, hP_1.2]
  show Wp X 0 0 w [(0, .ref m), (1, .int x)] [.int (bI (isI x 0 (nI np - 1)))] 13
  refine r_nret hC hE hR dX9_isPlayer_13 (by cases isI x 0 (nI np - 1) <;> rfl) (by omega) (by omega) (rfl) ?_
  exact ⟨by rw [isI_P hnp], rfl⟩
set_option maxRecDepth 100000 in
set_option maxHeartbeats 4000000 in
theorem sm_fail {d : Nat} {x : Int32} {w : mW} {m : Nat} {th ch ea fa sv0 tn he en ln iw id0 : Int32} (hm : w[m]? = some (mO 10 [.int th, .int ch, .int ea, .int fa, .int sv0, .ref (m + 1), .ref (m + 2), .ref (m + 3), .ref (m + 4), .ref (m + 5), .ref (m + 6), .ref (m + 7), .ref (m + 8), .ref (m + 9), .ref (m + 10), .int tn, .int he, .int en, .int ln, .int iw, .int id0])) : Sp d yX9_fail cX9_fail 2 (some .int) [.ref m, .int x] w 0 0 (fun v w' => v = some (.int 0) ∧ w' = w.set m (mO 10 [.int x, .int ch, .int ea, .int fa, .int sv0, .ref (m + 1), .ref (m + 2), .ref (m + 3), .ref (m + 4), .ref (m + 5), .ref (m + 6), .ref (m + 7), .ref (m + 8), .ref (m + 9), .ref (m + 10), .int tn, .int he, .int en, .int ln, .int iw, .int id0])) noX := by
  refine Sp.of (by decide +kernel) (Nat.le_of_ble_eq_true rfl) (fun X hC hnl hE hR hN => ?_)
  have hC : Cx X RX9 cX9_fail d 0 0 := hC
  show Wp X 0 0 w [(0, .ref m), (1, .int x)] [] 0
  refine r_aload_n hC dX9_fail_0 rfl (j := 0) rfl ?_
  refine r_iload_n hC dX9_fail_1 rfl (j := 1) rfl ?_
  refine r_put' hC pX9_fail_2 hm (Nat.le_of_ble_eq_true rfl) (fun _ => rfl) (fun _ => rfl) (fun w_1 ew_1 => ?_)
  have hf1_m : w_1[m]? = some (mO 10 [.int x, .int ch, .int ea, .int fa, .int sv0, .ref (m + 1), .ref (m + 2), .ref (m + 3), .ref (m + 4), .ref (m + 5), .ref (m + 6), .ref (m + 7), .ref (m + 8), .ref (m + 9), .ref (m + 10), .int tn, .int he, .int en, .int ln, .int iw, .int id0]) := by rw [ew_1]; exact List.getElem?_set_self (lt_of_get hm)
  refine r_iconst hC dX9_fail_5 (v := 0) (by decide) ?_
  refine r_iret hC hE hR dX9_fail_6 (by omega) (by omega) (by rw [ew_1, List.length_set]) ?_
  exact ⟨rfl, ew_1⟩
theorem enc_high {f g : Nat → Int32} {sl op lo : Int32} {hd rs : Nat → Int32} {np : Nat} {tp av lg pl tk : Int32} {c : Nat} (hc : c < 25) : enc ((f, g, sl, op, lo), hd, rs, np, tp, av, lg, pl, tk) (17 + c) = f c := enc_hi hc
set_option maxRecDepth 100000 in
set_option maxHeartbeats 4000000 in
theorem sm_high {d c : Nat} {w : mW} {m : Nat} {th ch ea fa sv0 tn he en ln iw id0 : Int32} {f g : Nat → Int32} {sl op lo : Int32} {hd rs : Nat → Int32} {np : Nat} {tp av lg pl tk : Int32} (hm : w[m]? = some (mO 10 [.int th, .int ch, .int ea, .int fa, .int sv0, .ref (m + 1), .ref (m + 2), .ref (m + 3), .ref (m + 4), .ref (m + 5), .ref (m + 6), .ref (m + 7), .ref (m + 8), .ref (m + 9), .ref (m + 10), .int tn, .int he, .int en, .int ln, .int iw, .int id0])) (hv : w[m + 1]? = some (mI 0 67 (enc ((f, g, sl, op, lo), hd, rs, np, tp, av, lg, pl, tk)))) (h25 : f 25 = 0) (hc : c < 26) : Sp d yX9_high cX9_high 2 (some .int) [.ref m, .int (nI c)] w 0 0 (fun v w' => v = some (.int (f c)) ∧ w' = w) noX := by
  refine Sp.of (by decide +kernel) (Nat.le_of_ble_eq_true rfl) (fun X hC hnl hE hR hN => ?_)
  have hC : Cx X RX9 cX9_high d 0 0 := hC
  show Wp X 0 0 w [(0, .ref m), (1, .int (nI c))] [] 0
  refine r_iload_n hC dX9_high_0 rfl (j := 1) rfl ?_
  refine r_bipush hC dX9_high_1 (v := 25) (by decide) ?_
  refine r_icmp_ne hC dX9_high_3 (tgt := 10) (by decide) (fun c3 => ?_) (fun c3 => ?_)
  · refine r_aload_n hC dX9_high_10 rfl (j := 0) rfl ?_
    refine r_get hC gX9_high_11 hm (v := .ref (m + 1)) rfl ?_
    refine r_bipush hC dX9_high_14 (v := 17) (by decide) ?_
    refine r_iload_n hC dX9_high_16 rfl (j := 1) rfl ?_
    refine r_iadd hC dX9_high_17 ?_
    have hc2 : c < 25 := by have : ¬ c = 25 := fun q => c3 (by rw [q]; rfl); omega
    refine r_iald hC dX9_high_18 (j := (17 + c)) hv (ix17 (by omega)) ?_
    rw [enc_hi hc2]
    refine r_iret hC hE hR dX9_high_19 (by omega) (by omega) (rfl) ?_
    exact ⟨rfl, rfl⟩
  · refine r_iconst hC dX9_high_6 (v := 0) (by decide) ?_
    refine r_goto hC dX9_high_7 (tgt := 19) (by decide) ?_
    refine r_iret hC hE hR dX9_high_19 (by omega) (by omega) (rfl) ?_
    have e9 : c = 25 := (lit_eq rfl (by omega) (by decide)).mp c3
    exact ⟨by rw [e9, h25], rfl⟩
def hPick (f : Nat → Int32) (a b : Nat) : Nat := if f b < f a then b else a
theorem hPick_lt {f : Nat → Int32} {a b : Nat} (ha : a < 26) (hb : b < 26) : hPick f a b < 26 := by
  unfold hPick
  split <;> assumption
set_option maxRecDepth 100000 in
set_option maxHeartbeats 4000000 in
theorem sm_lower {d a b : Nat} {w : mW} {m : Nat} {th ch ea fa sv0 tn he en ln iw id0 : Int32} {f g : Nat → Int32} {sl op lo : Int32} {hd rs : Nat → Int32} {np : Nat} {tp av lg pl tk : Int32} (hm : w[m]? = some (mO 10 [.int th, .int ch, .int ea, .int fa, .int sv0, .ref (m + 1), .ref (m + 2), .ref (m + 3), .ref (m + 4), .ref (m + 5), .ref (m + 6), .ref (m + 7), .ref (m + 8), .ref (m + 9), .ref (m + 10), .int tn, .int he, .int en, .int ln, .int iw, .int id0])) (hv : w[m + 1]? = some (mI 0 67 (enc ((f, g, sl, op, lo), hd, rs, np, tp, av, lg, pl, tk)))) (h25 : f 25 = 0) (ha : a < 26) (hb : b < 26) : Sp (d + 1) yX9_lower cX9_lower 3 (some .int) [.ref m, .int (nI a), .int (nI b)] w 0 0 (fun v w' => v = some (.int (nI (hPick f a b))) ∧ w' = w) noX := by
  refine Sp.of (by decide +kernel) (Nat.le_of_ble_eq_true rfl) (fun X hC hnl hE hR hN => ?_)
  have hC : Cx X RX9 cX9_lower (d + 1) 0 0 := hC
  show Wp X 0 0 w [(0, .ref m), (1, .int (nI a)), (2, .int (nI b))] [] 0
  refine r_iload_n hC dX9_lower_0 rfl (j := 1) rfl ?_
  refine r_if_lt hC dX9_lower_1 (tgt := 17) (by decide) (fun h => absurd h (nI_pos (by omega))) (fun _ => ?_)
  refine r_aload_n hC dX9_lower_4 rfl (j := 0) rfl ?_
  refine r_iload_n hC dX9_lower_5 rfl (j := 2) rfl ?_
  refine r_callV hC (vs := [.int (nI b)]) vX9_lower_6 (sm_high (d := d) hm hv h25 hb) hm rfl rfl (by omega) (by omega) (by omega) (Nat.le_of_ble_eq_true rfl) (fun v_1 w_1 hP_1 hlen_1 => ?_) (fun _ _ h => h.elim)
  rw [hP_1.1, hP_1.2]
  show Wp X 0 0 w [(0, .ref m), (1, .int (nI a)), (2, .int (nI b))] [.int (f b)] 9
  refine r_aload_n hC dX9_lower_9 rfl (j := 0) rfl ?_
  refine r_iload_n hC dX9_lower_10 rfl (j := 1) rfl ?_
  refine r_callV hC (vs := [.int (nI a)]) vX9_lower_11 (sm_high (d := d) hm hv h25 ha) hm rfl rfl (by omega) (by omega) (by omega) (Nat.le_of_ble_eq_true rfl) (fun v_2 w_2 hP_2 hlen_2 => ?_) (fun _ _ h => h.elim)
  rw [hP_2.1, hP_2.2]
  show Wp X 0 0 w [(0, .ref m), (1, .int (nI a)), (2, .int (nI b))] [.int (f a), .int (f b)] 14
  refine r_icmp_ge hC dX9_lower_14 (tgt := 21) (by decide) (fun c14 => ?_) (fun c14 => ?_)
  · refine r_iload_n hC dX9_lower_21 rfl (j := 1) rfl ?_
    refine r_iret hC hE hR dX9_lower_22 (by omega) (by omega) (rfl) ?_
    exact ⟨by rw [show hPick f a b = a from if_neg (Int32.not_lt.mpr c14)], rfl⟩
  · refine r_iload_n hC dX9_lower_17 rfl (j := 2) rfl ?_
    refine r_goto hC dX9_lower_18 (tgt := 22) (by decide) ?_
    refine r_iret hC hE hR dX9_lower_22 (by omega) (by omega) (rfl) ?_
    exact ⟨by rw [show hPick f a b = b from if_pos (Int32.not_le.mp c14)], rfl⟩
set_option maxRecDepth 100000 in
set_option maxHeartbeats 4000000 in
theorem sm_lower0 {d b : Nat} {w : mW} {m : Nat} {th ch ea fa sv0 tn he en ln iw id0 : Int32} {f g : Nat → Int32} {sl op lo : Int32} {hd rs : Nat → Int32} {np : Nat} {tp av lg pl tk : Int32} (hm : w[m]? = some (mO 10 [.int th, .int ch, .int ea, .int fa, .int sv0, .ref (m + 1), .ref (m + 2), .ref (m + 3), .ref (m + 4), .ref (m + 5), .ref (m + 6), .ref (m + 7), .ref (m + 8), .ref (m + 9), .ref (m + 10), .int tn, .int he, .int en, .int ln, .int iw, .int id0])) (hv : w[m + 1]? = some (mI 0 67 (enc ((f, g, sl, op, lo), hd, rs, np, tp, av, lg, pl, tk)))) : Sp (d + 1) yX9_lower cX9_lower 3 (some .int) [.ref m, .int (-1), .int (nI b)] w 0 0 (fun v w' => v = some (.int (nI b)) ∧ w' = w) noX := by
  refine Sp.of (by decide +kernel) (Nat.le_of_ble_eq_true rfl) (fun X hC hnl hE hR hN => ?_)
  have hC : Cx X RX9 cX9_lower (d + 1) 0 0 := hC
  show Wp X 0 0 w [(0, .ref m), (1, .int (-1)), (2, .int (nI b))] [] 0
  refine r_iload_n hC dX9_lower_0 rfl (j := 1) rfl ?_
  refine r_if_lt hC dX9_lower_1 (tgt := 17) (by decide) (fun _ => ?_) (fun h => absurd (by decide) h)
  refine r_iload_n hC dX9_lower_17 rfl (j := 2) rfl ?_
  refine r_goto hC dX9_lower_18 (tgt := 22) (by decide) ?_
  refine r_iret hC hE hR dX9_lower_22 (by omega) (by omega) (rfl) ?_
  exact ⟨rfl, rfl⟩
set_option maxRecDepth 100000 in
set_option maxHeartbeats 4000000 in
theorem sm_edge0 {d : Nat} {w : mW}  : Sp d yX9_isEdge cX9_isEdge 1 (some .boolean) [.int 0] w 0 0 (fun v w' => v = some (.int 1) ∧ w' = w) noX := by
  refine Sp.of (by decide +kernel) (Nat.le_of_ble_eq_true rfl) (fun X hC hnl hE hR hN => ?_)
  have hC : Cx X RX9 cX9_isEdge d 0 0 := hC
  show Wp X 0 0 w [(0, .int 0)] [] 0
  refine r_iload_n hC dX9_isEdge_0 rfl (j := 0) rfl ?_
  refine r_iconst hC dX9_isEdge_1 (v := 5) (by decide) ?_
  refine r_idiv hC dX9_isEdge_2 (by decide) ?_
  rw [show (0 / 5 : Int32) = 0 from by decide]
  refine r_if_eq hC dX9_isEdge_3 (tgt := 26) (by decide) (fun _ => ?_) (fun h => absurd (by decide) h)
  refine r_iconst hC dX9_isEdge_26 (v := 1) (by decide) ?_
  refine r_goto hC dX9_isEdge_27 (tgt := 31) (by decide) ?_
  refine r_nret hC hE hR dX9_isEdge_31 (by decide) (by omega) (by omega) (rfl) ?_
  exact ⟨rfl, rfl⟩
set_option maxRecDepth 100000 in
set_option maxHeartbeats 4000000 in
theorem sm_edge1 {d : Nat} {w : mW}  : Sp d yX9_isEdge cX9_isEdge 1 (some .boolean) [.int 1] w 0 0 (fun v w' => v = some (.int 1) ∧ w' = w) noX := by
  refine Sp.of (by decide +kernel) (Nat.le_of_ble_eq_true rfl) (fun X hC hnl hE hR hN => ?_)
  have hC : Cx X RX9 cX9_isEdge d 0 0 := hC
  show Wp X 0 0 w [(0, .int 1)] [] 0
  refine r_iload_n hC dX9_isEdge_0 rfl (j := 0) rfl ?_
  refine r_iconst hC dX9_isEdge_1 (v := 5) (by decide) ?_
  refine r_idiv hC dX9_isEdge_2 (by decide) ?_
  rw [show (1 / 5 : Int32) = 0 from by decide]
  refine r_if_eq hC dX9_isEdge_3 (tgt := 26) (by decide) (fun _ => ?_) (fun h => absurd (by decide) h)
  refine r_iconst hC dX9_isEdge_26 (v := 1) (by decide) ?_
  refine r_goto hC dX9_isEdge_27 (tgt := 31) (by decide) ?_
  refine r_nret hC hE hR dX9_isEdge_31 (by decide) (by omega) (by omega) (rfl) ?_
  exact ⟨rfl, rfl⟩
set_option maxRecDepth 100000 in
set_option maxHeartbeats 4000000 in
theorem sm_edge2 {d : Nat} {w : mW}  : Sp d yX9_isEdge cX9_isEdge 1 (some .boolean) [.int 2] w 0 0 (fun v w' => v = some (.int 1) ∧ w' = w) noX := by
  refine Sp.of (by decide +kernel) (Nat.le_of_ble_eq_true rfl) (fun X hC hnl hE hR hN => ?_)
  have hC : Cx X RX9 cX9_isEdge d 0 0 := hC
  show Wp X 0 0 w [(0, .int 2)] [] 0
  refine r_iload_n hC dX9_isEdge_0 rfl (j := 0) rfl ?_
  refine r_iconst hC dX9_isEdge_1 (v := 5) (by decide) ?_
  refine r_idiv hC dX9_isEdge_2 (by decide) ?_
  rw [show (2 / 5 : Int32) = 0 from by decide]
  refine r_if_eq hC dX9_isEdge_3 (tgt := 26) (by decide) (fun _ => ?_) (fun h => absurd (by decide) h)
  refine r_iconst hC dX9_isEdge_26 (v := 1) (by decide) ?_
  refine r_goto hC dX9_isEdge_27 (tgt := 31) (by decide) ?_
  refine r_nret hC hE hR dX9_isEdge_31 (by decide) (by omega) (by omega) (rfl) ?_
  exact ⟨rfl, rfl⟩
set_option maxRecDepth 100000 in
set_option maxHeartbeats 4000000 in
theorem sm_edge3 {d : Nat} {w : mW}  : Sp d yX9_isEdge cX9_isEdge 1 (some .boolean) [.int 3] w 0 0 (fun v w' => v = some (.int 1) ∧ w' = w) noX := by
  refine Sp.of (by decide +kernel) (Nat.le_of_ble_eq_true rfl) (fun X hC hnl hE hR hN => ?_)
  have hC : Cx X RX9 cX9_isEdge d 0 0 := hC
  show Wp X 0 0 w [(0, .int 3)] [] 0
  refine r_iload_n hC dX9_isEdge_0 rfl (j := 0) rfl ?_
  refine r_iconst hC dX9_isEdge_1 (v := 5) (by decide) ?_
  refine r_idiv hC dX9_isEdge_2 (by decide) ?_
  rw [show (3 / 5 : Int32) = 0 from by decide]
  refine r_if_eq hC dX9_isEdge_3 (tgt := 26) (by decide) (fun _ => ?_) (fun h => absurd (by decide) h)
  refine r_iconst hC dX9_isEdge_26 (v := 1) (by decide) ?_
  refine r_goto hC dX9_isEdge_27 (tgt := 31) (by decide) ?_
  refine r_nret hC hE hR dX9_isEdge_31 (by decide) (by omega) (by omega) (rfl) ?_
  exact ⟨rfl, rfl⟩
set_option maxRecDepth 100000 in
set_option maxHeartbeats 4000000 in
theorem sm_edge4 {d : Nat} {w : mW}  : Sp d yX9_isEdge cX9_isEdge 1 (some .boolean) [.int 4] w 0 0 (fun v w' => v = some (.int 1) ∧ w' = w) noX := by
  refine Sp.of (by decide +kernel) (Nat.le_of_ble_eq_true rfl) (fun X hC hnl hE hR hN => ?_)
  have hC : Cx X RX9 cX9_isEdge d 0 0 := hC
  show Wp X 0 0 w [(0, .int 4)] [] 0
  refine r_iload_n hC dX9_isEdge_0 rfl (j := 0) rfl ?_
  refine r_iconst hC dX9_isEdge_1 (v := 5) (by decide) ?_
  refine r_idiv hC dX9_isEdge_2 (by decide) ?_
  rw [show (4 / 5 : Int32) = 0 from by decide]
  refine r_if_eq hC dX9_isEdge_3 (tgt := 26) (by decide) (fun _ => ?_) (fun h => absurd (by decide) h)
  refine r_iconst hC dX9_isEdge_26 (v := 1) (by decide) ?_
  refine r_goto hC dX9_isEdge_27 (tgt := 31) (by decide) ?_
  refine r_nret hC hE hR dX9_isEdge_31 (by decide) (by omega) (by omega) (rfl) ?_
  exact ⟨rfl, rfl⟩
set_option maxRecDepth 100000 in
set_option maxHeartbeats 4000000 in
theorem sm_edge5 {d : Nat} {w : mW}  : Sp d yX9_isEdge cX9_isEdge 1 (some .boolean) [.int 5] w 0 0 (fun v w' => v = some (.int 1) ∧ w' = w) noX := by
  refine Sp.of (by decide +kernel) (Nat.le_of_ble_eq_true rfl) (fun X hC hnl hE hR hN => ?_)
  have hC : Cx X RX9 cX9_isEdge d 0 0 := hC
  show Wp X 0 0 w [(0, .int 5)] [] 0
  refine r_iload_n hC dX9_isEdge_0 rfl (j := 0) rfl ?_
  refine r_iconst hC dX9_isEdge_1 (v := 5) (by decide) ?_
  refine r_idiv hC dX9_isEdge_2 (by decide) ?_
  rw [show (5 / 5 : Int32) = 1 from by decide]
  refine r_if_eq hC dX9_isEdge_3 (tgt := 26) (by decide) (fun h => absurd h (by decide)) (fun _ => ?_)
  refine r_iload_n hC dX9_isEdge_6 rfl (j := 0) rfl ?_
  refine r_iconst hC dX9_isEdge_7 (v := 5) (by decide) ?_
  refine r_idiv hC dX9_isEdge_8 (by decide) ?_
  rw [show (5 / 5 : Int32) = 1 from by decide]
  refine r_iconst hC dX9_isEdge_9 (v := 4) (by decide) ?_
  refine r_icmp_eq hC dX9_isEdge_10 (tgt := 26) (by decide) (fun h => absurd h (by decide)) (fun _ => ?_)
  refine r_iload_n hC dX9_isEdge_13 rfl (j := 0) rfl ?_
  refine r_iconst hC dX9_isEdge_14 (v := 5) (by decide) ?_
  refine r_irem hC dX9_isEdge_15 (by decide) ?_
  rw [show (5 - 5 / 5 * 5 : Int32) = 0 from by decide]
  refine r_if_eq hC dX9_isEdge_16 (tgt := 26) (by decide) (fun _ => ?_) (fun h => absurd (by decide) h)
  refine r_iconst hC dX9_isEdge_26 (v := 1) (by decide) ?_
  refine r_goto hC dX9_isEdge_27 (tgt := 31) (by decide) ?_
  refine r_nret hC hE hR dX9_isEdge_31 (by decide) (by omega) (by omega) (rfl) ?_
  exact ⟨rfl, rfl⟩
set_option maxRecDepth 100000 in
set_option maxHeartbeats 4000000 in
theorem sm_edge6 {d : Nat} {w : mW}  : Sp d yX9_isEdge cX9_isEdge 1 (some .boolean) [.int 6] w 0 0 (fun v w' => v = some (.int 0) ∧ w' = w) noX := by
  refine Sp.of (by decide +kernel) (Nat.le_of_ble_eq_true rfl) (fun X hC hnl hE hR hN => ?_)
  have hC : Cx X RX9 cX9_isEdge d 0 0 := hC
  show Wp X 0 0 w [(0, .int 6)] [] 0
  refine r_iload_n hC dX9_isEdge_0 rfl (j := 0) rfl ?_
  refine r_iconst hC dX9_isEdge_1 (v := 5) (by decide) ?_
  refine r_idiv hC dX9_isEdge_2 (by decide) ?_
  rw [show (6 / 5 : Int32) = 1 from by decide]
  refine r_if_eq hC dX9_isEdge_3 (tgt := 26) (by decide) (fun h => absurd h (by decide)) (fun _ => ?_)
  refine r_iload_n hC dX9_isEdge_6 rfl (j := 0) rfl ?_
  refine r_iconst hC dX9_isEdge_7 (v := 5) (by decide) ?_
  refine r_idiv hC dX9_isEdge_8 (by decide) ?_
  rw [show (6 / 5 : Int32) = 1 from by decide]
  refine r_iconst hC dX9_isEdge_9 (v := 4) (by decide) ?_
  refine r_icmp_eq hC dX9_isEdge_10 (tgt := 26) (by decide) (fun h => absurd h (by decide)) (fun _ => ?_)
  refine r_iload_n hC dX9_isEdge_13 rfl (j := 0) rfl ?_
  refine r_iconst hC dX9_isEdge_14 (v := 5) (by decide) ?_
  refine r_irem hC dX9_isEdge_15 (by decide) ?_
  rw [show (6 - 6 / 5 * 5 : Int32) = 1 from by decide]
  refine r_if_eq hC dX9_isEdge_16 (tgt := 26) (by decide) (fun h => absurd h (by decide)) (fun _ => ?_)
  refine r_iload_n hC dX9_isEdge_19 rfl (j := 0) rfl ?_
  refine r_iconst hC dX9_isEdge_20 (v := 5) (by decide) ?_
  refine r_irem hC dX9_isEdge_21 (by decide) ?_
  rw [show (6 - 6 / 5 * 5 : Int32) = 1 from by decide]
  refine r_iconst hC dX9_isEdge_22 (v := 4) (by decide) ?_
  refine r_icmp_ne hC dX9_isEdge_23 (tgt := 30) (by decide) (fun _ => ?_) (fun h => absurd h (by decide))
  refine r_iconst hC dX9_isEdge_30 (v := 0) (by decide) ?_
  refine r_nret hC hE hR dX9_isEdge_31 (by decide) (by omega) (by omega) (rfl) ?_
  exact ⟨rfl, rfl⟩
set_option maxRecDepth 100000 in
set_option maxHeartbeats 4000000 in
theorem sm_edge7 {d : Nat} {w : mW}  : Sp d yX9_isEdge cX9_isEdge 1 (some .boolean) [.int 7] w 0 0 (fun v w' => v = some (.int 0) ∧ w' = w) noX := by
  refine Sp.of (by decide +kernel) (Nat.le_of_ble_eq_true rfl) (fun X hC hnl hE hR hN => ?_)
  have hC : Cx X RX9 cX9_isEdge d 0 0 := hC
  show Wp X 0 0 w [(0, .int 7)] [] 0
  refine r_iload_n hC dX9_isEdge_0 rfl (j := 0) rfl ?_
  refine r_iconst hC dX9_isEdge_1 (v := 5) (by decide) ?_
  refine r_idiv hC dX9_isEdge_2 (by decide) ?_
  rw [show (7 / 5 : Int32) = 1 from by decide]
  refine r_if_eq hC dX9_isEdge_3 (tgt := 26) (by decide) (fun h => absurd h (by decide)) (fun _ => ?_)
  refine r_iload_n hC dX9_isEdge_6 rfl (j := 0) rfl ?_
  refine r_iconst hC dX9_isEdge_7 (v := 5) (by decide) ?_
  refine r_idiv hC dX9_isEdge_8 (by decide) ?_
  rw [show (7 / 5 : Int32) = 1 from by decide]
  refine r_iconst hC dX9_isEdge_9 (v := 4) (by decide) ?_
  refine r_icmp_eq hC dX9_isEdge_10 (tgt := 26) (by decide) (fun h => absurd h (by decide)) (fun _ => ?_)
  refine r_iload_n hC dX9_isEdge_13 rfl (j := 0) rfl ?_
  refine r_iconst hC dX9_isEdge_14 (v := 5) (by decide) ?_
  refine r_irem hC dX9_isEdge_15 (by decide) ?_
  rw [show (7 - 7 / 5 * 5 : Int32) = 2 from by decide]
  refine r_if_eq hC dX9_isEdge_16 (tgt := 26) (by decide) (fun h => absurd h (by decide)) (fun _ => ?_)
  refine r_iload_n hC dX9_isEdge_19 rfl (j := 0) rfl ?_
  refine r_iconst hC dX9_isEdge_20 (v := 5) (by decide) ?_
  refine r_irem hC dX9_isEdge_21 (by decide) ?_
  rw [show (7 - 7 / 5 * 5 : Int32) = 2 from by decide]
  refine r_iconst hC dX9_isEdge_22 (v := 4) (by decide) ?_
  refine r_icmp_ne hC dX9_isEdge_23 (tgt := 30) (by decide) (fun _ => ?_) (fun h => absurd h (by decide))
  refine r_iconst hC dX9_isEdge_30 (v := 0) (by decide) ?_
  refine r_nret hC hE hR dX9_isEdge_31 (by decide) (by omega) (by omega) (rfl) ?_
  exact ⟨rfl, rfl⟩
set_option maxRecDepth 100000 in
set_option maxHeartbeats 4000000 in
theorem sm_edge8 {d : Nat} {w : mW}  : Sp d yX9_isEdge cX9_isEdge 1 (some .boolean) [.int 8] w 0 0 (fun v w' => v = some (.int 0) ∧ w' = w) noX := by
  refine Sp.of (by decide +kernel) (Nat.le_of_ble_eq_true rfl) (fun X hC hnl hE hR hN => ?_)
  have hC : Cx X RX9 cX9_isEdge d 0 0 := hC
  show Wp X 0 0 w [(0, .int 8)] [] 0
  refine r_iload_n hC dX9_isEdge_0 rfl (j := 0) rfl ?_
  refine r_iconst hC dX9_isEdge_1 (v := 5) (by decide) ?_
  refine r_idiv hC dX9_isEdge_2 (by decide) ?_
  rw [show (8 / 5 : Int32) = 1 from by decide]
  refine r_if_eq hC dX9_isEdge_3 (tgt := 26) (by decide) (fun h => absurd h (by decide)) (fun _ => ?_)
  refine r_iload_n hC dX9_isEdge_6 rfl (j := 0) rfl ?_
  refine r_iconst hC dX9_isEdge_7 (v := 5) (by decide) ?_
  refine r_idiv hC dX9_isEdge_8 (by decide) ?_
  rw [show (8 / 5 : Int32) = 1 from by decide]
  refine r_iconst hC dX9_isEdge_9 (v := 4) (by decide) ?_
  refine r_icmp_eq hC dX9_isEdge_10 (tgt := 26) (by decide) (fun h => absurd h (by decide)) (fun _ => ?_)
  refine r_iload_n hC dX9_isEdge_13 rfl (j := 0) rfl ?_
  refine r_iconst hC dX9_isEdge_14 (v := 5) (by decide) ?_
  refine r_irem hC dX9_isEdge_15 (by decide) ?_
  rw [show (8 - 8 / 5 * 5 : Int32) = 3 from by decide]
  refine r_if_eq hC dX9_isEdge_16 (tgt := 26) (by decide) (fun h => absurd h (by decide)) (fun _ => ?_)
  refine r_iload_n hC dX9_isEdge_19 rfl (j := 0) rfl ?_
  refine r_iconst hC dX9_isEdge_20 (v := 5) (by decide) ?_
  refine r_irem hC dX9_isEdge_21 (by decide) ?_
  rw [show (8 - 8 / 5 * 5 : Int32) = 3 from by decide]
  refine r_iconst hC dX9_isEdge_22 (v := 4) (by decide) ?_
  refine r_icmp_ne hC dX9_isEdge_23 (tgt := 30) (by decide) (fun _ => ?_) (fun h => absurd h (by decide))
  refine r_iconst hC dX9_isEdge_30 (v := 0) (by decide) ?_
  refine r_nret hC hE hR dX9_isEdge_31 (by decide) (by omega) (by omega) (rfl) ?_
  exact ⟨rfl, rfl⟩
set_option maxRecDepth 100000 in
set_option maxHeartbeats 4000000 in
theorem sm_edge9 {d : Nat} {w : mW}  : Sp d yX9_isEdge cX9_isEdge 1 (some .boolean) [.int 9] w 0 0 (fun v w' => v = some (.int 1) ∧ w' = w) noX := by
  refine Sp.of (by decide +kernel) (Nat.le_of_ble_eq_true rfl) (fun X hC hnl hE hR hN => ?_)
  have hC : Cx X RX9 cX9_isEdge d 0 0 := hC
  show Wp X 0 0 w [(0, .int 9)] [] 0
  refine r_iload_n hC dX9_isEdge_0 rfl (j := 0) rfl ?_
  refine r_iconst hC dX9_isEdge_1 (v := 5) (by decide) ?_
  refine r_idiv hC dX9_isEdge_2 (by decide) ?_
  rw [show (9 / 5 : Int32) = 1 from by decide]
  refine r_if_eq hC dX9_isEdge_3 (tgt := 26) (by decide) (fun h => absurd h (by decide)) (fun _ => ?_)
  refine r_iload_n hC dX9_isEdge_6 rfl (j := 0) rfl ?_
  refine r_iconst hC dX9_isEdge_7 (v := 5) (by decide) ?_
  refine r_idiv hC dX9_isEdge_8 (by decide) ?_
  rw [show (9 / 5 : Int32) = 1 from by decide]
  refine r_iconst hC dX9_isEdge_9 (v := 4) (by decide) ?_
  refine r_icmp_eq hC dX9_isEdge_10 (tgt := 26) (by decide) (fun h => absurd h (by decide)) (fun _ => ?_)
  refine r_iload_n hC dX9_isEdge_13 rfl (j := 0) rfl ?_
  refine r_iconst hC dX9_isEdge_14 (v := 5) (by decide) ?_
  refine r_irem hC dX9_isEdge_15 (by decide) ?_
  rw [show (9 - 9 / 5 * 5 : Int32) = 4 from by decide]
  refine r_if_eq hC dX9_isEdge_16 (tgt := 26) (by decide) (fun h => absurd h (by decide)) (fun _ => ?_)
  refine r_iload_n hC dX9_isEdge_19 rfl (j := 0) rfl ?_
  refine r_iconst hC dX9_isEdge_20 (v := 5) (by decide) ?_
  refine r_irem hC dX9_isEdge_21 (by decide) ?_
  rw [show (9 - 9 / 5 * 5 : Int32) = 4 from by decide]
  refine r_iconst hC dX9_isEdge_22 (v := 4) (by decide) ?_
  refine r_icmp_ne hC dX9_isEdge_23 (tgt := 30) (by decide) (fun h => absurd (by decide) h) (fun _ => ?_)
  refine r_iconst hC dX9_isEdge_26 (v := 1) (by decide) ?_
  refine r_goto hC dX9_isEdge_27 (tgt := 31) (by decide) ?_
  refine r_nret hC hE hR dX9_isEdge_31 (by decide) (by omega) (by omega) (rfl) ?_
  exact ⟨rfl, rfl⟩
set_option maxRecDepth 100000 in
set_option maxHeartbeats 4000000 in
theorem sm_edge10 {d : Nat} {w : mW}  : Sp d yX9_isEdge cX9_isEdge 1 (some .boolean) [.int 10] w 0 0 (fun v w' => v = some (.int 1) ∧ w' = w) noX := by
  refine Sp.of (by decide +kernel) (Nat.le_of_ble_eq_true rfl) (fun X hC hnl hE hR hN => ?_)
  have hC : Cx X RX9 cX9_isEdge d 0 0 := hC
  show Wp X 0 0 w [(0, .int 10)] [] 0
  refine r_iload_n hC dX9_isEdge_0 rfl (j := 0) rfl ?_
  refine r_iconst hC dX9_isEdge_1 (v := 5) (by decide) ?_
  refine r_idiv hC dX9_isEdge_2 (by decide) ?_
  rw [show (10 / 5 : Int32) = 2 from by decide]
  refine r_if_eq hC dX9_isEdge_3 (tgt := 26) (by decide) (fun h => absurd h (by decide)) (fun _ => ?_)
  refine r_iload_n hC dX9_isEdge_6 rfl (j := 0) rfl ?_
  refine r_iconst hC dX9_isEdge_7 (v := 5) (by decide) ?_
  refine r_idiv hC dX9_isEdge_8 (by decide) ?_
  rw [show (10 / 5 : Int32) = 2 from by decide]
  refine r_iconst hC dX9_isEdge_9 (v := 4) (by decide) ?_
  refine r_icmp_eq hC dX9_isEdge_10 (tgt := 26) (by decide) (fun h => absurd h (by decide)) (fun _ => ?_)
  refine r_iload_n hC dX9_isEdge_13 rfl (j := 0) rfl ?_
  refine r_iconst hC dX9_isEdge_14 (v := 5) (by decide) ?_
  refine r_irem hC dX9_isEdge_15 (by decide) ?_
  rw [show (10 - 10 / 5 * 5 : Int32) = 0 from by decide]
  refine r_if_eq hC dX9_isEdge_16 (tgt := 26) (by decide) (fun _ => ?_) (fun h => absurd (by decide) h)
  refine r_iconst hC dX9_isEdge_26 (v := 1) (by decide) ?_
  refine r_goto hC dX9_isEdge_27 (tgt := 31) (by decide) ?_
  refine r_nret hC hE hR dX9_isEdge_31 (by decide) (by omega) (by omega) (rfl) ?_
  exact ⟨rfl, rfl⟩
set_option maxRecDepth 100000 in
set_option maxHeartbeats 4000000 in
theorem sm_edge11 {d : Nat} {w : mW}  : Sp d yX9_isEdge cX9_isEdge 1 (some .boolean) [.int 11] w 0 0 (fun v w' => v = some (.int 0) ∧ w' = w) noX := by
  refine Sp.of (by decide +kernel) (Nat.le_of_ble_eq_true rfl) (fun X hC hnl hE hR hN => ?_)
  have hC : Cx X RX9 cX9_isEdge d 0 0 := hC
  show Wp X 0 0 w [(0, .int 11)] [] 0
  refine r_iload_n hC dX9_isEdge_0 rfl (j := 0) rfl ?_
  refine r_iconst hC dX9_isEdge_1 (v := 5) (by decide) ?_
  refine r_idiv hC dX9_isEdge_2 (by decide) ?_
  rw [show (11 / 5 : Int32) = 2 from by decide]
  refine r_if_eq hC dX9_isEdge_3 (tgt := 26) (by decide) (fun h => absurd h (by decide)) (fun _ => ?_)
  refine r_iload_n hC dX9_isEdge_6 rfl (j := 0) rfl ?_
  refine r_iconst hC dX9_isEdge_7 (v := 5) (by decide) ?_
  refine r_idiv hC dX9_isEdge_8 (by decide) ?_
  rw [show (11 / 5 : Int32) = 2 from by decide]
  refine r_iconst hC dX9_isEdge_9 (v := 4) (by decide) ?_
  refine r_icmp_eq hC dX9_isEdge_10 (tgt := 26) (by decide) (fun h => absurd h (by decide)) (fun _ => ?_)
  refine r_iload_n hC dX9_isEdge_13 rfl (j := 0) rfl ?_
  refine r_iconst hC dX9_isEdge_14 (v := 5) (by decide) ?_
  refine r_irem hC dX9_isEdge_15 (by decide) ?_
  rw [show (11 - 11 / 5 * 5 : Int32) = 1 from by decide]
  refine r_if_eq hC dX9_isEdge_16 (tgt := 26) (by decide) (fun h => absurd h (by decide)) (fun _ => ?_)
  refine r_iload_n hC dX9_isEdge_19 rfl (j := 0) rfl ?_
  refine r_iconst hC dX9_isEdge_20 (v := 5) (by decide) ?_
  refine r_irem hC dX9_isEdge_21 (by decide) ?_
  rw [show (11 - 11 / 5 * 5 : Int32) = 1 from by decide]
  refine r_iconst hC dX9_isEdge_22 (v := 4) (by decide) ?_
  refine r_icmp_ne hC dX9_isEdge_23 (tgt := 30) (by decide) (fun _ => ?_) (fun h => absurd h (by decide))
  refine r_iconst hC dX9_isEdge_30 (v := 0) (by decide) ?_
  refine r_nret hC hE hR dX9_isEdge_31 (by decide) (by omega) (by omega) (rfl) ?_
  exact ⟨rfl, rfl⟩
set_option maxRecDepth 100000 in
set_option maxHeartbeats 4000000 in
theorem sm_edge12 {d : Nat} {w : mW}  : Sp d yX9_isEdge cX9_isEdge 1 (some .boolean) [.int 12] w 0 0 (fun v w' => v = some (.int 0) ∧ w' = w) noX := by
  refine Sp.of (by decide +kernel) (Nat.le_of_ble_eq_true rfl) (fun X hC hnl hE hR hN => ?_)
  have hC : Cx X RX9 cX9_isEdge d 0 0 := hC
  show Wp X 0 0 w [(0, .int 12)] [] 0
  refine r_iload_n hC dX9_isEdge_0 rfl (j := 0) rfl ?_
  refine r_iconst hC dX9_isEdge_1 (v := 5) (by decide) ?_
  refine r_idiv hC dX9_isEdge_2 (by decide) ?_
  rw [show (12 / 5 : Int32) = 2 from by decide]
  refine r_if_eq hC dX9_isEdge_3 (tgt := 26) (by decide) (fun h => absurd h (by decide)) (fun _ => ?_)
  refine r_iload_n hC dX9_isEdge_6 rfl (j := 0) rfl ?_
  refine r_iconst hC dX9_isEdge_7 (v := 5) (by decide) ?_
  refine r_idiv hC dX9_isEdge_8 (by decide) ?_
  rw [show (12 / 5 : Int32) = 2 from by decide]
  refine r_iconst hC dX9_isEdge_9 (v := 4) (by decide) ?_
  refine r_icmp_eq hC dX9_isEdge_10 (tgt := 26) (by decide) (fun h => absurd h (by decide)) (fun _ => ?_)
  refine r_iload_n hC dX9_isEdge_13 rfl (j := 0) rfl ?_
  refine r_iconst hC dX9_isEdge_14 (v := 5) (by decide) ?_
  refine r_irem hC dX9_isEdge_15 (by decide) ?_
  rw [show (12 - 12 / 5 * 5 : Int32) = 2 from by decide]
  refine r_if_eq hC dX9_isEdge_16 (tgt := 26) (by decide) (fun h => absurd h (by decide)) (fun _ => ?_)
  refine r_iload_n hC dX9_isEdge_19 rfl (j := 0) rfl ?_
  refine r_iconst hC dX9_isEdge_20 (v := 5) (by decide) ?_
  refine r_irem hC dX9_isEdge_21 (by decide) ?_
  rw [show (12 - 12 / 5 * 5 : Int32) = 2 from by decide]
  refine r_iconst hC dX9_isEdge_22 (v := 4) (by decide) ?_
  refine r_icmp_ne hC dX9_isEdge_23 (tgt := 30) (by decide) (fun _ => ?_) (fun h => absurd h (by decide))
  refine r_iconst hC dX9_isEdge_30 (v := 0) (by decide) ?_
  refine r_nret hC hE hR dX9_isEdge_31 (by decide) (by omega) (by omega) (rfl) ?_
  exact ⟨rfl, rfl⟩
set_option maxRecDepth 100000 in
set_option maxHeartbeats 4000000 in
theorem sm_edge13 {d : Nat} {w : mW}  : Sp d yX9_isEdge cX9_isEdge 1 (some .boolean) [.int 13] w 0 0 (fun v w' => v = some (.int 0) ∧ w' = w) noX := by
  refine Sp.of (by decide +kernel) (Nat.le_of_ble_eq_true rfl) (fun X hC hnl hE hR hN => ?_)
  have hC : Cx X RX9 cX9_isEdge d 0 0 := hC
  show Wp X 0 0 w [(0, .int 13)] [] 0
  refine r_iload_n hC dX9_isEdge_0 rfl (j := 0) rfl ?_
  refine r_iconst hC dX9_isEdge_1 (v := 5) (by decide) ?_
  refine r_idiv hC dX9_isEdge_2 (by decide) ?_
  rw [show (13 / 5 : Int32) = 2 from by decide]
  refine r_if_eq hC dX9_isEdge_3 (tgt := 26) (by decide) (fun h => absurd h (by decide)) (fun _ => ?_)
  refine r_iload_n hC dX9_isEdge_6 rfl (j := 0) rfl ?_
  refine r_iconst hC dX9_isEdge_7 (v := 5) (by decide) ?_
  refine r_idiv hC dX9_isEdge_8 (by decide) ?_
  rw [show (13 / 5 : Int32) = 2 from by decide]
  refine r_iconst hC dX9_isEdge_9 (v := 4) (by decide) ?_
  refine r_icmp_eq hC dX9_isEdge_10 (tgt := 26) (by decide) (fun h => absurd h (by decide)) (fun _ => ?_)
  refine r_iload_n hC dX9_isEdge_13 rfl (j := 0) rfl ?_
  refine r_iconst hC dX9_isEdge_14 (v := 5) (by decide) ?_
  refine r_irem hC dX9_isEdge_15 (by decide) ?_
  rw [show (13 - 13 / 5 * 5 : Int32) = 3 from by decide]
  refine r_if_eq hC dX9_isEdge_16 (tgt := 26) (by decide) (fun h => absurd h (by decide)) (fun _ => ?_)
  refine r_iload_n hC dX9_isEdge_19 rfl (j := 0) rfl ?_
  refine r_iconst hC dX9_isEdge_20 (v := 5) (by decide) ?_
  refine r_irem hC dX9_isEdge_21 (by decide) ?_
  rw [show (13 - 13 / 5 * 5 : Int32) = 3 from by decide]
  refine r_iconst hC dX9_isEdge_22 (v := 4) (by decide) ?_
  refine r_icmp_ne hC dX9_isEdge_23 (tgt := 30) (by decide) (fun _ => ?_) (fun h => absurd h (by decide))
  refine r_iconst hC dX9_isEdge_30 (v := 0) (by decide) ?_
  refine r_nret hC hE hR dX9_isEdge_31 (by decide) (by omega) (by omega) (rfl) ?_
  exact ⟨rfl, rfl⟩
set_option maxRecDepth 100000 in
set_option maxHeartbeats 4000000 in
theorem sm_edge14 {d : Nat} {w : mW}  : Sp d yX9_isEdge cX9_isEdge 1 (some .boolean) [.int 14] w 0 0 (fun v w' => v = some (.int 1) ∧ w' = w) noX := by
  refine Sp.of (by decide +kernel) (Nat.le_of_ble_eq_true rfl) (fun X hC hnl hE hR hN => ?_)
  have hC : Cx X RX9 cX9_isEdge d 0 0 := hC
  show Wp X 0 0 w [(0, .int 14)] [] 0
  refine r_iload_n hC dX9_isEdge_0 rfl (j := 0) rfl ?_
  refine r_iconst hC dX9_isEdge_1 (v := 5) (by decide) ?_
  refine r_idiv hC dX9_isEdge_2 (by decide) ?_
  rw [show (14 / 5 : Int32) = 2 from by decide]
  refine r_if_eq hC dX9_isEdge_3 (tgt := 26) (by decide) (fun h => absurd h (by decide)) (fun _ => ?_)
  refine r_iload_n hC dX9_isEdge_6 rfl (j := 0) rfl ?_
  refine r_iconst hC dX9_isEdge_7 (v := 5) (by decide) ?_
  refine r_idiv hC dX9_isEdge_8 (by decide) ?_
  rw [show (14 / 5 : Int32) = 2 from by decide]
  refine r_iconst hC dX9_isEdge_9 (v := 4) (by decide) ?_
  refine r_icmp_eq hC dX9_isEdge_10 (tgt := 26) (by decide) (fun h => absurd h (by decide)) (fun _ => ?_)
  refine r_iload_n hC dX9_isEdge_13 rfl (j := 0) rfl ?_
  refine r_iconst hC dX9_isEdge_14 (v := 5) (by decide) ?_
  refine r_irem hC dX9_isEdge_15 (by decide) ?_
  rw [show (14 - 14 / 5 * 5 : Int32) = 4 from by decide]
  refine r_if_eq hC dX9_isEdge_16 (tgt := 26) (by decide) (fun h => absurd h (by decide)) (fun _ => ?_)
  refine r_iload_n hC dX9_isEdge_19 rfl (j := 0) rfl ?_
  refine r_iconst hC dX9_isEdge_20 (v := 5) (by decide) ?_
  refine r_irem hC dX9_isEdge_21 (by decide) ?_
  rw [show (14 - 14 / 5 * 5 : Int32) = 4 from by decide]
  refine r_iconst hC dX9_isEdge_22 (v := 4) (by decide) ?_
  refine r_icmp_ne hC dX9_isEdge_23 (tgt := 30) (by decide) (fun h => absurd (by decide) h) (fun _ => ?_)
  refine r_iconst hC dX9_isEdge_26 (v := 1) (by decide) ?_
  refine r_goto hC dX9_isEdge_27 (tgt := 31) (by decide) ?_
  refine r_nret hC hE hR dX9_isEdge_31 (by decide) (by omega) (by omega) (rfl) ?_
  exact ⟨rfl, rfl⟩
set_option maxRecDepth 100000 in
set_option maxHeartbeats 4000000 in
theorem sm_edge15 {d : Nat} {w : mW}  : Sp d yX9_isEdge cX9_isEdge 1 (some .boolean) [.int 15] w 0 0 (fun v w' => v = some (.int 1) ∧ w' = w) noX := by
  refine Sp.of (by decide +kernel) (Nat.le_of_ble_eq_true rfl) (fun X hC hnl hE hR hN => ?_)
  have hC : Cx X RX9 cX9_isEdge d 0 0 := hC
  show Wp X 0 0 w [(0, .int 15)] [] 0
  refine r_iload_n hC dX9_isEdge_0 rfl (j := 0) rfl ?_
  refine r_iconst hC dX9_isEdge_1 (v := 5) (by decide) ?_
  refine r_idiv hC dX9_isEdge_2 (by decide) ?_
  rw [show (15 / 5 : Int32) = 3 from by decide]
  refine r_if_eq hC dX9_isEdge_3 (tgt := 26) (by decide) (fun h => absurd h (by decide)) (fun _ => ?_)
  refine r_iload_n hC dX9_isEdge_6 rfl (j := 0) rfl ?_
  refine r_iconst hC dX9_isEdge_7 (v := 5) (by decide) ?_
  refine r_idiv hC dX9_isEdge_8 (by decide) ?_
  rw [show (15 / 5 : Int32) = 3 from by decide]
  refine r_iconst hC dX9_isEdge_9 (v := 4) (by decide) ?_
  refine r_icmp_eq hC dX9_isEdge_10 (tgt := 26) (by decide) (fun h => absurd h (by decide)) (fun _ => ?_)
  refine r_iload_n hC dX9_isEdge_13 rfl (j := 0) rfl ?_
  refine r_iconst hC dX9_isEdge_14 (v := 5) (by decide) ?_
  refine r_irem hC dX9_isEdge_15 (by decide) ?_
  rw [show (15 - 15 / 5 * 5 : Int32) = 0 from by decide]
  refine r_if_eq hC dX9_isEdge_16 (tgt := 26) (by decide) (fun _ => ?_) (fun h => absurd (by decide) h)
  refine r_iconst hC dX9_isEdge_26 (v := 1) (by decide) ?_
  refine r_goto hC dX9_isEdge_27 (tgt := 31) (by decide) ?_
  refine r_nret hC hE hR dX9_isEdge_31 (by decide) (by omega) (by omega) (rfl) ?_
  exact ⟨rfl, rfl⟩
set_option maxRecDepth 100000 in
set_option maxHeartbeats 4000000 in
theorem sm_edge16 {d : Nat} {w : mW}  : Sp d yX9_isEdge cX9_isEdge 1 (some .boolean) [.int 16] w 0 0 (fun v w' => v = some (.int 0) ∧ w' = w) noX := by
  refine Sp.of (by decide +kernel) (Nat.le_of_ble_eq_true rfl) (fun X hC hnl hE hR hN => ?_)
  have hC : Cx X RX9 cX9_isEdge d 0 0 := hC
  show Wp X 0 0 w [(0, .int 16)] [] 0
  refine r_iload_n hC dX9_isEdge_0 rfl (j := 0) rfl ?_
  refine r_iconst hC dX9_isEdge_1 (v := 5) (by decide) ?_
  refine r_idiv hC dX9_isEdge_2 (by decide) ?_
  rw [show (16 / 5 : Int32) = 3 from by decide]
  refine r_if_eq hC dX9_isEdge_3 (tgt := 26) (by decide) (fun h => absurd h (by decide)) (fun _ => ?_)
  refine r_iload_n hC dX9_isEdge_6 rfl (j := 0) rfl ?_
  refine r_iconst hC dX9_isEdge_7 (v := 5) (by decide) ?_
  refine r_idiv hC dX9_isEdge_8 (by decide) ?_
  rw [show (16 / 5 : Int32) = 3 from by decide]
  refine r_iconst hC dX9_isEdge_9 (v := 4) (by decide) ?_
  refine r_icmp_eq hC dX9_isEdge_10 (tgt := 26) (by decide) (fun h => absurd h (by decide)) (fun _ => ?_)
  refine r_iload_n hC dX9_isEdge_13 rfl (j := 0) rfl ?_
  refine r_iconst hC dX9_isEdge_14 (v := 5) (by decide) ?_
  refine r_irem hC dX9_isEdge_15 (by decide) ?_
  rw [show (16 - 16 / 5 * 5 : Int32) = 1 from by decide]
  refine r_if_eq hC dX9_isEdge_16 (tgt := 26) (by decide) (fun h => absurd h (by decide)) (fun _ => ?_)
  refine r_iload_n hC dX9_isEdge_19 rfl (j := 0) rfl ?_
  refine r_iconst hC dX9_isEdge_20 (v := 5) (by decide) ?_
  refine r_irem hC dX9_isEdge_21 (by decide) ?_
  rw [show (16 - 16 / 5 * 5 : Int32) = 1 from by decide]
  refine r_iconst hC dX9_isEdge_22 (v := 4) (by decide) ?_
  refine r_icmp_ne hC dX9_isEdge_23 (tgt := 30) (by decide) (fun _ => ?_) (fun h => absurd h (by decide))
  refine r_iconst hC dX9_isEdge_30 (v := 0) (by decide) ?_
  refine r_nret hC hE hR dX9_isEdge_31 (by decide) (by omega) (by omega) (rfl) ?_
  exact ⟨rfl, rfl⟩
set_option maxRecDepth 100000 in
set_option maxHeartbeats 4000000 in
theorem sm_edge17 {d : Nat} {w : mW}  : Sp d yX9_isEdge cX9_isEdge 1 (some .boolean) [.int 17] w 0 0 (fun v w' => v = some (.int 0) ∧ w' = w) noX := by
  refine Sp.of (by decide +kernel) (Nat.le_of_ble_eq_true rfl) (fun X hC hnl hE hR hN => ?_)
  have hC : Cx X RX9 cX9_isEdge d 0 0 := hC
  show Wp X 0 0 w [(0, .int 17)] [] 0
  refine r_iload_n hC dX9_isEdge_0 rfl (j := 0) rfl ?_
  refine r_iconst hC dX9_isEdge_1 (v := 5) (by decide) ?_
  refine r_idiv hC dX9_isEdge_2 (by decide) ?_
  rw [show (17 / 5 : Int32) = 3 from by decide]
  refine r_if_eq hC dX9_isEdge_3 (tgt := 26) (by decide) (fun h => absurd h (by decide)) (fun _ => ?_)
  refine r_iload_n hC dX9_isEdge_6 rfl (j := 0) rfl ?_
  refine r_iconst hC dX9_isEdge_7 (v := 5) (by decide) ?_
  refine r_idiv hC dX9_isEdge_8 (by decide) ?_
  rw [show (17 / 5 : Int32) = 3 from by decide]
  refine r_iconst hC dX9_isEdge_9 (v := 4) (by decide) ?_
  refine r_icmp_eq hC dX9_isEdge_10 (tgt := 26) (by decide) (fun h => absurd h (by decide)) (fun _ => ?_)
  refine r_iload_n hC dX9_isEdge_13 rfl (j := 0) rfl ?_
  refine r_iconst hC dX9_isEdge_14 (v := 5) (by decide) ?_
  refine r_irem hC dX9_isEdge_15 (by decide) ?_
  rw [show (17 - 17 / 5 * 5 : Int32) = 2 from by decide]
  refine r_if_eq hC dX9_isEdge_16 (tgt := 26) (by decide) (fun h => absurd h (by decide)) (fun _ => ?_)
  refine r_iload_n hC dX9_isEdge_19 rfl (j := 0) rfl ?_
  refine r_iconst hC dX9_isEdge_20 (v := 5) (by decide) ?_
  refine r_irem hC dX9_isEdge_21 (by decide) ?_
  rw [show (17 - 17 / 5 * 5 : Int32) = 2 from by decide]
  refine r_iconst hC dX9_isEdge_22 (v := 4) (by decide) ?_
  refine r_icmp_ne hC dX9_isEdge_23 (tgt := 30) (by decide) (fun _ => ?_) (fun h => absurd h (by decide))
  refine r_iconst hC dX9_isEdge_30 (v := 0) (by decide) ?_
  refine r_nret hC hE hR dX9_isEdge_31 (by decide) (by omega) (by omega) (rfl) ?_
  exact ⟨rfl, rfl⟩
set_option maxRecDepth 100000 in
set_option maxHeartbeats 4000000 in
theorem sm_edge18 {d : Nat} {w : mW}  : Sp d yX9_isEdge cX9_isEdge 1 (some .boolean) [.int 18] w 0 0 (fun v w' => v = some (.int 0) ∧ w' = w) noX := by
  refine Sp.of (by decide +kernel) (Nat.le_of_ble_eq_true rfl) (fun X hC hnl hE hR hN => ?_)
  have hC : Cx X RX9 cX9_isEdge d 0 0 := hC
  show Wp X 0 0 w [(0, .int 18)] [] 0
  refine r_iload_n hC dX9_isEdge_0 rfl (j := 0) rfl ?_
  refine r_iconst hC dX9_isEdge_1 (v := 5) (by decide) ?_
  refine r_idiv hC dX9_isEdge_2 (by decide) ?_
  rw [show (18 / 5 : Int32) = 3 from by decide]
  refine r_if_eq hC dX9_isEdge_3 (tgt := 26) (by decide) (fun h => absurd h (by decide)) (fun _ => ?_)
  refine r_iload_n hC dX9_isEdge_6 rfl (j := 0) rfl ?_
  refine r_iconst hC dX9_isEdge_7 (v := 5) (by decide) ?_
  refine r_idiv hC dX9_isEdge_8 (by decide) ?_
  rw [show (18 / 5 : Int32) = 3 from by decide]
  refine r_iconst hC dX9_isEdge_9 (v := 4) (by decide) ?_
  refine r_icmp_eq hC dX9_isEdge_10 (tgt := 26) (by decide) (fun h => absurd h (by decide)) (fun _ => ?_)
  refine r_iload_n hC dX9_isEdge_13 rfl (j := 0) rfl ?_
  refine r_iconst hC dX9_isEdge_14 (v := 5) (by decide) ?_
  refine r_irem hC dX9_isEdge_15 (by decide) ?_
  rw [show (18 - 18 / 5 * 5 : Int32) = 3 from by decide]
  refine r_if_eq hC dX9_isEdge_16 (tgt := 26) (by decide) (fun h => absurd h (by decide)) (fun _ => ?_)
  refine r_iload_n hC dX9_isEdge_19 rfl (j := 0) rfl ?_
  refine r_iconst hC dX9_isEdge_20 (v := 5) (by decide) ?_
  refine r_irem hC dX9_isEdge_21 (by decide) ?_
  rw [show (18 - 18 / 5 * 5 : Int32) = 3 from by decide]
  refine r_iconst hC dX9_isEdge_22 (v := 4) (by decide) ?_
  refine r_icmp_ne hC dX9_isEdge_23 (tgt := 30) (by decide) (fun _ => ?_) (fun h => absurd h (by decide))
  refine r_iconst hC dX9_isEdge_30 (v := 0) (by decide) ?_
  refine r_nret hC hE hR dX9_isEdge_31 (by decide) (by omega) (by omega) (rfl) ?_
  exact ⟨rfl, rfl⟩
set_option maxRecDepth 100000 in
set_option maxHeartbeats 4000000 in
theorem sm_edge19 {d : Nat} {w : mW}  : Sp d yX9_isEdge cX9_isEdge 1 (some .boolean) [.int 19] w 0 0 (fun v w' => v = some (.int 1) ∧ w' = w) noX := by
  refine Sp.of (by decide +kernel) (Nat.le_of_ble_eq_true rfl) (fun X hC hnl hE hR hN => ?_)
  have hC : Cx X RX9 cX9_isEdge d 0 0 := hC
  show Wp X 0 0 w [(0, .int 19)] [] 0
  refine r_iload_n hC dX9_isEdge_0 rfl (j := 0) rfl ?_
  refine r_iconst hC dX9_isEdge_1 (v := 5) (by decide) ?_
  refine r_idiv hC dX9_isEdge_2 (by decide) ?_
  rw [show (19 / 5 : Int32) = 3 from by decide]
  refine r_if_eq hC dX9_isEdge_3 (tgt := 26) (by decide) (fun h => absurd h (by decide)) (fun _ => ?_)
  refine r_iload_n hC dX9_isEdge_6 rfl (j := 0) rfl ?_
  refine r_iconst hC dX9_isEdge_7 (v := 5) (by decide) ?_
  refine r_idiv hC dX9_isEdge_8 (by decide) ?_
  rw [show (19 / 5 : Int32) = 3 from by decide]
  refine r_iconst hC dX9_isEdge_9 (v := 4) (by decide) ?_
  refine r_icmp_eq hC dX9_isEdge_10 (tgt := 26) (by decide) (fun h => absurd h (by decide)) (fun _ => ?_)
  refine r_iload_n hC dX9_isEdge_13 rfl (j := 0) rfl ?_
  refine r_iconst hC dX9_isEdge_14 (v := 5) (by decide) ?_
  refine r_irem hC dX9_isEdge_15 (by decide) ?_
  rw [show (19 - 19 / 5 * 5 : Int32) = 4 from by decide]
  refine r_if_eq hC dX9_isEdge_16 (tgt := 26) (by decide) (fun h => absurd h (by decide)) (fun _ => ?_)
  refine r_iload_n hC dX9_isEdge_19 rfl (j := 0) rfl ?_
  refine r_iconst hC dX9_isEdge_20 (v := 5) (by decide) ?_
  refine r_irem hC dX9_isEdge_21 (by decide) ?_
  rw [show (19 - 19 / 5 * 5 : Int32) = 4 from by decide]
  refine r_iconst hC dX9_isEdge_22 (v := 4) (by decide) ?_
  refine r_icmp_ne hC dX9_isEdge_23 (tgt := 30) (by decide) (fun h => absurd (by decide) h) (fun _ => ?_)
  refine r_iconst hC dX9_isEdge_26 (v := 1) (by decide) ?_
  refine r_goto hC dX9_isEdge_27 (tgt := 31) (by decide) ?_
  refine r_nret hC hE hR dX9_isEdge_31 (by decide) (by omega) (by omega) (rfl) ?_
  exact ⟨rfl, rfl⟩
set_option maxRecDepth 100000 in
set_option maxHeartbeats 4000000 in
theorem sm_edge20 {d : Nat} {w : mW}  : Sp d yX9_isEdge cX9_isEdge 1 (some .boolean) [.int 20] w 0 0 (fun v w' => v = some (.int 1) ∧ w' = w) noX := by
  refine Sp.of (by decide +kernel) (Nat.le_of_ble_eq_true rfl) (fun X hC hnl hE hR hN => ?_)
  have hC : Cx X RX9 cX9_isEdge d 0 0 := hC
  show Wp X 0 0 w [(0, .int 20)] [] 0
  refine r_iload_n hC dX9_isEdge_0 rfl (j := 0) rfl ?_
  refine r_iconst hC dX9_isEdge_1 (v := 5) (by decide) ?_
  refine r_idiv hC dX9_isEdge_2 (by decide) ?_
  rw [show (20 / 5 : Int32) = 4 from by decide]
  refine r_if_eq hC dX9_isEdge_3 (tgt := 26) (by decide) (fun h => absurd h (by decide)) (fun _ => ?_)
  refine r_iload_n hC dX9_isEdge_6 rfl (j := 0) rfl ?_
  refine r_iconst hC dX9_isEdge_7 (v := 5) (by decide) ?_
  refine r_idiv hC dX9_isEdge_8 (by decide) ?_
  rw [show (20 / 5 : Int32) = 4 from by decide]
  refine r_iconst hC dX9_isEdge_9 (v := 4) (by decide) ?_
  refine r_icmp_eq hC dX9_isEdge_10 (tgt := 26) (by decide) (fun _ => ?_) (fun h => absurd (by decide) h)
  refine r_iconst hC dX9_isEdge_26 (v := 1) (by decide) ?_
  refine r_goto hC dX9_isEdge_27 (tgt := 31) (by decide) ?_
  refine r_nret hC hE hR dX9_isEdge_31 (by decide) (by omega) (by omega) (rfl) ?_
  exact ⟨rfl, rfl⟩
set_option maxRecDepth 100000 in
set_option maxHeartbeats 4000000 in
theorem sm_edge21 {d : Nat} {w : mW}  : Sp d yX9_isEdge cX9_isEdge 1 (some .boolean) [.int 21] w 0 0 (fun v w' => v = some (.int 1) ∧ w' = w) noX := by
  refine Sp.of (by decide +kernel) (Nat.le_of_ble_eq_true rfl) (fun X hC hnl hE hR hN => ?_)
  have hC : Cx X RX9 cX9_isEdge d 0 0 := hC
  show Wp X 0 0 w [(0, .int 21)] [] 0
  refine r_iload_n hC dX9_isEdge_0 rfl (j := 0) rfl ?_
  refine r_iconst hC dX9_isEdge_1 (v := 5) (by decide) ?_
  refine r_idiv hC dX9_isEdge_2 (by decide) ?_
  rw [show (21 / 5 : Int32) = 4 from by decide]
  refine r_if_eq hC dX9_isEdge_3 (tgt := 26) (by decide) (fun h => absurd h (by decide)) (fun _ => ?_)
  refine r_iload_n hC dX9_isEdge_6 rfl (j := 0) rfl ?_
  refine r_iconst hC dX9_isEdge_7 (v := 5) (by decide) ?_
  refine r_idiv hC dX9_isEdge_8 (by decide) ?_
  rw [show (21 / 5 : Int32) = 4 from by decide]
  refine r_iconst hC dX9_isEdge_9 (v := 4) (by decide) ?_
  refine r_icmp_eq hC dX9_isEdge_10 (tgt := 26) (by decide) (fun _ => ?_) (fun h => absurd (by decide) h)
  refine r_iconst hC dX9_isEdge_26 (v := 1) (by decide) ?_
  refine r_goto hC dX9_isEdge_27 (tgt := 31) (by decide) ?_
  refine r_nret hC hE hR dX9_isEdge_31 (by decide) (by omega) (by omega) (rfl) ?_
  exact ⟨rfl, rfl⟩
set_option maxRecDepth 100000 in
set_option maxHeartbeats 4000000 in
theorem sm_edge22 {d : Nat} {w : mW}  : Sp d yX9_isEdge cX9_isEdge 1 (some .boolean) [.int 22] w 0 0 (fun v w' => v = some (.int 1) ∧ w' = w) noX := by
  refine Sp.of (by decide +kernel) (Nat.le_of_ble_eq_true rfl) (fun X hC hnl hE hR hN => ?_)
  have hC : Cx X RX9 cX9_isEdge d 0 0 := hC
  show Wp X 0 0 w [(0, .int 22)] [] 0
  refine r_iload_n hC dX9_isEdge_0 rfl (j := 0) rfl ?_
  refine r_iconst hC dX9_isEdge_1 (v := 5) (by decide) ?_
  refine r_idiv hC dX9_isEdge_2 (by decide) ?_
  rw [show (22 / 5 : Int32) = 4 from by decide]
  refine r_if_eq hC dX9_isEdge_3 (tgt := 26) (by decide) (fun h => absurd h (by decide)) (fun _ => ?_)
  refine r_iload_n hC dX9_isEdge_6 rfl (j := 0) rfl ?_
  refine r_iconst hC dX9_isEdge_7 (v := 5) (by decide) ?_
  refine r_idiv hC dX9_isEdge_8 (by decide) ?_
  rw [show (22 / 5 : Int32) = 4 from by decide]
  refine r_iconst hC dX9_isEdge_9 (v := 4) (by decide) ?_
  refine r_icmp_eq hC dX9_isEdge_10 (tgt := 26) (by decide) (fun _ => ?_) (fun h => absurd (by decide) h)
  refine r_iconst hC dX9_isEdge_26 (v := 1) (by decide) ?_
  refine r_goto hC dX9_isEdge_27 (tgt := 31) (by decide) ?_
  refine r_nret hC hE hR dX9_isEdge_31 (by decide) (by omega) (by omega) (rfl) ?_
  exact ⟨rfl, rfl⟩
set_option maxRecDepth 100000 in
set_option maxHeartbeats 4000000 in
theorem sm_edge23 {d : Nat} {w : mW}  : Sp d yX9_isEdge cX9_isEdge 1 (some .boolean) [.int 23] w 0 0 (fun v w' => v = some (.int 1) ∧ w' = w) noX := by
  refine Sp.of (by decide +kernel) (Nat.le_of_ble_eq_true rfl) (fun X hC hnl hE hR hN => ?_)
  have hC : Cx X RX9 cX9_isEdge d 0 0 := hC
  show Wp X 0 0 w [(0, .int 23)] [] 0
  refine r_iload_n hC dX9_isEdge_0 rfl (j := 0) rfl ?_
  refine r_iconst hC dX9_isEdge_1 (v := 5) (by decide) ?_
  refine r_idiv hC dX9_isEdge_2 (by decide) ?_
  rw [show (23 / 5 : Int32) = 4 from by decide]
  refine r_if_eq hC dX9_isEdge_3 (tgt := 26) (by decide) (fun h => absurd h (by decide)) (fun _ => ?_)
  refine r_iload_n hC dX9_isEdge_6 rfl (j := 0) rfl ?_
  refine r_iconst hC dX9_isEdge_7 (v := 5) (by decide) ?_
  refine r_idiv hC dX9_isEdge_8 (by decide) ?_
  rw [show (23 / 5 : Int32) = 4 from by decide]
  refine r_iconst hC dX9_isEdge_9 (v := 4) (by decide) ?_
  refine r_icmp_eq hC dX9_isEdge_10 (tgt := 26) (by decide) (fun _ => ?_) (fun h => absurd (by decide) h)
  refine r_iconst hC dX9_isEdge_26 (v := 1) (by decide) ?_
  refine r_goto hC dX9_isEdge_27 (tgt := 31) (by decide) ?_
  refine r_nret hC hE hR dX9_isEdge_31 (by decide) (by omega) (by omega) (rfl) ?_
  exact ⟨rfl, rfl⟩
set_option maxRecDepth 100000 in
set_option maxHeartbeats 4000000 in
theorem sm_edge24 {d : Nat} {w : mW}  : Sp d yX9_isEdge cX9_isEdge 1 (some .boolean) [.int 24] w 0 0 (fun v w' => v = some (.int 1) ∧ w' = w) noX := by
  refine Sp.of (by decide +kernel) (Nat.le_of_ble_eq_true rfl) (fun X hC hnl hE hR hN => ?_)
  have hC : Cx X RX9 cX9_isEdge d 0 0 := hC
  show Wp X 0 0 w [(0, .int 24)] [] 0
  refine r_iload_n hC dX9_isEdge_0 rfl (j := 0) rfl ?_
  refine r_iconst hC dX9_isEdge_1 (v := 5) (by decide) ?_
  refine r_idiv hC dX9_isEdge_2 (by decide) ?_
  rw [show (24 / 5 : Int32) = 4 from by decide]
  refine r_if_eq hC dX9_isEdge_3 (tgt := 26) (by decide) (fun h => absurd h (by decide)) (fun _ => ?_)
  refine r_iload_n hC dX9_isEdge_6 rfl (j := 0) rfl ?_
  refine r_iconst hC dX9_isEdge_7 (v := 5) (by decide) ?_
  refine r_idiv hC dX9_isEdge_8 (by decide) ?_
  rw [show (24 / 5 : Int32) = 4 from by decide]
  refine r_iconst hC dX9_isEdge_9 (v := 4) (by decide) ?_
  refine r_icmp_eq hC dX9_isEdge_10 (tgt := 26) (by decide) (fun _ => ?_) (fun h => absurd (by decide) h)
  refine r_iconst hC dX9_isEdge_26 (v := 1) (by decide) ?_
  refine r_goto hC dX9_isEdge_27 (tgt := 31) (by decide) ?_
  refine r_nret hC hE hR dX9_isEdge_31 (by decide) (by omega) (by omega) (rfl) ?_
  exact ⟨rfl, rfl⟩
end MD
