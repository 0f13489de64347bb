section LN
def wrt (f : Nat → Int32) : Nat → List Int32 → Nat → Int32
  | _, [] => f
  | n, x :: l => wrt (upd f n x) (n + 1) l
def Ld (f : Nat → Int32) (ds : List Int32) : Nat → Int32 := wrt f 0 ds
theorem wrt_app {x : Int32} : ∀ {ds : List Int32} {f : Nat → Int32} {n : Nat}, wrt f n (ds ++ [x]) = upd (wrt f n ds) (n + ds.length) x
  | [], f, n => rfl
  | y :: l, f, n => by
    show wrt (upd f n y) (n + 1) (l ++ [x]) = upd (wrt (upd f n y) (n + 1) l) (n + (l.length + 1)) x
    rw [wrt_app, show n + 1 + l.length = n + (l.length + 1) by omega]
theorem Ld_app {x : Int32} {ds : List Int32} {f : Nat → Int32} : upd (Ld f ds) ds.length x = Ld f (ds ++ [x]) := by
  unfold Ld
  rw [wrt_app, Nat.zero_add]
theorem wrt_lo {j : Nat} : ∀ {ds : List Int32} {f : Nat → Int32} {n : Nat}, j < n → wrt f n ds j = f j
  | [], _, _, _ => rfl
  | y :: l, f, n, h => by
    show wrt (upd f n y) (n + 1) l j = f j
    rw [wrt_lo (by omega), pk_un (by omega)]
theorem wrt_at {j : Nat} : ∀ {ds : List Int32} {f : Nat → Int32} {n : Nat}, j < ds.length → wrt f n ds (n + j) = ds.getD j 0
  | [], _, _, h => absurd h (Nat.not_lt_zero _)
  | y :: l, f, n, h => by
    show wrt (upd f n y) (n + 1) l (n + j) = (y :: l).getD j 0
    cases j with
    | zero =>
      show wrt (upd f n y) (n + 1) l n = y
      rw [wrt_lo (Nat.lt_succ_self n), pk_us]
    | succ j =>
      have := wrt_at (ds := l) (f := upd f n y) (n := n + 1) (j := j) (by simpa using h)
      rw [show n + (j + 1) = n + 1 + j by omega, this]
      rfl
theorem Ld_at {j : Nat} {ds : List Int32} {f : Nat → Int32} (h : j < ds.length) : Ld f ds j = ds.getD j 0 := by
  have := wrt_at (f := f) (n := 0) h
  rw [Nat.zero_add] at this
  exact this
def numTx (n : Nat) : List Int32 := if n < 10 then [nI (48 + n / 1 % 10)] else if n < 100 then [nI (48 + n / 10 % 10), nI (48 + n / 1 % 10)] else [nI (48 + n / 100 % 10), nI (48 + n / 10 % 10), nI (48 + n / 1 % 10)]
def ownTx (x : Int32) : List Int32 := if x = -1 then [] else [97 + x]
def cellTx (f g : Nat → Int32) (c : Nat) (first : Bool) : List Int32 := (if first then [] else [32]) ++ (numTx (cN f c) ++ (ownTx (g c) ++ (if hPeak f c then [42] else [])))
def rowTx (f g : Nat → Int32) (r : Nat) : Nat → List Int32
  | 0 => []
  | c + 1 => rowTx f g r c ++ cellTx f g (5 * r + c) (decide (c = 0))
theorem div1 : ∀ n, n < 400 → nI n / 1 = nI n := by decide +kernel
theorem div10 : ∀ n, n < 400 → nI n / 10 = nI (n / 10) := by decide +kernel
theorem div100 : ∀ n, n < 400 → nI n / 100 = nI (n / 100) := by decide +kernel
theorem dch1 : ∀ n, n < 400 → 48 + (nI n / 1 - nI n / 1 / 10 * 10) = nI (48 + n / 1 % 10) := by decide +kernel
theorem dch10 : ∀ n, n < 400 → 48 + (nI n / 10 - nI n / 10 / 10 * 10) = nI (48 + n / 10 % 10) := by decide +kernel
theorem dch100 : ∀ n, n < 400 → 48 + (nI n / 100 - nI n / 100 / 10 * 10) = nI (48 + n / 100 % 10) := by decide +kernel
set_option maxRecDepth 100000 in
set_option maxHeartbeats 4000000 in
theorem sm_writes {d : Nat} {x : Int32} {w : mW} {m : Nat} {th ch ea fa sv0 tn he en iw id0 : Int32} {lf0 : Nat → Int32} {ds : List Int32} (hm : w[m]? = some (mO 10 [.int th, .int ch, .int ea, .int fa, .int sv0, .ref (m + 1), .ref (m + 2), .ref (m + 3), .ref (m + 4), .ref (m + 5), .ref (m + 6), .ref (m + 7), .ref (m + 8), .ref (m + 9), .ref (m + 10), .int tn, .int he, .int en, .int (nI ds.length), .int iw, .int id0])) (hlf : w[m + 7]? = some (mI 0 40 (Ld lf0 ds))) (hl : ds.length < 40) : Sp d yX9_writes cX9_writes 2 none [.ref m, .int x] w 0 0 (fun v w' => v = none ∧ w' = (w.set (m + 7) (mI 0 40 (Ld lf0 (ds ++ [x])))).set m (mO 10 [.int th, .int ch, .int ea, .int fa, .int sv0, .ref (m + 1), .ref (m + 2), .ref (m + 3), .ref (m + 4), .ref (m + 5), .ref (m + 6), .ref (m + 7), .ref (m + 8), .ref (m + 9), .ref (m + 10), .int tn, .int he, .int en, .int (nI (ds ++ [x]).length), .int iw, .int id0])) noX := by
  refine Sp.of (by decide +kernel) (Nat.le_of_ble_eq_true rfl) (fun X hC hnl hE hR hN => ?_)
  have hC : Cx X RX9 cX9_writes d 0 0 := hC
  show Wp X 0 0 w [(0, .ref m), (1, .int x)] [] 0
  refine r_aload_n hC dX9_writes_0 rfl (j := 0) rfl ?_
  refine r_get hC gX9_writes_1 hm (v := .ref (m + 7)) rfl ?_
  refine r_aload_n hC dX9_writes_4 rfl (j := 0) rfl ?_
  refine r_get hC gX9_writes_5 hm (v := .int (nI ds.length)) rfl ?_
  refine r_iload_n hC dX9_writes_8 rfl (j := 1) rfl ?_
  refine r_iast' hC dX9_writes_9 (j := ds.length) hlf (mIx_nI hl (by decide)) (fun w_1 ew_1 => ?_)
  have hf1_m : w_1[m]? = some (mO 10 [.int th, .int ch, .int ea, .int fa, .int sv0, .ref (m + 1), .ref (m + 2), .ref (m + 3), .ref (m + 4), .ref (m + 5), .ref (m + 6), .ref (m + 7), .ref (m + 8), .ref (m + 9), .ref (m + 10), .int tn, .int he, .int en, .int (nI ds.length), .int iw, .int id0]) := by rw [ew_1, List.getElem?_set_ne (by omega)]; exact hm
  have hf1__m___7_ : w_1[(m + 7)]? = some (mI 0 40 (upd (Ld lf0 ds) ds.length x)) := by rw [ew_1]; exact List.getElem?_set_self (lt_of_get hlf)
  refine r_aload_n hC dX9_writes_10 rfl (j := 0) rfl ?_
  refine r_dup hC dX9_writes_11 rfl ?_
  refine r_get hC gX9_writes_12 hf1_m (v := .int (nI ds.length)) rfl ?_
  refine r_iconst hC dX9_writes_15 (v := 1) (by decide) ?_
  refine r_iadd hC dX9_writes_16 ?_
  rw [show nI ds.length + 1 = nI (ds ++ [x]).length from by rw [List.length_append]; exact (nI_succ _).symm]
  refine r_put' hC pX9_writes_17 hf1_m (Nat.le_of_ble_eq_true rfl) (fun _ => rfl) (fun _ => rfl) (fun w_2 ew_2 => ?_)
  replace ew_2 : w_2 = (w_1).set (m) (mO 10 [.int th, .int ch, .int ea, .int fa, .int sv0, .ref (m + 1), .ref (m + 2), .ref (m + 3), .ref (m + 4), .ref (m + 5), .ref (m + 6), .ref (m + 7), .ref (m + 8), .ref (m + 9), .ref (m + 10), .int tn, .int he, .int en, .int (nI (ds ++ [x]).length), .int iw, .int id0]) := ew_2
  have hf2_m : w_2[m]? = some (mO 10 [.int th, .int ch, .int ea, .int fa, .int sv0, .ref (m + 1), .ref (m + 2), .ref (m + 3), .ref (m + 4), .ref (m + 5), .ref (m + 6), .ref (m + 7), .ref (m + 8), .ref (m + 9), .ref (m + 10), .int tn, .int he, .int en, .int (nI (ds ++ [x]).length), .int iw, .int id0]) := by rw [ew_2]; exact List.getElem?_set_self (lt_of_get hf1_m)
  have hf2__m___7_ : w_2[(m + 7)]? = some (mI 0 40 (upd (Ld lf0 ds) ds.length x)) := by rw [ew_2, List.getElem?_set_ne (by omega)]; exact hf1__m___7_
  refine r_vret hC hE hR dX9_writes_20 (by omega) (by omega) (by simp only [ew_2, ew_1, List.length_set]) ?_
  exact ⟨rfl, by rw [ew_2, ew_1, Ld_app]⟩
set_option maxRecDepth 100000 in
set_option maxHeartbeats 4000000 in
theorem sm_wn0 {d n : Nat} {w : mW} {m : Nat} {th ch ea fa sv0 tn he en iw id0 : Int32} {lf0 : Nat → Int32} {ds : List Int32} (hm : w[m]? = some (mO 10 [.int th, .int ch, .int ea, .int fa, .int sv0, .ref (m + 1), .ref (m + 2), .ref (m + 3), .ref (m + 4), .ref (m + 5), .ref (m + 6), .ref (m + 7), .ref (m + 8), .ref (m + 9), .ref (m + 10), .int tn, .int he, .int en, .int (nI ds.length), .int iw, .int id0])) (hlf : w[m + 7]? = some (mI 0 40 (Ld lf0 ds))) (hl : ds.length + 3 ≤ 40) (hn : n < 400) (h1 : n < 10) : Sp (d + 1) yX9_writesNumber cX9_writesNumber 3 none [.ref m, .int (nI n)] w 0 0 (fun v w' => v = none ∧ w' = (w.set (m + 7) (mI 0 40 (Ld lf0 (ds ++ numTx n)))).set m (mO 10 [.int th, .int ch, .int ea, .int fa, .int sv0, .ref (m + 1), .ref (m + 2), .ref (m + 3), .ref (m + 4), .ref (m + 5), .ref (m + 6), .ref (m + 7), .ref (m + 8), .ref (m + 9), .ref (m + 10), .int tn, .int he, .int en, .int (nI (ds ++ numTx n).length), .int iw, .int id0])) noX := by
  refine Sp.of (by decide +kernel) (Nat.le_of_ble_eq_true rfl) (fun X hC hnl hE hR hN => ?_)
  have hC : Cx X RX9 cX9_writesNumber (d + 1) 0 0 := hC
  show Wp X 0 0 w [(0, .ref m), (1, .int (nI n))] [] 0
  refine r_iconst hC dX9_writesNumber_0 (v := 1) (by decide) ?_
  refine r_istore_n hC dX9_writesNumber_1 rfl (by rw [hnl]; decide) (L' := [(2, .int 1), (0, .ref m), (1, .int (nI n))]) rfl ?_
  refine r_iload_n hC dX9_writesNumber_2 rfl (j := 2) rfl ?_
  refine r_iload_n hC dX9_writesNumber_3 rfl (j := 0) rfl ?_
  refine r_idiv hC dX9_writesNumber_4 (by decide) ?_
  rw [div1 n hn]
  refine r_bipush hC dX9_writesNumber_5 (v := 10) (by decide) ?_
  refine r_icmp_lt hC dX9_writesNumber_7 (tgt := 18) (by decide) (fun _ => ?_) (fun h => absurd (Int32.not_le.mp (nI_ge (b := 10) (a := n) (by omega) (by decide))) h)
  refine r_iload_n hC dX9_writesNumber_18 rfl (j := 0) rfl ?_
  refine r_if_le hC dX9_writesNumber_19 (tgt := 43) (by decide) (fun h => absurd h (by decide)) (fun _ => ?_)
  refine r_aload_n hC dX9_writesNumber_22 rfl (j := 1) rfl ?_
  refine r_bipush hC dX9_writesNumber_23 (v := 48) (by decide) ?_
  refine r_iload_n hC dX9_writesNumber_25 rfl (j := 2) rfl ?_
  refine r_iload_n hC dX9_writesNumber_26 rfl (j := 0) rfl ?_
  refine r_idiv hC dX9_writesNumber_27 (by decide) ?_
  refine r_bipush hC dX9_writesNumber_28 (v := 10) (by decide) ?_
  refine r_irem hC dX9_writesNumber_30 (by decide) ?_
  refine r_iadd hC dX9_writesNumber_31 ?_
  rw [dch1 n hn]
  refine r_callV hC (vs := [.int (nI (48 + n / 1 % 10))]) vX9_writesNumber_32 (sm_writes (d := d) (ds := ds) (x := (nI (48 + n / 1 % 10))) hm hlf (by omega)) hm rfl rfl (by omega) (by omega) (by omega) (Nat.le_of_ble_eq_true rfl) (fun v_1 w_1 hP_1 hlen_1 => ?_) (fun _ _ h => h.elim)
  obtain ⟨hv_1, ew_1⟩ := hP_1
  rw [hv_1]
  have hf1_m : w_1[m]? = some (mO 10 [.int th, .int ch, .int ea, .int fa, .int sv0, .ref (m + 1), .ref (m + 2), .ref (m + 3), .ref (m + 4), .ref (m + 5), .ref (m + 6), .ref (m + 7), .ref (m + 8), .ref (m + 9), .ref (m + 10), .int tn, .int he, .int en, .int (nI (ds ++ [(nI (48 + n / 1 % 10))]).length), .int iw, .int id0]) := by rw [ew_1]; exact List.getElem?_set_self (by simp only [List.length_set]; exact lt_of_get hm)
  have hf1__m___7_ : w_1[(m + 7)]? = some (mI 0 40 (Ld lf0 (ds ++ [(nI (48 + n / 1 % 10))]))) := by rw [ew_1, List.getElem?_set_ne (by omega)]; exact List.getElem?_set_self (lt_of_get hlf)
  show Wp X 0 0 w_1 [(2, .int 1), (0, .ref m), (1, .int (nI n))] [] 35
  refine r_iload_n hC dX9_writesNumber_35 rfl (j := 0) rfl ?_
  refine r_bipush hC dX9_writesNumber_36 (v := 10) (by decide) ?_
  refine r_idiv hC dX9_writesNumber_38 (by decide) ?_
  rw [show (1 / 10 : Int32) = 0 from by decide]
  refine r_istore_n hC dX9_writesNumber_39 rfl (by rw [hnl]; decide) (L' := [(2, .int 0), (0, .ref m), (1, .int (nI n))]) rfl ?_
  refine r_goto hC dX9_writesNumber_40 (tgt := 18) (by decide) ?_
  refine r_iload_n hC dX9_writesNumber_18 rfl (j := 0) rfl ?_
  refine r_if_le hC dX9_writesNumber_19 (tgt := 43) (by decide) (fun _ => ?_) (fun h => absurd (by decide) h)
  refine r_vret hC hE hR dX9_writesNumber_43 (by omega) (by omega) (by simp only [ew_1, List.length_set]) ?_
  have e9 : numTx n = [nI (48 + n / 1 % 10)] := if_pos h1
  have e8 : (ds ++ [(nI (48 + n / 1 % 10))]) = ds ++ numTx n := by rw [e9] <;> simp
  refine ⟨rfl, ?_⟩
  rw [← e8]
  simp only [ew_1, List.set_set]
set_option maxRecDepth 100000 in
set_option maxHeartbeats 4000000 in
theorem sm_wn1 {d n : Nat} {w : mW} {m : Nat} {th ch ea fa sv0 tn he en iw id0 : Int32} {lf0 : Nat → Int32} {ds : List Int32} (hm : w[m]? = some (mO 10 [.int th, .int ch, .int ea, .int fa, .int sv0, .ref (m + 1), .ref (m + 2), .ref (m + 3), .ref (m + 4), .ref (m + 5), .ref (m + 6), .ref (m + 7), .ref (m + 8), .ref (m + 9), .ref (m + 10), .int tn, .int he, .int en, .int (nI ds.length), .int iw, .int id0])) (hlf : w[m + 7]? = some (mI 0 40 (Ld lf0 ds))) (hl : ds.length + 3 ≤ 40) (hn : n < 400) (h1 : ¬ n < 10) (h2 : n < 100) : Sp (d + 1) yX9_writesNumber cX9_writesNumber 3 none [.ref m, .int (nI n)] w 0 0 (fun v w' => v = none ∧ w' = (w.set (m + 7) (mI 0 40 (Ld lf0 (ds ++ numTx n)))).set m (mO 10 [.int th, .int ch, .int ea, .int fa, .int sv0, .ref (m + 1), .ref (m + 2), .ref (m + 3), .ref (m + 4), .ref (m + 5), .ref (m + 6), .ref (m + 7), .ref (m + 8), .ref (m + 9), .ref (m + 10), .int tn, .int he, .int en, .int (nI (ds ++ numTx n).length), .int iw, .int id0])) noX := by
  refine Sp.of (by decide +kernel) (Nat.le_of_ble_eq_true rfl) (fun X hC hnl hE hR hN => ?_)
  have hC : Cx X RX9 cX9_writesNumber (d + 1) 0 0 := hC
  show Wp X 0 0 w [(0, .ref m), (1, .int (nI n))] [] 0
  refine r_iconst hC dX9_writesNumber_0 (v := 1) (by decide) ?_
  refine r_istore_n hC dX9_writesNumber_1 rfl (by rw [hnl]; decide) (L' := [(2, .int 1), (0, .ref m), (1, .int (nI n))]) rfl ?_
  refine r_iload_n hC dX9_writesNumber_2 rfl (j := 2) rfl ?_
  refine r_iload_n hC dX9_writesNumber_3 rfl (j := 0) rfl ?_
  refine r_idiv hC dX9_writesNumber_4 (by decide) ?_
  rw [div1 n hn]
  refine r_bipush hC dX9_writesNumber_5 (v := 10) (by decide) ?_
  refine r_icmp_lt hC dX9_writesNumber_7 (tgt := 18) (by decide) (fun h => absurd h (fun z => absurd (nI_le (a := 10) (b := n) (by omega) (by omega)) (Int32.not_le.mpr z))) (fun _ => ?_)
  refine r_iload_n hC dX9_writesNumber_10 rfl (j := 0) rfl ?_
  refine r_bipush hC dX9_writesNumber_11 (v := 10) (by decide) ?_
  refine r_imul hC dX9_writesNumber_13 ?_
  rw [show (1 * 10 : Int32) = 10 from by decide]
  refine r_istore_n hC dX9_writesNumber_14 rfl (by rw [hnl]; decide) (L' := [(2, .int 10), (0, .ref m), (1, .int (nI n))]) rfl ?_
  refine r_goto hC dX9_writesNumber_15 (tgt := 2) (by decide) ?_
  refine r_iload_n hC dX9_writesNumber_2 rfl (j := 2) rfl ?_
  refine r_iload_n hC dX9_writesNumber_3 rfl (j := 0) rfl ?_
  refine r_idiv hC dX9_writesNumber_4 (by decide) ?_
  rw [div10 n hn]
  refine r_bipush hC dX9_writesNumber_5 (v := 10) (by decide) ?_
  refine r_icmp_lt hC dX9_writesNumber_7 (tgt := 18) (by decide) (fun _ => ?_) (fun h => absurd (Int32.not_le.mp (nI_ge (b := 10) (a := n / 10) (by omega) (by decide))) h)
  refine r_iload_n hC dX9_writesNumber_18 rfl (j := 0) rfl ?_
  refine r_if_le hC dX9_writesNumber_19 (tgt := 43) (by decide) (fun h => absurd h (by decide)) (fun _ => ?_)
  refine r_aload_n hC dX9_writesNumber_22 rfl (j := 1) rfl ?_
  refine r_bipush hC dX9_writesNumber_23 (v := 48) (by decide) ?_
  refine r_iload_n hC dX9_writesNumber_25 rfl (j := 2) rfl ?_
  refine r_iload_n hC dX9_writesNumber_26 rfl (j := 0) rfl ?_
  refine r_idiv hC dX9_writesNumber_27 (by decide) ?_
  refine r_bipush hC dX9_writesNumber_28 (v := 10) (by decide) ?_
  refine r_irem hC dX9_writesNumber_30 (by decide) ?_
  refine r_iadd hC dX9_writesNumber_31 ?_
  rw [dch10 n hn]
  refine r_callV hC (vs := [.int (nI (48 + n / 10 % 10))]) vX9_writesNumber_32 (sm_writes (d := d) (ds := ds) (x := (nI (48 + n / 10 % 10))) hm hlf (by omega)) hm rfl rfl (by omega) (by omega) (by omega) (Nat.le_of_ble_eq_true rfl) (fun v_1 w_1 hP_1 hlen_1 => ?_) (fun _ _ h => h.elim)
  obtain ⟨hv_1, ew_1⟩ := hP_1
  rw [hv_1]
  have hf1_m : w_1[m]? = some (mO 10 [.int th, .int ch, .int ea, .int fa, .int sv0, .ref (m + 1), .ref (m + 2), .ref (m + 3), .ref (m + 4), .ref (m + 5), .ref (m + 6), .ref (m + 7), .ref (m + 8), .ref (m + 9), .ref (m + 10), .int tn, .int he, .int en, .int (nI (ds ++ [(nI (48 + n / 10 % 10))]).length), .int iw, .int id0]) := by rw [ew_1]; exact List.getElem?_set_self (by simp only [List.length_set]; exact lt_of_get hm)
  have hf1__m___7_ : w_1[(m + 7)]? = some (mI 0 40 (Ld lf0 (ds ++ [(nI (48 + n / 10 % 10))]))) := by rw [ew_1, List.getElem?_set_ne (by omega)]; exact List.getElem?_set_self (lt_of_get hlf)
  show Wp X 0 0 w_1 [(2, .int 10), (0, .ref m), (1, .int (nI n))] [] 35
  refine r_iload_n hC dX9_writesNumber_35 rfl (j := 0) rfl ?_
  refine r_bipush hC dX9_writesNumber_36 (v := 10) (by decide) ?_
  refine r_idiv hC dX9_writesNumber_38 (by decide) ?_
  rw [show (10 / 10 : Int32) = 1 from by decide]
  refine r_istore_n hC dX9_writesNumber_39 rfl (by rw [hnl]; decide) (L' := [(2, .int 1), (0, .ref m), (1, .int (nI n))]) rfl ?_
  refine r_goto hC dX9_writesNumber_40 (tgt := 18) (by decide) ?_
  refine r_iload_n hC dX9_writesNumber_18 rfl (j := 0) rfl ?_
  refine r_if_le hC dX9_writesNumber_19 (tgt := 43) (by decide) (fun h => absurd h (by decide)) (fun _ => ?_)
  refine r_aload_n hC dX9_writesNumber_22 rfl (j := 1) rfl ?_
  refine r_bipush hC dX9_writesNumber_23 (v := 48) (by decide) ?_
  refine r_iload_n hC dX9_writesNumber_25 rfl (j := 2) rfl ?_
  refine r_iload_n hC dX9_writesNumber_26 rfl (j := 0) rfl ?_
  refine r_idiv hC dX9_writesNumber_27 (by decide) ?_
  refine r_bipush hC dX9_writesNumber_28 (v := 10) (by decide) ?_
  refine r_irem hC dX9_writesNumber_30 (by decide) ?_
  refine r_iadd hC dX9_writesNumber_31 ?_
  rw [dch1 n hn]
  refine r_callV hC (vs := [.int (nI (48 + n / 1 % 10))]) vX9_writesNumber_32 (sm_writes (d := d) (ds := ds ++ [(nI (48 + n / 10 % 10))]) (x := (nI (48 + n / 1 % 10))) hf1_m hf1__m___7_ (by simp only [List.length_append, List.length_cons, List.length_nil]; omega)) hf1_m rfl rfl (by omega) (by omega) (by omega) (Nat.le_of_ble_eq_true rfl) (fun v_2 w_2 hP_2 hlen_2 => ?_) (fun _ _ h => h.elim)
  obtain ⟨hv_2, ew_2⟩ := hP_2
  rw [hv_2]
  have hf2_m : w_2[m]? = some (mO 10 [.int th, .int ch, .int ea, .int fa, .int sv0, .ref (m + 1), .ref (m + 2), .ref (m + 3), .ref (m + 4), .ref (m + 5), .ref (m + 6), .ref (m + 7), .ref (m + 8), .ref (m + 9), .ref (m + 10), .int tn, .int he, .int en, .int (nI ((ds ++ [(nI (48 + n / 10 % 10))]) ++ [(nI (48 + n / 1 % 10))]).length), .int iw, .int id0]) := by rw [ew_2]; exact List.getElem?_set_self (by simp only [List.length_set]; exact lt_of_get hf1_m)
  have hf2__m___7_ : w_2[(m + 7)]? = some (mI 0 40 (Ld lf0 ((ds ++ [(nI (48 + n / 10 % 10))]) ++ [(nI (48 + n / 1 % 10))]))) := by rw [ew_2, List.getElem?_set_ne (by omega)]; exact List.getElem?_set_self (lt_of_get hf1__m___7_)
  show Wp X 0 0 w_2 [(2, .int 1), (0, .ref m), (1, .int (nI n))] [] 35
  refine r_iload_n hC dX9_writesNumber_35 rfl (j := 0) rfl ?_
  refine r_bipush hC dX9_writesNumber_36 (v := 10) (by decide) ?_
  refine r_idiv hC dX9_writesNumber_38 (by decide) ?_
  rw [show (1 / 10 : Int32) = 0 from by decide]
  refine r_istore_n hC dX9_writesNumber_39 rfl (by rw [hnl]; decide) (L' := [(2, .int 0), (0, .ref m), (1, .int (nI n))]) rfl ?_
  refine r_goto hC dX9_writesNumber_40 (tgt := 18) (by decide) ?_
  refine r_iload_n hC dX9_writesNumber_18 rfl (j := 0) rfl ?_
  refine r_if_le hC dX9_writesNumber_19 (tgt := 43) (by decide) (fun _ => ?_) (fun h => absurd (by decide) h)
  refine r_vret hC hE hR dX9_writesNumber_43 (by omega) (by omega) (by simp only [ew_2, ew_1, List.length_set]) ?_
  have e9 : numTx n = [nI (48 + n / 10 % 10), nI (48 + n / 1 % 10)] := (if_neg h1).trans (if_pos h2)
  have e8 : ((ds ++ [(nI (48 + n / 10 % 10))]) ++ [(nI (48 + n / 1 % 10))]) = ds ++ numTx n := by rw [e9] <;> simp
  refine ⟨rfl, ?_⟩
  rw [← e8]
  simp only [ew_2, ew_1, List.set_set]
  rw [List.set_comm _ _ (show m ≠ m + 7 by omega)]
  simp only [List.set_set]
set_option maxRecDepth 100000 in
set_option maxHeartbeats 4000000 in
theorem sm_wn2 {d n : Nat} {w : mW} {m : Nat} {th ch ea fa sv0 tn he en iw id0 : Int32} {lf0 : Nat → Int32} {ds : List Int32} (hm : w[m]? = some (mO 10 [.int th, .int ch, .int ea, .int fa, .int sv0, .ref (m + 1), .ref (m + 2), .ref (m + 3), .ref (m + 4), .ref (m + 5), .ref (m + 6), .ref (m + 7), .ref (m + 8), .ref (m + 9), .ref (m + 10), .int tn, .int he, .int en, .int (nI ds.length), .int iw, .int id0])) (hlf : w[m + 7]? = some (mI 0 40 (Ld lf0 ds))) (hl : ds.length + 3 ≤ 40) (hn : n < 400) (h1 : ¬ n < 10) (h2 : ¬ n < 100) : Sp (d + 1) yX9_writesNumber cX9_writesNumber 3 none [.ref m, .int (nI n)] w 0 0 (fun v w' => v = none ∧ w' = (w.set (m + 7) (mI 0 40 (Ld lf0 (ds ++ numTx n)))).set m (mO 10 [.int th, .int ch, .int ea, .int fa, .int sv0, .ref (m + 1), .ref (m + 2), .ref (m + 3), .ref (m + 4), .ref (m + 5), .ref (m + 6), .ref (m + 7), .ref (m + 8), .ref (m + 9), .ref (m + 10), .int tn, .int he, .int en, .int (nI (ds ++ numTx n).length), .int iw, .int id0])) noX := by
  refine Sp.of (by decide +kernel) (Nat.le_of_ble_eq_true rfl) (fun X hC hnl hE hR hN => ?_)
  have hC : Cx X RX9 cX9_writesNumber (d + 1) 0 0 := hC
  show Wp X 0 0 w [(0, .ref m), (1, .int (nI n))] [] 0
  refine r_iconst hC dX9_writesNumber_0 (v := 1) (by decide) ?_
  refine r_istore_n hC dX9_writesNumber_1 rfl (by rw [hnl]; decide) (L' := [(2, .int 1), (0, .ref m), (1, .int (nI n))]) rfl ?_
  refine r_iload_n hC dX9_writesNumber_2 rfl (j := 2) rfl ?_
  refine r_iload_n hC dX9_writesNumber_3 rfl (j := 0) rfl ?_
  refine r_idiv hC dX9_writesNumber_4 (by decide) ?_
  rw [div1 n hn]
  refine r_bipush hC dX9_writesNumber_5 (v := 10) (by decide) ?_
  refine r_icmp_lt hC dX9_writesNumber_7 (tgt := 18) (by decide) (fun h => absurd h (fun z => absurd (nI_le (a := 10) (b := n) (by omega) (by omega)) (Int32.not_le.mpr z))) (fun _ => ?_)
  refine r_iload_n hC dX9_writesNumber_10 rfl (j := 0) rfl ?_
  refine r_bipush hC dX9_writesNumber_11 (v := 10) (by decide) ?_
  refine r_imul hC dX9_writesNumber_13 ?_
  rw [show (1 * 10 : Int32) = 10 from by decide]
  refine r_istore_n hC dX9_writesNumber_14 rfl (by rw [hnl]; decide) (L' := [(2, .int 10), (0, .ref m), (1, .int (nI n))]) rfl ?_
  refine r_goto hC dX9_writesNumber_15 (tgt := 2) (by decide) ?_
  refine r_iload_n hC dX9_writesNumber_2 rfl (j := 2) rfl ?_
  refine r_iload_n hC dX9_writesNumber_3 rfl (j := 0) rfl ?_
  refine r_idiv hC dX9_writesNumber_4 (by decide) ?_
  rw [div10 n hn]
  refine r_bipush hC dX9_writesNumber_5 (v := 10) (by decide) ?_
  refine r_icmp_lt hC dX9_writesNumber_7 (tgt := 18) (by decide) (fun h => absurd h (fun z => absurd (nI_le (a := 10) (b := n / 10) (by omega) (by omega)) (Int32.not_le.mpr z))) (fun _ => ?_)
  refine r_iload_n hC dX9_writesNumber_10 rfl (j := 0) rfl ?_
  refine r_bipush hC dX9_writesNumber_11 (v := 10) (by decide) ?_
  refine r_imul hC dX9_writesNumber_13 ?_
  rw [show (10 * 10 : Int32) = 100 from by decide]
  refine r_istore_n hC dX9_writesNumber_14 rfl (by rw [hnl]; decide) (L' := [(2, .int 100), (0, .ref m), (1, .int (nI n))]) rfl ?_
  refine r_goto hC dX9_writesNumber_15 (tgt := 2) (by decide) ?_
  refine r_iload_n hC dX9_writesNumber_2 rfl (j := 2) rfl ?_
  refine r_iload_n hC dX9_writesNumber_3 rfl (j := 0) rfl ?_
  refine r_idiv hC dX9_writesNumber_4 (by decide) ?_
  rw [div100 n hn]
  refine r_bipush hC dX9_writesNumber_5 (v := 10) (by decide) ?_
  refine r_icmp_lt hC dX9_writesNumber_7 (tgt := 18) (by decide) (fun _ => ?_) (fun h => absurd (Int32.not_le.mp (nI_ge (b := 10) (a := n / 100) (by omega) (by decide))) h)
  refine r_iload_n hC dX9_writesNumber_18 rfl (j := 0) rfl ?_
  refine r_if_le hC dX9_writesNumber_19 (tgt := 43) (by decide) (fun h => absurd h (by decide)) (fun _ => ?_)
  refine r_aload_n hC dX9_writesNumber_22 rfl (j := 1) rfl ?_
  refine r_bipush hC dX9_writesNumber_23 (v := 48) (by decide) ?_
  refine r_iload_n hC dX9_writesNumber_25 rfl (j := 2) rfl ?_
  refine r_iload_n hC dX9_writesNumber_26 rfl (j := 0) rfl ?_
  refine r_idiv hC dX9_writesNumber_27 (by decide) ?_
  refine r_bipush hC dX9_writesNumber_28 (v := 10) (by decide) ?_
  refine r_irem hC dX9_writesNumber_30 (by decide) ?_
  refine r_iadd hC dX9_writesNumber_31 ?_
  rw [dch100 n hn]
  refine r_callV hC (vs := [.int (nI (48 + n / 100 % 10))]) vX9_writesNumber_32 (sm_writes (d := d) (ds := ds) (x := (nI (48 + n / 100 % 10))) hm hlf (by omega)) hm rfl rfl (by omega) (by omega) (by omega) (Nat.le_of_ble_eq_true rfl) (fun v_1 w_1 hP_1 hlen_1 => ?_) (fun _ _ h => h.elim)
  obtain ⟨hv_1, ew_1⟩ := hP_1
  rw [hv_1]
  have hf1_m : w_1[m]? = some (mO 10 [.int th, .int ch, .int ea, .int fa, .int sv0, .ref (m + 1), .ref (m + 2), .ref (m + 3), .ref (m + 4), .ref (m + 5), .ref (m + 6), .ref (m + 7), .ref (m + 8), .ref (m + 9), .ref (m + 10), .int tn, .int he, .int en, .int (nI (ds ++ [(nI (48 + n / 100 % 10))]).length), .int iw, .int id0]) := by rw [ew_1]; exact List.getElem?_set_self (by simp only [List.length_set]; exact lt_of_get hm)
  have hf1__m___7_ : w_1[(m + 7)]? = some (mI 0 40 (Ld lf0 (ds ++ [(nI (48 + n / 100 % 10))]))) := by rw [ew_1, List.getElem?_set_ne (by omega)]; exact List.getElem?_set_self (lt_of_get hlf)
  show Wp X 0 0 w_1 [(2, .int 100), (0, .ref m), (1, .int (nI n))] [] 35
  refine r_iload_n hC dX9_writesNumber_35 rfl (j := 0) rfl ?_
  refine r_bipush hC dX9_writesNumber_36 (v := 10) (by decide) ?_
  refine r_idiv hC dX9_writesNumber_38 (by decide) ?_
  rw [show (100 / 10 : Int32) = 10 from by decide]
  refine r_istore_n hC dX9_writesNumber_39 rfl (by rw [hnl]; decide) (L' := [(2, .int 10), (0, .ref m), (1, .int (nI n))]) rfl ?_
  refine r_goto hC dX9_writesNumber_40 (tgt := 18) (by decide) ?_
  refine r_iload_n hC dX9_writesNumber_18 rfl (j := 0) rfl ?_
  refine r_if_le hC dX9_writesNumber_19 (tgt := 43) (by decide) (fun h => absurd h (by decide)) (fun _ => ?_)
  refine r_aload_n hC dX9_writesNumber_22 rfl (j := 1) rfl ?_
  refine r_bipush hC dX9_writesNumber_23 (v := 48) (by decide) ?_
  refine r_iload_n hC dX9_writesNumber_25 rfl (j := 2) rfl ?_
  refine r_iload_n hC dX9_writesNumber_26 rfl (j := 0) rfl ?_
  refine r_idiv hC dX9_writesNumber_27 (by decide) ?_
  refine r_bipush hC dX9_writesNumber_28 (v := 10) (by decide) ?_
  refine r_irem hC dX9_writesNumber_30 (by decide) ?_
  refine r_iadd hC dX9_writesNumber_31 ?_
  rw [dch10 n hn]
  refine r_callV hC (vs := [.int (nI (48 + n / 10 % 10))]) vX9_writesNumber_32 (sm_writes (d := d) (ds := ds ++ [(nI (48 + n / 100 % 10))]) (x := (nI (48 + n / 10 % 10))) hf1_m hf1__m___7_ (by simp only [List.length_append, List.length_cons, List.length_nil]; omega)) hf1_m rfl rfl (by omega) (by omega) (by omega) (Nat.le_of_ble_eq_true rfl) (fun v_2 w_2 hP_2 hlen_2 => ?_) (fun _ _ h => h.elim)
  obtain ⟨hv_2, ew_2⟩ := hP_2
  rw [hv_2]
  have hf2_m : w_2[m]? = some (mO 10 [.int th, .int ch, .int ea, .int fa, .int sv0, .ref (m + 1), .ref (m + 2), .ref (m + 3), .ref (m + 4), .ref (m + 5), .ref (m + 6), .ref (m + 7), .ref (m + 8), .ref (m + 9), .ref (m + 10), .int tn, .int he, .int en, .int (nI ((ds ++ [(nI (48 + n / 100 % 10))]) ++ [(nI (48 + n / 10 % 10))]).length), .int iw, .int id0]) := by rw [ew_2]; exact List.getElem?_set_self (by simp only [List.length_set]; exact lt_of_get hf1_m)
  have hf2__m___7_ : w_2[(m + 7)]? = some (mI 0 40 (Ld lf0 ((ds ++ [(nI (48 + n / 100 % 10))]) ++ [(nI (48 + n / 10 % 10))]))) := by rw [ew_2, List.getElem?_set_ne (by omega)]; exact List.getElem?_set_self (lt_of_get hf1__m___7_)
  show Wp X 0 0 w_2 [(2, .int 10), (0, .ref m), (1, .int (nI n))] [] 35
  refine r_iload_n hC dX9_writesNumber_35 rfl (j := 0) rfl ?_
  refine r_bipush hC dX9_writesNumber_36 (v := 10) (by decide) ?_
  refine r_idiv hC dX9_writesNumber_38 (by decide) ?_
  rw [show (10 / 10 : Int32) = 1 from by decide]
  refine r_istore_n hC dX9_writesNumber_39 rfl (by rw [hnl]; decide) (L' := [(2, .int 1), (0, .ref m), (1, .int (nI n))]) rfl ?_
  refine r_goto hC dX9_writesNumber_40 (tgt := 18) (by decide) ?_
  refine r_iload_n hC dX9_writesNumber_18 rfl (j := 0) rfl ?_
  refine r_if_le hC dX9_writesNumber_19 (tgt := 43) (by decide) (fun h => absurd h (by decide)) (fun _ => ?_)
  refine r_aload_n hC dX9_writesNumber_22 rfl (j := 1) rfl ?_
  refine r_bipush hC dX9_writesNumber_23 (v := 48) (by decide) ?_
  refine r_iload_n hC dX9_writesNumber_25 rfl (j := 2) rfl ?_
  refine r_iload_n hC dX9_writesNumber_26 rfl (j := 0) rfl ?_
  refine r_idiv hC dX9_writesNumber_27 (by decide) ?_
  refine r_bipush hC dX9_writesNumber_28 (v := 10) (by decide) ?_
  refine r_irem hC dX9_writesNumber_30 (by decide) ?_
  refine r_iadd hC dX9_writesNumber_31 ?_
  rw [dch1 n hn]
  refine r_callV hC (vs := [.int (nI (48 + n / 1 % 10))]) vX9_writesNumber_32 (sm_writes (d := d) (ds := (ds ++ [(nI (48 + n / 100 % 10))]) ++ [(nI (48 + n / 10 % 10))]) (x := (nI (48 + n / 1 % 10))) hf2_m hf2__m___7_ (by simp only [List.length_append, List.length_cons, List.length_nil]; omega)) hf2_m rfl rfl (by omega) (by omega) (by omega) (Nat.le_of_ble_eq_true rfl) (fun v_3 w_3 hP_3 hlen_3 => ?_) (fun _ _ h => h.elim)
  obtain ⟨hv_3, ew_3⟩ := hP_3
  rw [hv_3]
  have hf3_m : w_3[m]? = some (mO 10 [.int th, .int ch, .int ea, .int fa, .int sv0, .ref (m + 1), .ref (m + 2), .ref (m + 3), .ref (m + 4), .ref (m + 5), .ref (m + 6), .ref (m + 7), .ref (m + 8), .ref (m + 9), .ref (m + 10), .int tn, .int he, .int en, .int (nI (((ds ++ [(nI (48 + n / 100 % 10))]) ++ [(nI (48 + n / 10 % 10))]) ++ [(nI (48 + n / 1 % 10))]).length), .int iw, .int id0]) := by rw [ew_3]; exact List.getElem?_set_self (by simp only [List.length_set]; exact lt_of_get hf2_m)
  have hf3__m___7_ : w_3[(m + 7)]? = some (mI 0 40 (Ld lf0 (((ds ++ [(nI (48 + n / 100 % 10))]) ++ [(nI (48 + n / 10 % 10))]) ++ [(nI (48 + n / 1 % 10))]))) := by rw [ew_3, List.getElem?_set_ne (by omega)]; exact List.getElem?_set_self (lt_of_get hf2__m___7_)
  show Wp X 0 0 w_3 [(2, .int 1), (0, .ref m), (1, .int (nI n))] [] 35
  refine r_iload_n hC dX9_writesNumber_35 rfl (j := 0) rfl ?_
  refine r_bipush hC dX9_writesNumber_36 (v := 10) (by decide) ?_
  refine r_idiv hC dX9_writesNumber_38 (by decide) ?_
  rw [show (1 / 10 : Int32) = 0 from by decide]
  refine r_istore_n hC dX9_writesNumber_39 rfl (by rw [hnl]; decide) (L' := [(2, .int 0), (0, .ref m), (1, .int (nI n))]) rfl ?_
  refine r_goto hC dX9_writesNumber_40 (tgt := 18) (by decide) ?_
  refine r_iload_n hC dX9_writesNumber_18 rfl (j := 0) rfl ?_
  refine r_if_le hC dX9_writesNumber_19 (tgt := 43) (by decide) (fun _ => ?_) (fun h => absurd (by decide) h)
  refine r_vret hC hE hR dX9_writesNumber_43 (by omega) (by omega) (by simp only [ew_3, ew_2, ew_1, List.length_set]) ?_
  have e9 : numTx n = [nI (48 + n / 100 % 10), nI (48 + n / 10 % 10), nI (48 + n / 1 % 10)] := (if_neg h1).trans (if_neg h2)
  have e8 : (((ds ++ [(nI (48 + n / 100 % 10))]) ++ [(nI (48 + n / 10 % 10))]) ++ [(nI (48 + n / 1 % 10))]) = ds ++ numTx n := by rw [e9] <;> simp
  refine ⟨rfl, ?_⟩
  rw [← e8]
  simp only [ew_3, ew_2, ew_1, List.set_set]
  rw [List.set_comm _ _ (show m ≠ m + 7 by omega)]
  simp only [List.set_set]
  rw [List.set_comm _ _ (show m ≠ m + 7 by omega)]
  simp only [List.set_set]
theorem sm_writesNumber {d n : Nat} {w : mW} {m : Nat} {th ch ea fa sv0 tn he en iw id0 : Int32} {lf0 : Nat → Int32} {ds : List Int32} (hm : w[m]? = some (mO 10 [.int th, .int ch, .int ea, .int fa, .int sv0, .ref (m + 1), .ref (m + 2), .ref (m + 3), .ref (m + 4), .ref (m + 5), .ref (m + 6), .ref (m + 7), .ref (m + 8), .ref (m + 9), .ref (m + 10), .int tn, .int he, .int en, .int (nI ds.length), .int iw, .int id0])) (hlf : w[m + 7]? = some (mI 0 40 (Ld lf0 ds))) (hl : ds.length + 3 ≤ 40) (hn : n < 400) : Sp (d + 1) yX9_writesNumber cX9_writesNumber 3 none [.ref m, .int (nI n)] w 0 0 (fun v w' => v = none ∧ w' = (w.set (m + 7) (mI 0 40 (Ld lf0 (ds ++ numTx n)))).set m (mO 10 [.int th, .int ch, .int ea, .int fa, .int sv0, .ref (m + 1), .ref (m + 2), .ref (m + 3), .ref (m + 4), .ref (m + 5), .ref (m + 6), .ref (m + 7), .ref (m + 8), .ref (m + 9), .ref (m + 10), .int tn, .int he, .int en, .int (nI (ds ++ numTx n).length), .int iw, .int id0])) noX := by
  by_cases h1 : n < 10
  · exact sm_wn0 hm hlf hl hn h1
  · by_cases h2 : n < 100
    · exact sm_wn1 hm hlf hl hn h1 h2
    · exact sm_wn2 hm hlf hl hn h1 h2
end LN
