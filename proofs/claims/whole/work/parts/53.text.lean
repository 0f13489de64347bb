section TX
/-- the sign at a place of a text of e signs -/
def sgn (t : Nat → Int32) (e h : Nat) : Int32 := if h < e then t h else -1
def dg (x : Int32) : Bool := isI x 48 57
def pDig (t : Nat → Int32) (e h most : Nat) : Option Int32 × Nat := if dg (sgn t e h) = true then (if most = 2 ∧ dg (sgn t e (h + 1)) = true then (some (10 * (sgn t e h - 48) + sgn t e (h + 1) - 48), h + 1 + 1) else (some (sgn t e h - 48), h + 1)) else (none, h)
def pBeh (t : Nat → Int32) (e h most : Nat) : Option Int32 × Nat := if sgn t e h = 32 then pDig t e (h + 1) most else (none, h)
set_option maxRecDepth 100000 in
set_option maxHeartbeats 4000000 in
theorem sm_sign {d : Nat} {w : mW} {m : Nat} {th ch ea fa sv0 tn ln iw id0 : Int32} {tx : Nat → Int32} {h e : Nat} (hm : w[m]? = some (mO 10 [.int th, .int ch, .int ea, .int fa, .int sv0, .ref (m + 1), .ref (m + 2), .ref (m + 3), .ref (m + 4), .ref (m + 5), .ref (m + 6), .ref (m + 7), .ref (m + 8), .ref (m + 9), .ref (m + 10), .int tn, .int (nI h), .int (nI e), .int ln, .int iw, .int id0])) (htx : w[m + 6]? = some (mI 0 60 tx)) (he : e ≤ 60) (hh : h ≤ e) : Sp d yX9_sign cX9_sign 1 (some .int) [.ref m] w 0 0 (fun v w' => v = some (.int (sgn tx e h)) ∧ w' = w) noX := by
  refine Sp.of (by decide +kernel) (Nat.le_of_ble_eq_true rfl) (fun X hC hnl hE hR hN => ?_)
  have hC : Cx X RX9 cX9_sign d 0 0 := hC
  show Wp X 0 0 w [(0, .ref m)] [] 0
  refine r_aload_n hC dX9_sign_0 rfl (j := 0) rfl ?_
  refine r_get hC gX9_sign_1 hm (v := .int (nI h)) rfl ?_
  refine r_aload_n hC dX9_sign_4 rfl (j := 0) rfl ?_
  refine r_get hC gX9_sign_5 hm (v := .int (nI e)) rfl ?_
  refine r_icmp_ge hC dX9_sign_8 (tgt := 23) (by decide) (fun c8 => ?_) (fun c8 => ?_)
  · refine r_iconst hC dX9_sign_23 (v := (-1)) (by decide) ?_
    refine r_iret hC hE hR dX9_sign_24 (by omega) (by omega) (rfl) ?_
    have q : ¬ h < e := fun z => absurd c8 (nI_ge z (by omega))
    exact ⟨by rw [show sgn tx e h = -1 from if_neg q], rfl⟩
  · have hlt : h < e := Nat.lt_of_not_le (fun z => c8 (nI_le z (by omega)))
    refine r_aload_n hC dX9_sign_11 rfl (j := 0) rfl ?_
    refine r_get hC gX9_sign_12 hm (v := .ref (m + 6)) rfl ?_
    refine r_aload_n hC dX9_sign_15 rfl (j := 0) rfl ?_
    refine r_get hC gX9_sign_16 hm (v := .int (nI h)) rfl ?_
    refine r_iald hC dX9_sign_19 (j := h) htx (mIx_nI (by omega) (by decide)) ?_
    refine r_goto hC dX9_sign_20 (tgt := 24) (by decide) ?_
    refine r_iret hC hE hR dX9_sign_24 (by omega) (by omega) (rfl) ?_
    exact ⟨by rw [show sgn tx e h = tx h from if_pos hlt], rfl⟩
set_option maxRecDepth 100000 in
set_option maxHeartbeats 4000000 in
theorem sm_mark {d : Nat} {c : Int32} {w : mW} {m : Nat} {th ch ea fa sv0 tn ln id0 : Int32} {tx : Nat → Int32} {h e : Nat} (hm : w[m]? = some (mO 10 [.int th, .int ch, .int ea, .int fa, .int sv0, .ref (m + 1), .ref (m + 2), .ref (m + 3), .ref (m + 4), .ref (m + 5), .ref (m + 6), .ref (m + 7), .ref (m + 8), .ref (m + 9), .ref (m + 10), .int tn, .int (nI h), .int (nI e), .int ln, .int 0, .int id0])) (htx : w[m + 6]? = some (mI 0 60 tx)) (he : e ≤ 60) (hh : h ≤ e) : Sp (d + 1) yX9_mark cX9_mark 2 none [.ref m, .int c] w 0 0 (fun v w' => (sgn tx e h = c ∧ v = none ∧ w' = w.set m (mO 10 [.int th, .int ch, .int ea, .int fa, .int sv0, .ref (m + 1), .ref (m + 2), .ref (m + 3), .ref (m + 4), .ref (m + 5), .ref (m + 6), .ref (m + 7), .ref (m + 8), .ref (m + 9), .ref (m + 10), .int tn, .int (nI (h + 1)), .int (nI e), .int ln, .int 0, .int id0])) ∨ (¬ sgn tx e h = c ∧ v = none ∧ w' = w.set m (mO 10 [.int th, .int ch, .int ea, .int fa, .int sv0, .ref (m + 1), .ref (m + 2), .ref (m + 3), .ref (m + 4), .ref (m + 5), .ref (m + 6), .ref (m + 7), .ref (m + 8), .ref (m + 9), .ref (m + 10), .int tn, .int (nI h), .int (nI e), .int ln, .int 1, .int id0]))) noX := by
  refine Sp.of (by decide +kernel) (Nat.le_of_ble_eq_true rfl) (fun X hC hnl hE hR hN => ?_)
  have hC : Cx X RX9 cX9_mark (d + 1) 0 0 := hC
  show Wp X 0 0 w [(0, .ref m), (1, .int c)] [] 0
  refine r_aload_n hC dX9_mark_0 rfl (j := 0) rfl ?_
  refine r_get hC gX9_mark_1 hm (v := .int 0) rfl ?_
  refine r_if_eq hC dX9_mark_4 (tgt := 8) (by decide) (fun _ => ?_) (fun h => absurd (by decide) h)
  refine r_aload_n hC dX9_mark_8 rfl (j := 0) rfl ?_
  refine r_aload_n hC dX9_mark_9 rfl (j := 0) rfl ?_
  refine r_callV hC (vs := []) vX9_mark_10 (sm_sign (d := d) (h := h) hm htx he hh) hm rfl rfl (by omega) (by omega) (by omega) (Nat.le_of_ble_eq_true rfl) (fun v_1 w_1 hP_1 hlen_1 => ?_) (fun _ _ h => h.elim)
  rw [hP_1.1, hP_1.2]
  show Wp X 0 0 w [(0, .ref m), (1, .int c)] [.int (sgn tx e h), .ref m] 13
  refine r_iload_n hC dX9_mark_13 rfl (j := 1) rfl ?_
  refine r_icmp_eq hC dX9_mark_14 (tgt := 21) (by decide) (fun c14 => ?_) (fun c14 => ?_)
  · refine r_iconst hC dX9_mark_21 (v := 0) (by decide) ?_
    refine r_put' hC pX9_mark_22 hm (Nat.le_of_ble_eq_true rfl) (fun _ => rfl) (fun _ => rfl) (fun w_2 ew_2 => ?_)
    replace ew_2 : w_2 = (w).set (m) (mO 10 [.int th, .int ch, .int ea, .int fa, .int sv0, .ref (m + 1), .ref (m + 2), .ref (m + 3), .ref (m + 4), .ref (m + 5), .ref (m + 6), .ref (m + 7), .ref (m + 8), .ref (m + 9), .ref (m + 10), .int tn, .int (nI h), .int (nI e), .int ln, .int 0, .int id0]) := ew_2
    have hf2_m : w_2[m]? = some (mO 10 [.int th, .int ch, .int ea, .int fa, .int sv0, .ref (m + 1), .ref (m + 2), .ref (m + 3), .ref (m + 4), .ref (m + 5), .ref (m + 6), .ref (m + 7), .ref (m + 8), .ref (m + 9), .ref (m + 10), .int tn, .int (nI h), .int (nI e), .int ln, .int 0, .int id0]) := by rw [ew_2]; exact List.getElem?_set_self (lt_of_get hm)
    have hf2__m___6_ : w_2[(m + 6)]? = some (mI 0 60 tx) := by rw [ew_2, List.getElem?_set_ne (by omega)]; exact htx
    refine r_aload_n hC dX9_mark_25 rfl (j := 0) rfl ?_
    refine r_dup hC dX9_mark_26 rfl ?_
    refine r_get hC gX9_mark_27 hf2_m (v := .int (nI h)) rfl ?_
    refine r_aload_n hC dX9_mark_30 rfl (j := 0) rfl ?_
    refine r_get hC gX9_mark_31 hf2_m (v := .int 0) rfl ?_
    refine r_if_eq hC dX9_mark_34 (tgt := 41) (by decide) (fun _ => ?_) (fun h => absurd (by decide) h)
    refine r_iconst hC dX9_mark_41 (v := 1) (by decide) ?_
    refine r_iadd hC dX9_mark_42 ?_
    rw [show nI h + 1 = nI (h + 1) from (nI_succ h).symm]
    refine r_put' hC pX9_mark_43 hf2_m (Nat.le_of_ble_eq_true rfl) (fun _ => rfl) (fun _ => rfl) (fun w_3 ew_3 => ?_)
    replace ew_3 : w_3 = (w_2).set (m) (mO 10 [.int th, .int ch, .int ea, .int fa, .int sv0, .ref (m + 1), .ref (m + 2), .ref (m + 3), .ref (m + 4), .ref (m + 5), .ref (m + 6), .ref (m + 7), .ref (m + 8), .ref (m + 9), .ref (m + 10), .int tn, .int (nI (h + 1)), .int (nI e), .int ln, .int 0, .int id0]) := ew_3
    have hf3_m : w_3[m]? = some (mO 10 [.int th, .int ch, .int ea, .int fa, .int sv0, .ref (m + 1), .ref (m + 2), .ref (m + 3), .ref (m + 4), .ref (m + 5), .ref (m + 6), .ref (m + 7), .ref (m + 8), .ref (m + 9), .ref (m + 10), .int tn, .int (nI (h + 1)), .int (nI e), .int ln, .int 0, .int id0]) := by rw [ew_3]; exact List.getElem?_set_self (lt_of_get hf2_m)
    have hf3__m___6_ : w_3[(m + 6)]? = some (mI 0 60 tx) := by rw [ew_3, List.getElem?_set_ne (by omega)]; exact hf2__m___6_
    refine r_vret hC hE hR dX9_mark_46 (by omega) (by omega) (by simp only [ew_3, ew_2, List.length_set]) ?_
    exact Or.inl ⟨c14, rfl, by simp only [ew_3, ew_2, List.set_set]⟩
  · refine r_iconst hC dX9_mark_17 (v := 1) (by decide) ?_
    refine r_goto hC dX9_mark_18 (tgt := 22) (by decide) ?_
    refine r_put' hC pX9_mark_22 hm (Nat.le_of_ble_eq_true rfl) (fun _ => rfl) (fun _ => rfl) (fun w_4 ew_4 => ?_)
    replace ew_4 : w_4 = (w).set (m) (mO 10 [.int th, .int ch, .int ea, .int fa, .int sv0, .ref (m + 1), .ref (m + 2), .ref (m + 3), .ref (m + 4), .ref (m + 5), .ref (m + 6), .ref (m + 7), .ref (m + 8), .ref (m + 9), .ref (m + 10), .int tn, .int (nI h), .int (nI e), .int ln, .int 1, .int id0]) := ew_4
    have hf4_m : w_4[m]? = some (mO 10 [.int th, .int ch, .int ea, .int fa, .int sv0, .ref (m + 1), .ref (m + 2), .ref (m + 3), .ref (m + 4), .ref (m + 5), .ref (m + 6), .ref (m + 7), .ref (m + 8), .ref (m + 9), .ref (m + 10), .int tn, .int (nI h), .int (nI e), .int ln, .int 1, .int id0]) := by rw [ew_4]; exact List.getElem?_set_self (lt_of_get hm)
    have hf4__m___6_ : w_4[(m + 6)]? = some (mI 0 60 tx) := by rw [ew_4, List.getElem?_set_ne (by omega)]; exact htx
    refine r_aload_n hC dX9_mark_25 rfl (j := 0) rfl ?_
    refine r_dup hC dX9_mark_26 rfl ?_
    refine r_get hC gX9_mark_27 hf4_m (v := .int (nI h)) rfl ?_
    refine r_aload_n hC dX9_mark_30 rfl (j := 0) rfl ?_
    refine r_get hC gX9_mark_31 hf4_m (v := .int 1) rfl ?_
    refine r_if_eq hC dX9_mark_34 (tgt := 41) (by decide) (fun h => absurd h (by decide)) (fun _ => ?_)
    refine r_iconst hC dX9_mark_37 (v := 0) (by decide) ?_
    refine r_goto hC dX9_mark_38 (tgt := 42) (by decide) ?_
    refine r_iadd hC dX9_mark_42 ?_
    rw [Int32.add_zero]
    refine r_put' hC pX9_mark_43 hf4_m (Nat.le_of_ble_eq_true rfl) (fun _ => rfl) (fun _ => rfl) (fun w_5 ew_5 => ?_)
    replace ew_5 : w_5 = (w_4).set (m) (mO 10 [.int th, .int ch, .int ea, .int fa, .int sv0, .ref (m + 1), .ref (m + 2), .ref (m + 3), .ref (m + 4), .ref (m + 5), .ref (m + 6), .ref (m + 7), .ref (m + 8), .ref (m + 9), .ref (m + 10), .int tn, .int (nI h), .int (nI e), .int ln, .int 1, .int id0]) := ew_5
    have hf5_m : w_5[m]? = some (mO 10 [.int th, .int ch, .int ea, .int fa, .int sv0, .ref (m + 1), .ref (m + 2), .ref (m + 3), .ref (m + 4), .ref (m + 5), .ref (m + 6), .ref (m + 7), .ref (m + 8), .ref (m + 9), .ref (m + 10), .int tn, .int (nI h), .int (nI e), .int ln, .int 1, .int id0]) := by rw [ew_5]; exact List.getElem?_set_self (lt_of_get hf4_m)
    have hf5__m___6_ : w_5[(m + 6)]? = some (mI 0 60 tx) := by rw [ew_5, List.getElem?_set_ne (by omega)]; exact hf4__m___6_
    refine r_vret hC hE hR dX9_mark_46 (by omega) (by omega) (by simp only [ew_5, ew_4, List.length_set]) ?_
    exact Or.inr ⟨c14, rfl, by simp only [ew_5, ew_4, List.set_set]⟩
theorem dg_lt {t : Nat → Int32} {e h : Nat} (q : dg (sgn t e h) = true) : h + 1 ≤ e := by
  rcases Nat.lt_or_ge h e with z | z
  · exact z
  · rw [show sgn t e h = -1 from if_neg (by omega)] at q
    exact absurd q (by decide)
set_option maxRecDepth 100000 in
set_option maxHeartbeats 4000000 in
theorem sm_digits1 {d : Nat} {w : mW} {m : Nat} {th ch ea fa sv0 tn ln id0 : Int32} {tx : Nat → Int32} {h e : Nat} (hm : w[m]? = some (mO 10 [.int th, .int ch, .int ea, .int fa, .int sv0, .ref (m + 1), .ref (m + 2), .ref (m + 3), .ref (m + 4), .ref (m + 5), .ref (m + 6), .ref (m + 7), .ref (m + 8), .ref (m + 9), .ref (m + 10), .int tn, .int (nI h), .int (nI e), .int ln, .int 0, .int id0])) (htx : w[m + 6]? = some (mI 0 60 tx)) (he : e ≤ 60) (hh : h ≤ e) : Sp (d + 1) yX9_digits cX9_digits 4 (some .int) [.ref m, .int 1] w 0 0 (fun v w' => (∃ x k, pDig tx e h 1 = (some x, k) ∧ k ≤ e ∧ h < k ∧ v = some (.int x) ∧ w' = w.set m (mO 10 [.int th, .int ch, .int ea, .int fa, .int sv0, .ref (m + 1), .ref (m + 2), .ref (m + 3), .ref (m + 4), .ref (m + 5), .ref (m + 6), .ref (m + 7), .ref (m + 8), .ref (m + 9), .ref (m + 10), .int tn, .int (nI k), .int (nI e), .int ln, .int 0, .int id0])) ∨ (pDig tx e h 1 = (none, h) ∧ v = some (.int 0) ∧ w' = w.set m (mO 10 [.int th, .int ch, .int ea, .int fa, .int sv0, .ref (m + 1), .ref (m + 2), .ref (m + 3), .ref (m + 4), .ref (m + 5), .ref (m + 6), .ref (m + 7), .ref (m + 8), .ref (m + 9), .ref (m + 10), .int tn, .int (nI h), .int (nI e), .int ln, .int 1, .int id0]))) noX := by
  refine Sp.of (by decide +kernel) (Nat.le_of_ble_eq_true rfl) (fun X hC hnl hE hR hN => ?_)
  have hC : Cx X RX9 cX9_digits (d + 1) 0 0 := hC
  show Wp X 0 0 w [(0, .ref m), (1, .int 1)] [] 0
  refine r_iconst hC dX9_digits_0 (v := 0) (by decide) ?_
  refine r_istore_n hC dX9_digits_1 rfl (by rw [hnl]; decide) (L' := [(2, .int 0), (0, .ref m), (1, .int 1)]) rfl ?_
  refine r_iconst hC dX9_digits_2 (v := 0) (by decide) ?_
  refine r_istore_n hC dX9_digits_3 rfl (by rw [hnl]; decide) (L' := [(3, .int 0), (2, .int 0), (0, .ref m), (1, .int 1)]) rfl ?_
  refine r_aload_n hC dX9_digits_4 rfl (j := 2) rfl ?_
  refine r_get hC gX9_digits_5 hm (v := .int 0) rfl ?_
  refine r_if_ne hC dX9_digits_8 (tgt := 59) (by decide) (fun h => absurd (by decide) h) (fun _ => ?_)
  refine r_iload_n hC dX9_digits_11 rfl (j := 0) rfl ?_
  refine r_iload_n hC dX9_digits_12 rfl (j := 3) rfl ?_
  refine r_icmp_ge hC dX9_digits_13 (tgt := 59) (by decide) (fun h => absurd h (by decide)) (fun _ => ?_)
  refine r_aload_n hC dX9_digits_16 rfl (j := 2) rfl ?_
  refine r_callV hC (vs := []) vX9_digits_17 (sm_sign (d := d) (h := h) hm htx he hh) hm rfl rfl (by omega) (by omega) (by omega) (Nat.le_of_ble_eq_true rfl) (fun v_1 w_1 hP_1 hlen_1 => ?_) (fun _ _ h => h.elim)
  rw [hP_1.1, hP_1.2]
  show Wp X 0 0 w [(3, .int 0), (2, .int 0), (0, .ref m), (1, .int 1)] [.int (sgn tx e h)] 20
  refine r_bipush hC dX9_digits_20 (v := 48) (by decide) ?_
  refine r_bipush hC dX9_digits_22 (v := 57) (by decide) ?_
  refine r_callS hC (vs := [.int (sgn tx e h), .int 48, .int 57]) vX9_digits_24 (sm_isIn (d := d)) rfl (by omega) (by omega) (by omega) (Nat.le_of_ble_eq_true rfl) (fun v_2 w_2 hP_2 hlen_2 => ?_) (fun _ _ h => h.elim)
  rw [hP_2.1, hP_2.2]
  show Wp X 0 0 w [(3, .int 0), (2, .int 0), (0, .ref m), (1, .int 1)] [.int (bI (isI (sgn tx e h) 48 57))] 27
  refine r_if_eq hC dX9_digits_27 (tgt := 59) (by decide) (fun c27 => ?_) (fun c27 => ?_)
  · refine r_aload_n hC dX9_digits_59 rfl (j := 2) rfl ?_
    refine r_dup hC dX9_digits_60 rfl ?_
    refine r_get hC gX9_digits_61 hm (v := .int 0) rfl ?_
    refine r_iload_n hC dX9_digits_64 rfl (j := 0) rfl ?_
    refine r_if_ne hC dX9_digits_65 (tgt := 72) (by decide) (fun h => absurd (by decide) h) (fun _ => ?_)
    refine r_iconst hC dX9_digits_68 (v := 1) (by decide) ?_
    refine r_goto hC dX9_digits_69 (tgt := 73) (by decide) ?_
    refine r_ior hC dX9_digits_73 ?_
    rw [show (0 ||| 1 : Int32) = 1 from by decide]
    refine r_put' hC pX9_digits_74 hm (Nat.le_of_ble_eq_true rfl) (fun _ => rfl) (fun _ => rfl) (fun w_3 ew_3 => ?_)
    replace ew_3 : w_3 = (w).set (m) (mO 10 [.int th, .int ch, .int ea, .int fa, .int sv0, .ref (m + 1), .ref (m + 2), .ref (m + 3), .ref (m + 4), .ref (m + 5), .ref (m + 6), .ref (m + 7), .ref (m + 8), .ref (m + 9), .ref (m + 10), .int tn, .int (nI h), .int (nI e), .int ln, .int 1, .int id0]) := ew_3
    have hf3_m : w_3[m]? = some (mO 10 [.int th, .int ch, .int ea, .int fa, .int sv0, .ref (m + 1), .ref (m + 2), .ref (m + 3), .ref (m + 4), .ref (m + 5), .ref (m + 6), .ref (m + 7), .ref (m + 8), .ref (m + 9), .ref (m + 10), .int tn, .int (nI h), .int (nI e), .int ln, .int 1, .int id0]) := by rw [ew_3]; exact List.getElem?_set_self (lt_of_get hm)
    have hf3__m___6_ : w_3[(m + 6)]? = some (mI 0 60 tx) := by rw [ew_3, List.getElem?_set_ne (by omega)]; exact htx
    refine r_iload_n hC dX9_digits_77 rfl (j := 1) rfl ?_
    refine r_iret hC hE hR dX9_digits_78 (by omega) (by omega) (by simp only [ew_3, List.length_set]) ?_
    have q1 : ¬ dg (sgn tx e h) = true := by rw [show dg (sgn tx e h) = false from bI_0.mp c27]; decide
    exact Or.inr ⟨if_neg q1, rfl, by simp only [ew_3, List.set_set]⟩
  · have y1 : dg (sgn tx e h) = true := bI_ne.mp c27
    have hh1 : h + 1 ≤ e := dg_lt y1
    refine r_bipush hC dX9_digits_30 (v := 10) (by decide) ?_
    refine r_iload_n hC dX9_digits_32 rfl (j := 1) rfl ?_
    refine r_imul hC dX9_digits_33 ?_
    rw [show (10 * 0 : Int32) = 0 from by decide]
    refine r_aload_n hC dX9_digits_34 rfl (j := 2) rfl ?_
    refine r_callV hC (vs := []) vX9_digits_35 (sm_sign (d := d) (h := h) hm htx he hh) hm rfl rfl (by omega) (by omega) (by omega) (Nat.le_of_ble_eq_true rfl) (fun v_4 w_4 hP_4 hlen_4 => ?_) (fun _ _ h => h.elim)
    rw [hP_4.1, hP_4.2]
    show Wp X 0 0 w [(3, .int 0), (2, .int 0), (0, .ref m), (1, .int 1)] [.int (sgn tx e h), .int 0] 38
    refine r_iadd hC dX9_digits_38 ?_
    rw [show (0 : Int32) + sgn tx e h = sgn tx e h from Int32.zero_add _]
    refine r_bipush hC dX9_digits_39 (v := 48) (by decide) ?_
    refine r_isub hC dX9_digits_41 ?_
    refine r_istore_n hC dX9_digits_42 rfl (by rw [hnl]; decide) (L' := [(2, .int ((sgn tx e h) - 48)), (3, .int 0), (0, .ref m), (1, .int 1)]) rfl ?_
    refine r_aload_n hC dX9_digits_43 rfl (j := 2) rfl ?_
    refine r_dup hC dX9_digits_44 rfl ?_
    refine r_get hC gX9_digits_45 hm (v := .int (nI h)) rfl ?_
    refine r_iconst hC dX9_digits_48 (v := 1) (by decide) ?_
    refine r_iadd hC dX9_digits_49 ?_
    rw [show nI h + 1 = nI (h + 1) from (nI_succ _).symm]
    refine r_put' hC pX9_digits_50 hm (Nat.le_of_ble_eq_true rfl) (fun _ => rfl) (fun _ => rfl) (fun w_5 ew_5 => ?_)
    replace ew_5 : w_5 = (w).set (m) (mO 10 [.int th, .int ch, .int ea, .int fa, .int sv0, .ref (m + 1), .ref (m + 2), .ref (m + 3), .ref (m + 4), .ref (m + 5), .ref (m + 6), .ref (m + 7), .ref (m + 8), .ref (m + 9), .ref (m + 10), .int tn, .int (nI (h + 1)), .int (nI e), .int ln, .int 0, .int id0]) := ew_5
    have hf5_m : w_5[m]? = some (mO 10 [.int th, .int ch, .int ea, .int fa, .int sv0, .ref (m + 1), .ref (m + 2), .ref (m + 3), .ref (m + 4), .ref (m + 5), .ref (m + 6), .ref (m + 7), .ref (m + 8), .ref (m + 9), .ref (m + 10), .int tn, .int (nI (h + 1)), .int (nI e), .int ln, .int 0, .int id0]) := by rw [ew_5]; exact List.getElem?_set_self (lt_of_get hm)
    have hf5__m___6_ : w_5[(m + 6)]? = some (mI 0 60 tx) := by rw [ew_5, List.getElem?_set_ne (by omega)]; exact htx
    refine r_iinc hC dX9_digits_53 (j := 1) rfl (v := 1) (by decide) (by rw [hnl]; decide) (L' := [(3, .int 1), (2, .int ((sgn tx e h) - 48)), (0, .ref m), (1, .int 1)]) rfl ?_
    refine r_goto hC dX9_digits_56 (tgt := 4) (by decide) ?_
    refine r_aload_n hC dX9_digits_4 rfl (j := 2) rfl ?_
    refine r_get hC gX9_digits_5 hf5_m (v := .int 0) rfl ?_
    refine r_if_ne hC dX9_digits_8 (tgt := 59) (by decide) (fun h => absurd (by decide) h) (fun _ => ?_)
    refine r_iload_n hC dX9_digits_11 rfl (j := 0) rfl ?_
    refine r_iload_n hC dX9_digits_12 rfl (j := 3) rfl ?_
    refine r_icmp_ge hC dX9_digits_13 (tgt := 59) (by decide) (fun _ => ?_) (fun h => absurd (by decide) h)
    refine r_aload_n hC dX9_digits_59 rfl (j := 2) rfl ?_
    refine r_dup hC dX9_digits_60 rfl ?_
    refine r_get hC gX9_digits_61 hf5_m (v := .int 0) rfl ?_
    refine r_iload_n hC dX9_digits_64 rfl (j := 0) rfl ?_
    refine r_if_ne hC dX9_digits_65 (tgt := 72) (by decide) (fun _ => ?_) (fun h => absurd h (by decide))
    refine r_iconst hC dX9_digits_72 (v := 0) (by decide) ?_
    refine r_ior hC dX9_digits_73 ?_
    rw [show (0 ||| 0 : Int32) = 0 from by decide]
    refine r_put' hC pX9_digits_74 hf5_m (Nat.le_of_ble_eq_true rfl) (fun _ => rfl) (fun _ => rfl) (fun w_6 ew_6 => ?_)
    replace ew_6 : w_6 = (w_5).set (m) (mO 10 [.int th, .int ch, .int ea, .int fa, .int sv0, .ref (m + 1), .ref (m + 2), .ref (m + 3), .ref (m + 4), .ref (m + 5), .ref (m + 6), .ref (m + 7), .ref (m + 8), .ref (m + 9), .ref (m + 10), .int tn, .int (nI (h + 1)), .int (nI e), .int ln, .int 0, .int id0]) := ew_6
    have hf6_m : w_6[m]? = some (mO 10 [.int th, .int ch, .int ea, .int fa, .int sv0, .ref (m + 1), .ref (m + 2), .ref (m + 3), .ref (m + 4), .ref (m + 5), .ref (m + 6), .ref (m + 7), .ref (m + 8), .ref (m + 9), .ref (m + 10), .int tn, .int (nI (h + 1)), .int (nI e), .int ln, .int 0, .int id0]) := by rw [ew_6]; exact List.getElem?_set_self (lt_of_get hf5_m)
    have hf6__m___6_ : w_6[(m + 6)]? = some (mI 0 60 tx) := by rw [ew_6, List.getElem?_set_ne (by omega)]; exact hf5__m___6_
    refine r_iload_n hC dX9_digits_77 rfl (j := 1) rfl ?_
    refine r_iret hC hE hR dX9_digits_78 (by omega) (by omega) (by simp only [ew_6, ew_5, List.length_set]) ?_
    exact Or.inl ⟨sgn tx e h - 48, h + 1, (if_pos y1).trans (if_neg (fun z => absurd z.1 (by decide))), hh1, Nat.lt_succ_self h, rfl, by simp only [ew_6, ew_5, List.set_set]⟩
set_option maxRecDepth 100000 in
set_option maxHeartbeats 4000000 in
theorem sm_digits2 {d : Nat} {w : mW} {m : Nat} {th ch ea fa sv0 tn ln id0 : Int32} {tx : Nat → Int32} {h e : Nat} (hm : w[m]? = some (mO 10 [.int th, .int ch, .int ea, .int fa, .int sv0, .ref (m + 1), .ref (m + 2), .ref (m + 3), .ref (m + 4), .ref (m + 5), .ref (m + 6), .ref (m + 7), .ref (m + 8), .ref (m + 9), .ref (m + 10), .int tn, .int (nI h), .int (nI e), .int ln, .int 0, .int id0])) (htx : w[m + 6]? = some (mI 0 60 tx)) (he : e ≤ 60) (hh : h ≤ e) : Sp (d + 1) yX9_digits cX9_digits 4 (some .int) [.ref m, .int 2] w 0 0 (fun v w' => (∃ x k, pDig tx e h 2 = (some x, k) ∧ k ≤ e ∧ h < k ∧ v = some (.int x) ∧ w' = w.set m (mO 10 [.int th, .int ch, .int ea, .int fa, .int sv0, .ref (m + 1), .ref (m + 2), .ref (m + 3), .ref (m + 4), .ref (m + 5), .ref (m + 6), .ref (m + 7), .ref (m + 8), .ref (m + 9), .ref (m + 10), .int tn, .int (nI k), .int (nI e), .int ln, .int 0, .int id0])) ∨ (pDig tx e h 2 = (none, h) ∧ v = some (.int 0) ∧ w' = w.set m (mO 10 [.int th, .int ch, .int ea, .int fa, .int sv0, .ref (m + 1), .ref (m + 2), .ref (m + 3), .ref (m + 4), .ref (m + 5), .ref (m + 6), .ref (m + 7), .ref (m + 8), .ref (m + 9), .ref (m + 10), .int tn, .int (nI h), .int (nI e), .int ln, .int 1, .int id0]))) noX := by
  refine Sp.of (by decide +kernel) (Nat.le_of_ble_eq_true rfl) (fun X hC hnl hE hR hN => ?_)
  have hC : Cx X RX9 cX9_digits (d + 1) 0 0 := hC
  show Wp X 0 0 w [(0, .ref m), (1, .int 2)] [] 0
  refine r_iconst hC dX9_digits_0 (v := 0) (by decide) ?_
  refine r_istore_n hC dX9_digits_1 rfl (by rw [hnl]; decide) (L' := [(2, .int 0), (0, .ref m), (1, .int 2)]) rfl ?_
  refine r_iconst hC dX9_digits_2 (v := 0) (by decide) ?_
  refine r_istore_n hC dX9_digits_3 rfl (by rw [hnl]; decide) (L' := [(3, .int 0), (2, .int 0), (0, .ref m), (1, .int 2)]) rfl ?_
  refine r_aload_n hC dX9_digits_4 rfl (j := 2) rfl ?_
  refine r_get hC gX9_digits_5 hm (v := .int 0) rfl ?_
  refine r_if_ne hC dX9_digits_8 (tgt := 59) (by decide) (fun h => absurd (by decide) h) (fun _ => ?_)
  refine r_iload_n hC dX9_digits_11 rfl (j := 0) rfl ?_
  refine r_iload_n hC dX9_digits_12 rfl (j := 3) rfl ?_
  refine r_icmp_ge hC dX9_digits_13 (tgt := 59) (by decide) (fun h => absurd h (by decide)) (fun _ => ?_)
  refine r_aload_n hC dX9_digits_16 rfl (j := 2) rfl ?_
  refine r_callV hC (vs := []) vX9_digits_17 (sm_sign (d := d) (h := h) hm htx he hh) hm rfl rfl (by omega) (by omega) (by omega) (Nat.le_of_ble_eq_true rfl) (fun v_1 w_1 hP_1 hlen_1 => ?_) (fun _ _ h => h.elim)
  rw [hP_1.1, hP_1.2]
  show Wp X 0 0 w [(3, .int 0), (2, .int 0), (0, .ref m), (1, .int 2)] [.int (sgn tx e h)] 20
  refine r_bipush hC dX9_digits_20 (v := 48) (by decide) ?_
  refine r_bipush hC dX9_digits_22 (v := 57) (by decide) ?_
  refine r_callS hC (vs := [.int (sgn tx e h), .int 48, .int 57]) vX9_digits_24 (sm_isIn (d := d)) rfl (by omega) (by omega) (by omega) (Nat.le_of_ble_eq_true rfl) (fun v_2 w_2 hP_2 hlen_2 => ?_) (fun _ _ h => h.elim)
  rw [hP_2.1, hP_2.2]
  show Wp X 0 0 w [(3, .int 0), (2, .int 0), (0, .ref m), (1, .int 2)] [.int (bI (isI (sgn tx e h) 48 57))] 27
  refine r_if_eq hC dX9_digits_27 (tgt := 59) (by decide) (fun c27 => ?_) (fun c27 => ?_)
  · refine r_aload_n hC dX9_digits_59 rfl (j := 2) rfl ?_
    refine r_dup hC dX9_digits_60 rfl ?_
    refine r_get hC gX9_digits_61 hm (v := .int 0) rfl ?_
    refine r_iload_n hC dX9_digits_64 rfl (j := 0) rfl ?_
    refine r_if_ne hC dX9_digits_65 (tgt := 72) (by decide) (fun h => absurd (by decide) h) (fun _ => ?_)
    refine r_iconst hC dX9_digits_68 (v := 1) (by decide) ?_
    refine r_goto hC dX9_digits_69 (tgt := 73) (by decide) ?_
    refine r_ior hC dX9_digits_73 ?_
    rw [show (0 ||| 1 : Int32) = 1 from by decide]
    refine r_put' hC pX9_digits_74 hm (Nat.le_of_ble_eq_true rfl) (fun _ => rfl) (fun _ => rfl) (fun w_3 ew_3 => ?_)
    replace ew_3 : w_3 = (w).set (m) (mO 10 [.int th, .int ch, .int ea, .int fa, .int sv0, .ref (m + 1), .ref (m + 2), .ref (m + 3), .ref (m + 4), .ref (m + 5), .ref (m + 6), .ref (m + 7), .ref (m + 8), .ref (m + 9), .ref (m + 10), .int tn, .int (nI h), .int (nI e), .int ln, .int 1, .int id0]) := ew_3
    have hf3_m : w_3[m]? = some (mO 10 [.int th, .int ch, .int ea, .int fa, .int sv0, .ref (m + 1), .ref (m + 2), .ref (m + 3), .ref (m + 4), .ref (m + 5), .ref (m + 6), .ref (m + 7), .ref (m + 8), .ref (m + 9), .ref (m + 10), .int tn, .int (nI h), .int (nI e), .int ln, .int 1, .int id0]) := by rw [ew_3]; exact List.getElem?_set_self (lt_of_get hm)
    have hf3__m___6_ : w_3[(m + 6)]? = some (mI 0 60 tx) := by rw [ew_3, List.getElem?_set_ne (by omega)]; exact htx
    refine r_iload_n hC dX9_digits_77 rfl (j := 1) rfl ?_
    refine r_iret hC hE hR dX9_digits_78 (by omega) (by omega) (by simp only [ew_3, List.length_set]) ?_
    have q1 : ¬ dg (sgn tx e h) = true := by rw [show dg (sgn tx e h) = false from bI_0.mp c27]; decide
    exact Or.inr ⟨if_neg q1, rfl, by simp only [ew_3, List.set_set]⟩
  · have y1 : dg (sgn tx e h) = true := bI_ne.mp c27
    have hh1 : h + 1 ≤ e := dg_lt y1
    refine r_bipush hC dX9_digits_30 (v := 10) (by decide) ?_
    refine r_iload_n hC dX9_digits_32 rfl (j := 1) rfl ?_
    refine r_imul hC dX9_digits_33 ?_
    rw [show (10 * 0 : Int32) = 0 from by decide]
    refine r_aload_n hC dX9_digits_34 rfl (j := 2) rfl ?_
    refine r_callV hC (vs := []) vX9_digits_35 (sm_sign (d := d) (h := h) hm htx he hh) hm rfl rfl (by omega) (by omega) (by omega) (Nat.le_of_ble_eq_true rfl) (fun v_4 w_4 hP_4 hlen_4 => ?_) (fun _ _ h => h.elim)
    rw [hP_4.1, hP_4.2]
    show Wp X 0 0 w [(3, .int 0), (2, .int 0), (0, .ref m), (1, .int 2)] [.int (sgn tx e h), .int 0] 38
    refine r_iadd hC dX9_digits_38 ?_
    rw [show (0 : Int32) + sgn tx e h = sgn tx e h from Int32.zero_add _]
    refine r_bipush hC dX9_digits_39 (v := 48) (by decide) ?_
    refine r_isub hC dX9_digits_41 ?_
    refine r_istore_n hC dX9_digits_42 rfl (by rw [hnl]; decide) (L' := [(2, .int ((sgn tx e h) - 48)), (3, .int 0), (0, .ref m), (1, .int 2)]) rfl ?_
    refine r_aload_n hC dX9_digits_43 rfl (j := 2) rfl ?_
    refine r_dup hC dX9_digits_44 rfl ?_
    refine r_get hC gX9_digits_45 hm (v := .int (nI h)) rfl ?_
    refine r_iconst hC dX9_digits_48 (v := 1) (by decide) ?_
    refine r_iadd hC dX9_digits_49 ?_
    rw [show nI h + 1 = nI (h + 1) from (nI_succ _).symm]
    refine r_put' hC pX9_digits_50 hm (Nat.le_of_ble_eq_true rfl) (fun _ => rfl) (fun _ => rfl) (fun w_5 ew_5 => ?_)
    replace ew_5 : w_5 = (w).set (m) (mO 10 [.int th, .int ch, .int ea, .int fa, .int sv0, .ref (m + 1), .ref (m + 2), .ref (m + 3), .ref (m + 4), .ref (m + 5), .ref (m + 6), .ref (m + 7), .ref (m + 8), .ref (m + 9), .ref (m + 10), .int tn, .int (nI (h + 1)), .int (nI e), .int ln, .int 0, .int id0]) := ew_5
    have hf5_m : w_5[m]? = some (mO 10 [.int th, .int ch, .int ea, .int fa, .int sv0, .ref (m + 1), .ref (m + 2), .ref (m + 3), .ref (m + 4), .ref (m + 5), .ref (m + 6), .ref (m + 7), .ref (m + 8), .ref (m + 9), .ref (m + 10), .int tn, .int (nI (h + 1)), .int (nI e), .int ln, .int 0, .int id0]) := by rw [ew_5]; exact List.getElem?_set_self (lt_of_get hm)
    have hf5__m___6_ : w_5[(m + 6)]? = some (mI 0 60 tx) := by rw [ew_5, List.getElem?_set_ne (by omega)]; exact htx
    refine r_iinc hC dX9_digits_53 (j := 1) rfl (v := 1) (by decide) (by rw [hnl]; decide) (L' := [(3, .int 1), (2, .int ((sgn tx e h) - 48)), (0, .ref m), (1, .int 2)]) rfl ?_
    refine r_goto hC dX9_digits_56 (tgt := 4) (by decide) ?_
    refine r_aload_n hC dX9_digits_4 rfl (j := 2) rfl ?_
    refine r_get hC gX9_digits_5 hf5_m (v := .int 0) rfl ?_
    refine r_if_ne hC dX9_digits_8 (tgt := 59) (by decide) (fun h => absurd (by decide) h) (fun _ => ?_)
    refine r_iload_n hC dX9_digits_11 rfl (j := 0) rfl ?_
    refine r_iload_n hC dX9_digits_12 rfl (j := 3) rfl ?_
    refine r_icmp_ge hC dX9_digits_13 (tgt := 59) (by decide) (fun h => absurd h (by decide)) (fun _ => ?_)
    refine r_aload_n hC dX9_digits_16 rfl (j := 2) rfl ?_
    refine r_callV hC (vs := []) vX9_digits_17 (sm_sign (d := d) (h := h + 1) hf5_m hf5__m___6_ he hh1) hf5_m rfl rfl (by omega) (by omega) (by omega) (Nat.le_of_ble_eq_true rfl) (fun v_6 w_6 hP_6 hlen_6 => ?_) (fun _ _ h => h.elim)
    rw [hP_6.1, hP_6.2]
    show Wp X 0 0 w_5 [(3, .int 1), (2, .int ((sgn tx e h) - 48)), (0, .ref m), (1, .int 2)] [.int (sgn tx e (h + 1))] 20
    refine r_bipush hC dX9_digits_20 (v := 48) (by decide) ?_
    refine r_bipush hC dX9_digits_22 (v := 57) (by decide) ?_
    refine r_callS hC (vs := [.int (sgn tx e (h + 1)), .int 48, .int 57]) vX9_digits_24 (sm_isIn (d := d)) rfl (by omega) (by omega) (by omega) (Nat.le_of_ble_eq_true rfl) (fun v_7 w_7 hP_7 hlen_7 => ?_) (fun _ _ h => h.elim)
    rw [hP_7.1, hP_7.2]
    show Wp X 0 0 w_5 [(3, .int 1), (2, .int ((sgn tx e h) - 48)), (0, .ref m), (1, .int 2)] [.int (bI (isI (sgn tx e (h + 1)) 48 57))] 27
    refine r_if_eq hC dX9_digits_27 (tgt := 59) (by decide) (fun c27_8 => ?_) (fun c27_8 => ?_)
    · refine r_aload_n hC dX9_digits_59 rfl (j := 2) rfl ?_
      refine r_dup hC dX9_digits_60 rfl ?_
      refine r_get hC gX9_digits_61 hf5_m (v := .int 0) rfl ?_
      refine r_iload_n hC dX9_digits_64 rfl (j := 0) rfl ?_
      refine r_if_ne hC dX9_digits_65 (tgt := 72) (by decide) (fun _ => ?_) (fun h => absurd h (by decide))
      refine r_iconst hC dX9_digits_72 (v := 0) (by decide) ?_
      refine r_ior hC dX9_digits_73 ?_
      rw [show (0 ||| 0 : Int32) = 0 from by decide]
      refine r_put' hC pX9_digits_74 hf5_m (Nat.le_of_ble_eq_true rfl) (fun _ => rfl) (fun _ => rfl) (fun w_9 ew_9 => ?_)
      replace ew_9 : w_9 = (w_5).set (m) (mO 10 [.int th, .int ch, .int ea, .int fa, .int sv0, .ref (m + 1), .ref (m + 2), .ref (m + 3), .ref (m + 4), .ref (m + 5), .ref (m + 6), .ref (m + 7), .ref (m + 8), .ref (m + 9), .ref (m + 10), .int tn, .int (nI (h + 1)), .int (nI e), .int ln, .int 0, .int id0]) := ew_9
      have hf9_m : w_9[m]? = some (mO 10 [.int th, .int ch, .int ea, .int fa, .int sv0, .ref (m + 1), .ref (m + 2), .ref (m + 3), .ref (m + 4), .ref (m + 5), .ref (m + 6), .ref (m + 7), .ref (m + 8), .ref (m + 9), .ref (m + 10), .int tn, .int (nI (h + 1)), .int (nI e), .int ln, .int 0, .int id0]) := by rw [ew_9]; exact List.getElem?_set_self (lt_of_get hf5_m)
      have hf9__m___6_ : w_9[(m + 6)]? = some (mI 0 60 tx) := by rw [ew_9, List.getElem?_set_ne (by omega)]; exact hf5__m___6_
      refine r_iload_n hC dX9_digits_77 rfl (j := 1) rfl ?_
      refine r_iret hC hE hR dX9_digits_78 (by omega) (by omega) (by simp only [ew_9, ew_5, List.length_set]) ?_
      have q2 : ¬ dg (sgn tx e (h + 1)) = true := by rw [show dg (sgn tx e (h + 1)) = false from bI_0.mp c27_8]; decide
      exact Or.inl ⟨sgn tx e h - 48, h + 1, (if_pos y1).trans (if_neg (fun z => q2 z.2)), hh1, Nat.lt_succ_self h, rfl, by simp only [ew_9, ew_5, List.set_set]⟩
    · have y2 : dg (sgn tx e (h + 1)) = true := bI_ne.mp c27_8
      have hh2 : h + 1 + 1 ≤ e := dg_lt y2
      refine r_bipush hC dX9_digits_30 (v := 10) (by decide) ?_
      refine r_iload_n hC dX9_digits_32 rfl (j := 1) rfl ?_
      refine r_imul hC dX9_digits_33 ?_
      refine r_aload_n hC dX9_digits_34 rfl (j := 2) rfl ?_
      refine r_callV hC (vs := []) vX9_digits_35 (sm_sign (d := d) (h := h + 1) hf5_m hf5__m___6_ he hh1) hf5_m rfl rfl (by omega) (by omega) (by omega) (Nat.le_of_ble_eq_true rfl) (fun v_10 w_10 hP_10 hlen_10 => ?_) (fun _ _ h => h.elim)
      rw [hP_10.1, hP_10.2]
      show Wp X 0 0 w_5 [(3, .int 1), (2, .int ((sgn tx e h) - 48)), (0, .ref m), (1, .int 2)] [.int (sgn tx e (h + 1)), .int (10 * ((sgn tx e h) - 48))] 38
      refine r_iadd hC dX9_digits_38 ?_
      refine r_bipush hC dX9_digits_39 (v := 48) (by decide) ?_
      refine r_isub hC dX9_digits_41 ?_
      refine r_istore_n hC dX9_digits_42 rfl (by rw [hnl]; decide) (L' := [(2, .int (((10 * ((sgn tx e h) - 48)) + (sgn tx e (h + 1))) - 48)), (3, .int 1), (0, .ref m), (1, .int 2)]) rfl ?_
      refine r_aload_n hC dX9_digits_43 rfl (j := 2) rfl ?_
      refine r_dup hC dX9_digits_44 rfl ?_
      refine r_get hC gX9_digits_45 hf5_m (v := .int (nI (h + 1))) rfl ?_
      refine r_iconst hC dX9_digits_48 (v := 1) (by decide) ?_
      refine r_iadd hC dX9_digits_49 ?_
      rw [show nI (h + 1) + 1 = nI ((h + 1) + 1) from (nI_succ _).symm]
      refine r_put' hC pX9_digits_50 hf5_m (Nat.le_of_ble_eq_true rfl) (fun _ => rfl) (fun _ => rfl) (fun w_11 ew_11 => ?_)
      replace ew_11 : w_11 = (w_5).set (m) (mO 10 [.int th, .int ch, .int ea, .int fa, .int sv0, .ref (m + 1), .ref (m + 2), .ref (m + 3), .ref (m + 4), .ref (m + 5), .ref (m + 6), .ref (m + 7), .ref (m + 8), .ref (m + 9), .ref (m + 10), .int tn, .int (nI ((h + 1) + 1)), .int (nI e), .int ln, .int 0, .int id0]) := ew_11
      have hf11_m : w_11[m]? = some (mO 10 [.int th, .int ch, .int ea, .int fa, .int sv0, .ref (m + 1), .ref (m + 2), .ref (m + 3), .ref (m + 4), .ref (m + 5), .ref (m + 6), .ref (m + 7), .ref (m + 8), .ref (m + 9), .ref (m + 10), .int tn, .int (nI ((h + 1) + 1)), .int (nI e), .int ln, .int 0, .int id0]) := by rw [ew_11]; exact List.getElem?_set_self (lt_of_get hf5_m)
      have hf11__m___6_ : w_11[(m + 6)]? = some (mI 0 60 tx) := by rw [ew_11, List.getElem?_set_ne (by omega)]; exact hf5__m___6_
      refine r_iinc hC dX9_digits_53 (j := 1) rfl (v := 2) (by decide) (by rw [hnl]; decide) (L' := [(3, .int 2), (2, .int (((10 * ((sgn tx e h) - 48)) + (sgn tx e (h + 1))) - 48)), (0, .ref m), (1, .int 2)]) rfl ?_
      refine r_goto hC dX9_digits_56 (tgt := 4) (by decide) ?_
      refine r_aload_n hC dX9_digits_4 rfl (j := 2) rfl ?_
      refine r_get hC gX9_digits_5 hf11_m (v := .int 0) rfl ?_
      refine r_if_ne hC dX9_digits_8 (tgt := 59) (by decide) (fun h => absurd (by decide) h) (fun _ => ?_)
      refine r_iload_n hC dX9_digits_11 rfl (j := 0) rfl ?_
      refine r_iload_n hC dX9_digits_12 rfl (j := 3) rfl ?_
      refine r_icmp_ge hC dX9_digits_13 (tgt := 59) (by decide) (fun _ => ?_) (fun h => absurd (by decide) h)
      refine r_aload_n hC dX9_digits_59 rfl (j := 2) rfl ?_
      refine r_dup hC dX9_digits_60 rfl ?_
      refine r_get hC gX9_digits_61 hf11_m (v := .int 0) rfl ?_
      refine r_iload_n hC dX9_digits_64 rfl (j := 0) rfl ?_
      refine r_if_ne hC dX9_digits_65 (tgt := 72) (by decide) (fun _ => ?_) (fun h => absurd h (by decide))
      refine r_iconst hC dX9_digits_72 (v := 0) (by decide) ?_
      refine r_ior hC dX9_digits_73 ?_
      rw [show (0 ||| 0 : Int32) = 0 from by decide]
      refine r_put' hC pX9_digits_74 hf11_m (Nat.le_of_ble_eq_true rfl) (fun _ => rfl) (fun _ => rfl) (fun w_12 ew_12 => ?_)
      replace ew_12 : w_12 = (w_11).set (m) (mO 10 [.int th, .int ch, .int ea, .int fa, .int sv0, .ref (m + 1), .ref (m + 2), .ref (m + 3), .ref (m + 4), .ref (m + 5), .ref (m + 6), .ref (m + 7), .ref (m + 8), .ref (m + 9), .ref (m + 10), .int tn, .int (nI ((h + 1) + 1)), .int (nI e), .int ln, .int 0, .int id0]) := ew_12
      have hf12_m : w_12[m]? = some (mO 10 [.int th, .int ch, .int ea, .int fa, .int sv0, .ref (m + 1), .ref (m + 2), .ref (m + 3), .ref (m + 4), .ref (m + 5), .ref (m + 6), .ref (m + 7), .ref (m + 8), .ref (m + 9), .ref (m + 10), .int tn, .int (nI ((h + 1) + 1)), .int (nI e), .int ln, .int 0, .int id0]) := by rw [ew_12]; exact List.getElem?_set_self (lt_of_get hf11_m)
      have hf12__m___6_ : w_12[(m + 6)]? = some (mI 0 60 tx) := by rw [ew_12, List.getElem?_set_ne (by omega)]; exact hf11__m___6_
      refine r_iload_n hC dX9_digits_77 rfl (j := 1) rfl ?_
      refine r_iret hC hE hR dX9_digits_78 (by omega) (by omega) (by simp only [ew_12, ew_11, ew_5, List.length_set]) ?_
      exact Or.inl ⟨10 * (sgn tx e h - 48) + sgn tx e (h + 1) - 48, h + 1 + 1, (if_pos y1).trans (if_pos ⟨rfl, y2⟩), hh2, by omega, rfl, by simp only [ew_12, ew_11, ew_5, List.set_set]⟩
theorem sgn_lt {t : Nat → Int32} {e h : Nat} {c : Int32} (q : sgn t e h = c) (hc : ¬ c = -1) : h + 1 ≤ e := by
  rcases Nat.lt_or_ge h e with z | z
  · exact z
  · rw [show sgn t e h = -1 from if_neg (by omega)] at q
    exact absurd q.symm hc
set_option maxRecDepth 100000 in
set_option maxHeartbeats 4000000 in
theorem sm_behind1 {d : Nat} {w : mW} {m : Nat} {th ch ea fa sv0 tn ln id0 : Int32} {tx : Nat → Int32} {h e : Nat} (hm : w[m]? = some (mO 10 [.int th, .int ch, .int ea, .int fa, .int sv0, .ref (m + 1), .ref (m + 2), .ref (m + 3), .ref (m + 4), .ref (m + 5), .ref (m + 6), .ref (m + 7), .ref (m + 8), .ref (m + 9), .ref (m + 10), .int tn, .int (nI h), .int (nI e), .int ln, .int 0, .int id0])) (htx : w[m + 6]? = some (mI 0 60 tx)) (he : e ≤ 60) (hh : h ≤ e) : Sp (d + 2) yX9_behind cX9_behind 2 (some .int) [.ref m, .int 1] w 0 0 (fun v w' => (∃ x k, pBeh tx e h 1 = (some x, k) ∧ k ≤ e ∧ h < k ∧ v = some (.int x) ∧ w' = w.set m (mO 10 [.int th, .int ch, .int ea, .int fa, .int sv0, .ref (m + 1), .ref (m + 2), .ref (m + 3), .ref (m + 4), .ref (m + 5), .ref (m + 6), .ref (m + 7), .ref (m + 8), .ref (m + 9), .ref (m + 10), .int tn, .int (nI k), .int (nI e), .int ln, .int 0, .int id0])) ∨ (∃ k, pBeh tx e h 1 = (none, k) ∧ k ≤ e ∧ v = some (.int 0) ∧ w' = w.set m (mO 10 [.int th, .int ch, .int ea, .int fa, .int sv0, .ref (m + 1), .ref (m + 2), .ref (m + 3), .ref (m + 4), .ref (m + 5), .ref (m + 6), .ref (m + 7), .ref (m + 8), .ref (m + 9), .ref (m + 10), .int tn, .int (nI k), .int (nI e), .int ln, .int 1, .int id0]))) noX := by
  refine Sp.of (by decide +kernel) (Nat.le_of_ble_eq_true rfl) (fun X hC hnl hE hR hN => ?_)
  have hC : Cx X RX9 cX9_behind (d + 2) 0 0 := hC
  show Wp X 0 0 w [(0, .ref m), (1, .int 1)] [] 0
  refine r_aload_n hC dX9_behind_0 rfl (j := 0) rfl ?_
  refine r_bipush hC dX9_behind_1 (v := 32) (by decide) ?_
  refine r_callV hC (vs := [.int 32]) vX9_behind_3 (sm_mark (d := d) (c := 32) (h := h) (e := e) hm htx he hh) hm rfl rfl (by omega) (by omega) (by omega) (Nat.le_of_ble_eq_true rfl) (fun v_1 w_1 hP_1 hlen_1 => ?_) (fun _ _ h => h.elim)
  rcases hP_1 with ⟨hq_1, hv_1, ew_1⟩ | ⟨hq_1, hv_1, ew_1⟩
  · rw [hv_1]
    have hf1_m : w_1[m]? = some (mO 10 [.int th, .int ch, .int ea, .int fa, .int sv0, .ref (m + 1), .ref (m + 2), .ref (m + 3), .ref (m + 4), .ref (m + 5), .ref (m + 6), .ref (m + 7), .ref (m + 8), .ref (m + 9), .ref (m + 10), .int tn, .int (nI (h + 1)), .int (nI e), .int ln, .int 0, .int id0]) := by rw [ew_1]; exact List.getElem?_set_self (lt_of_get hm)
    have hf1__m___6_ : w_1[(m + 6)]? = some (mI 0 60 tx) := by rw [ew_1, List.getElem?_set_ne (by omega)]; exact htx
    show Wp X 0 0 w_1 [(0, .ref m), (1, .int 1)] [] 6
    refine r_aload_n hC dX9_behind_6 rfl (j := 0) rfl ?_
    refine r_get hC gX9_behind_7 hf1_m (v := .int 0) rfl ?_
    refine r_if_eq hC dX9_behind_10 (tgt := 17) (by decide) (fun _ => ?_) (fun h => absurd (by decide) h)
    refine r_aload_n hC dX9_behind_17 rfl (j := 0) rfl ?_
    refine r_iload_n hC dX9_behind_18 rfl (j := 1) rfl ?_
    have hh1 : h + 1 ≤ e := sgn_lt hq_1 (by decide)
    refine r_callV hC (vs := [.int 1]) vX9_behind_19 (sm_digits1 (d := d) (h := h + 1) (e := e) hf1_m hf1__m___6_ he hh1) hf1_m rfl rfl (by omega) (by omega) (by omega) (Nat.le_of_ble_eq_true rfl) (fun v_2 w_2 hP_2 hlen_2 => ?_) (fun _ _ h => h.elim)
    rcases hP_2 with ⟨x_2, k_2, hd_2, hk_2, hk2_2, hv_2, ew_2⟩ | ⟨hd_2, hv_2, ew_2⟩
    · rw [hv_2]
      have hf2_m : w_2[m]? = some (mO 10 [.int th, .int ch, .int ea, .int fa, .int sv0, .ref (m + 1), .ref (m + 2), .ref (m + 3), .ref (m + 4), .ref (m + 5), .ref (m + 6), .ref (m + 7), .ref (m + 8), .ref (m + 9), .ref (m + 10), .int tn, .int (nI k_2), .int (nI e), .int ln, .int 0, .int id0]) := by rw [ew_2]; exact List.getElem?_set_self (lt_of_get hf1_m)
      have hf2__m___6_ : w_2[(m + 6)]? = some (mI 0 60 tx) := by rw [ew_2, List.getElem?_set_ne (by omega)]; exact hf1__m___6_
      show Wp X 0 0 w_2 [(0, .ref m), (1, .int 1)] [.int x_2] 22
      refine r_iret hC hE hR dX9_behind_22 (by omega) (by omega) (by simp only [ew_2, ew_1, List.length_set]) ?_
      exact Or.inl ⟨x_2, k_2, (if_pos hq_1).trans hd_2, hk_2, by omega, rfl, by simp only [ew_2, ew_1, List.set_set]⟩
    · rw [hv_2]
      have hf2_m : w_2[m]? = some (mO 10 [.int th, .int ch, .int ea, .int fa, .int sv0, .ref (m + 1), .ref (m + 2), .ref (m + 3), .ref (m + 4), .ref (m + 5), .ref (m + 6), .ref (m + 7), .ref (m + 8), .ref (m + 9), .ref (m + 10), .int tn, .int (nI (h + 1)), .int (nI e), .int ln, .int 1, .int id0]) := by rw [ew_2]; exact List.getElem?_set_self (lt_of_get hf1_m)
      have hf2__m___6_ : w_2[(m + 6)]? = some (mI 0 60 tx) := by rw [ew_2, List.getElem?_set_ne (by omega)]; exact hf1__m___6_
      show Wp X 0 0 w_2 [(0, .ref m), (1, .int 1)] [.int 0] 22
      refine r_iret hC hE hR dX9_behind_22 (by omega) (by omega) (by simp only [ew_2, ew_1, List.length_set]) ?_
      exact Or.inr ⟨h + 1, (if_pos hq_1).trans hd_2, hh1, rfl, by simp only [ew_2, ew_1, List.set_set]⟩
  · rw [hv_1]
    have hf1_m : w_1[m]? = some (mO 10 [.int th, .int ch, .int ea, .int fa, .int sv0, .ref (m + 1), .ref (m + 2), .ref (m + 3), .ref (m + 4), .ref (m + 5), .ref (m + 6), .ref (m + 7), .ref (m + 8), .ref (m + 9), .ref (m + 10), .int tn, .int (nI h), .int (nI e), .int ln, .int 1, .int id0]) := by rw [ew_1]; exact List.getElem?_set_self (lt_of_get hm)
    have hf1__m___6_ : w_1[(m + 6)]? = some (mI 0 60 tx) := by rw [ew_1, List.getElem?_set_ne (by omega)]; exact htx
    show Wp X 0 0 w_1 [(0, .ref m), (1, .int 1)] [] 6
    refine r_aload_n hC dX9_behind_6 rfl (j := 0) rfl ?_
    refine r_get hC gX9_behind_7 hf1_m (v := .int 1) rfl ?_
    refine r_if_eq hC dX9_behind_10 (tgt := 17) (by decide) (fun h => absurd h (by decide)) (fun _ => ?_)
    refine r_iconst hC dX9_behind_13 (v := 0) (by decide) ?_
    refine r_goto hC dX9_behind_14 (tgt := 22) (by decide) ?_
    refine r_iret hC hE hR dX9_behind_22 (by omega) (by omega) (by simp only [ew_1, List.length_set]) ?_
    exact Or.inr ⟨h, if_neg hq_1, hh, rfl, by simp only [ew_1, List.set_set]⟩
set_option maxRecDepth 100000 in
set_option maxHeartbeats 4000000 in
theorem sm_behind2 {d : Nat} {w : mW} {m : Nat} {th ch ea fa sv0 tn ln id0 : Int32} {tx : Nat → Int32} {h e : Nat} (hm : w[m]? = some (mO 10 [.int th, .int ch, .int ea, .int fa, .int sv0, .ref (m + 1), .ref (m + 2), .ref (m + 3), .ref (m + 4), .ref (m + 5), .ref (m + 6), .ref (m + 7), .ref (m + 8), .ref (m + 9), .ref (m + 10), .int tn, .int (nI h), .int (nI e), .int ln, .int 0, .int id0])) (htx : w[m + 6]? = some (mI 0 60 tx)) (he : e ≤ 60) (hh : h ≤ e) : Sp (d + 2) yX9_behind cX9_behind 2 (some .int) [.ref m, .int 2] w 0 0 (fun v w' => (∃ x k, pBeh tx e h 2 = (some x, k) ∧ k ≤ e ∧ h < k ∧ v = some (.int x) ∧ w' = w.set m (mO 10 [.int th, .int ch, .int ea, .int fa, .int sv0, .ref (m + 1), .ref (m + 2), .ref (m + 3), .ref (m + 4), .ref (m + 5), .ref (m + 6), .ref (m + 7), .ref (m + 8), .ref (m + 9), .ref (m + 10), .int tn, .int (nI k), .int (nI e), .int ln, .int 0, .int id0])) ∨ (∃ k, pBeh tx e h 2 = (none, k) ∧ k ≤ e ∧ v = some (.int 0) ∧ w' = w.set m (mO 10 [.int th, .int ch, .int ea, .int fa, .int sv0, .ref (m + 1), .ref (m + 2), .ref (m + 3), .ref (m + 4), .ref (m + 5), .ref (m + 6), .ref (m + 7), .ref (m + 8), .ref (m + 9), .ref (m + 10), .int tn, .int (nI k), .int (nI e), .int ln, .int 1, .int id0]))) noX := by
  refine Sp.of (by decide +kernel) (Nat.le_of_ble_eq_true rfl) (fun X hC hnl hE hR hN => ?_)
  have hC : Cx X RX9 cX9_behind (d + 2) 0 0 := hC
  show Wp X 0 0 w [(0, .ref m), (1, .int 2)] [] 0
  refine r_aload_n hC dX9_behind_0 rfl (j := 0) rfl ?_
  refine r_bipush hC dX9_behind_1 (v := 32) (by decide) ?_
  refine r_callV hC (vs := [.int 32]) vX9_behind_3 (sm_mark (d := d) (c := 32) (h := h) (e := e) hm htx he hh) hm rfl rfl (by omega) (by omega) (by omega) (Nat.le_of_ble_eq_true rfl) (fun v_1 w_1 hP_1 hlen_1 => ?_) (fun _ _ h => h.elim)
  rcases hP_1 with ⟨hq_1, hv_1, ew_1⟩ | ⟨hq_1, hv_1, ew_1⟩
  · rw [hv_1]
    have hf1_m : w_1[m]? = some (mO 10 [.int th, .int ch, .int ea, .int fa, .int sv0, .ref (m + 1), .ref (m + 2), .ref (m + 3), .ref (m + 4), .ref (m + 5), .ref (m + 6), .ref (m + 7), .ref (m + 8), .ref (m + 9), .ref (m + 10), .int tn, .int (nI (h + 1)), .int (nI e), .int ln, .int 0, .int id0]) := by rw [ew_1]; exact List.getElem?_set_self (lt_of_get hm)
    have hf1__m___6_ : w_1[(m + 6)]? = some (mI 0 60 tx) := by rw [ew_1, List.getElem?_set_ne (by omega)]; exact htx
    show Wp X 0 0 w_1 [(0, .ref m), (1, .int 2)] [] 6
    refine r_aload_n hC dX9_behind_6 rfl (j := 0) rfl ?_
    refine r_get hC gX9_behind_7 hf1_m (v := .int 0) rfl ?_
    refine r_if_eq hC dX9_behind_10 (tgt := 17) (by decide) (fun _ => ?_) (fun h => absurd (by decide) h)
    refine r_aload_n hC dX9_behind_17 rfl (j := 0) rfl ?_
    refine r_iload_n hC dX9_behind_18 rfl (j := 1) rfl ?_
    have hh1 : h + 1 ≤ e := sgn_lt hq_1 (by decide)
    refine r_callV hC (vs := [.int 2]) vX9_behind_19 (sm_digits2 (d := d) (h := h + 1) (e := e) hf1_m hf1__m___6_ he hh1) hf1_m rfl rfl (by omega) (by omega) (by omega) (Nat.le_of_ble_eq_true rfl) (fun v_2 w_2 hP_2 hlen_2 => ?_) (fun _ _ h => h.elim)
    rcases hP_2 with ⟨x_2, k_2, hd_2, hk_2, hk2_2, hv_2, ew_2⟩ | ⟨hd_2, hv_2, ew_2⟩
    · rw [hv_2]
      have hf2_m : w_2[m]? = some (mO 10 [.int th, .int ch, .int ea, .int fa, .int sv0, .ref (m + 1), .ref (m + 2), .ref (m + 3), .ref (m + 4), .ref (m + 5), .ref (m + 6), .ref (m + 7), .ref (m + 8), .ref (m + 9), .ref (m + 10), .int tn, .int (nI k_2), .int (nI e), .int ln, .int 0, .int id0]) := by rw [ew_2]; exact List.getElem?_set_self (lt_of_get hf1_m)
      have hf2__m___6_ : w_2[(m + 6)]? = some (mI 0 60 tx) := by rw [ew_2, List.getElem?_set_ne (by omega)]; exact hf1__m___6_
      show Wp X 0 0 w_2 [(0, .ref m), (1, .int 2)] [.int x_2] 22
      refine r_iret hC hE hR dX9_behind_22 (by omega) (by omega) (by simp only [ew_2, ew_1, List.length_set]) ?_
      exact Or.inl ⟨x_2, k_2, (if_pos hq_1).trans hd_2, hk_2, by omega, rfl, by simp only [ew_2, ew_1, List.set_set]⟩
    · rw [hv_2]
      have hf2_m : w_2[m]? = some (mO 10 [.int th, .int ch, .int ea, .int fa, .int sv0, .ref (m + 1), .ref (m + 2), .ref (m + 3), .ref (m + 4), .ref (m + 5), .ref (m + 6), .ref (m + 7), .ref (m + 8), .ref (m + 9), .ref (m + 10), .int tn, .int (nI (h + 1)), .int (nI e), .int ln, .int 1, .int id0]) := by rw [ew_2]; exact List.getElem?_set_self (lt_of_get hf1_m)
      have hf2__m___6_ : w_2[(m + 6)]? = some (mI 0 60 tx) := by rw [ew_2, List.getElem?_set_ne (by omega)]; exact hf1__m___6_
      show Wp X 0 0 w_2 [(0, .ref m), (1, .int 2)] [.int 0] 22
      refine r_iret hC hE hR dX9_behind_22 (by omega) (by omega) (by simp only [ew_2, ew_1, List.length_set]) ?_
      exact Or.inr ⟨h + 1, (if_pos hq_1).trans hd_2, hh1, rfl, by simp only [ew_2, ew_1, List.set_set]⟩
  · rw [hv_1]
    have hf1_m : w_1[m]? = some (mO 10 [.int th, .int ch, .int ea, .int fa, .int sv0, .ref (m + 1), .ref (m + 2), .ref (m + 3), .ref (m + 4), .ref (m + 5), .ref (m + 6), .ref (m + 7), .ref (m + 8), .ref (m + 9), .ref (m + 10), .int tn, .int (nI h), .int (nI e), .int ln, .int 1, .int id0]) := by rw [ew_1]; exact List.getElem?_set_self (lt_of_get hm)
    have hf1__m___6_ : w_1[(m + 6)]? = some (mI 0 60 tx) := by rw [ew_1, List.getElem?_set_ne (by omega)]; exact htx
    show Wp X 0 0 w_1 [(0, .ref m), (1, .int 2)] [] 6
    refine r_aload_n hC dX9_behind_6 rfl (j := 0) rfl ?_
    refine r_get hC gX9_behind_7 hf1_m (v := .int 1) rfl ?_
    refine r_if_eq hC dX9_behind_10 (tgt := 17) (by decide) (fun h => absurd h (by decide)) (fun _ => ?_)
    refine r_iconst hC dX9_behind_13 (v := 0) (by decide) ?_
    refine r_goto hC dX9_behind_14 (tgt := 22) (by decide) ?_
    refine r_iret hC hE hR dX9_behind_22 (by omega) (by omega) (by simp only [ew_1, List.length_set]) ?_
    exact Or.inr ⟨h, if_neg hq_1, hh, rfl, by simp only [ew_1, List.set_set]⟩
end TX
