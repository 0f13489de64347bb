section MD3
theorem upd_self {f : Nat → Int32} {c : Nat} : upd f c (f c) = f := by
  funext j
  by_cases h : j = c
  · subst h; exact pk_us
  · exact pk_un h
theorem hTopple_25 {x : hv} {c : Nat} (hc : c < 25) (h : x.1 25 = 0) : (hTopple x c).1 25 = 0 := by
  unfold hTopple
  split
  · show upd x.1 c (x.1 c - 1) 25 = 0
    rw [pk_un (by omega)]; exact h
  · rename_i q
    show upd (upd x.1 c (x.1 c - 1)) (hLow x.1 x.2.2.2.1 c) _ 25 = 0
    rw [pk_un (fun z => q z.symm), pk_un (by omega)]; exact h
theorem hTopple_op {x : hv} {c : Nat} : (hTopple x c).2.2.2.1 = x.2.2.2.1 := by
  unfold hTopple
  split <;> rfl
theorem hRest_num : ∀ (n : Nat) (x : hv), (hRest n x).1 ≤ n
  | 0, _ => Nat.le_refl 0
  | n + 1, x => by
    cases h : hNx x with
    | none => rw [hRest_none h]; exact Nat.zero_le _
    | some c => rw [hRest_some h]; have := hRest_num n (hTopple x c); omega
theorem hCnt_congr {q q2 : Nat → Bool} : ∀ {c : Nat}, (∀ j, j < c → q j = q2 j) → hCnt q c = hCnt q2 c
  | 0, _ => rfl
  | c + 1, h => by
    unfold hCnt
    rw [h c (by omega), hCnt_congr (fun j hj => h j (by omega))]
theorem sPass_ge {rs : Nat → Int32} {ex : Int32} : ∀ {c j : Nat}, c ≤ j → sPass rs ex c j = rs j
  | 0, _, _ => rfl
  | c + 1, j, h => by
    unfold sPass
    split
    · rw [pk_un (by omega)]; exact sPass_ge (by omega)
    · exact sPass_ge (by omega)
theorem sPass_lt {rs : Nat → Int32} {ex : Int32} {c j : Nat} (h : j < c) : sPass rs ex (c + 1) j = sPass rs ex c j := by
  show (if ¬ nI c = ex ∧ ¬ sPass rs ex c c ≤ 0 then upd (sPass rs ex c) c (sPass rs ex c c - 1) else sPass rs ex c) j = _
  split
  · rw [pk_un (by omega)]
  · rfl
set_option maxRecDepth 100000 in
set_option maxHeartbeats 4000000 in
theorem sm_topples {d c : Nat} {w : mW} {m : Nat} {th ch ea fa sv0 tn he en ln iw id0 : Int32} {f g : Nat → Int32} {sl op lo : Int32} {hd rs : Nat → Int32} {np : Nat} {tp av lg pl tk : Int32} (hm : w[m]? = some (mO 10 [.int th, .int ch, .int ea, .int fa, .int sv0, .ref (m + 1), .ref (m + 2), .ref (m + 3), .ref (m + 4), .ref (m + 5), .ref (m + 6), .ref (m + 7), .ref (m + 8), .ref (m + 9), .ref (m + 10), .int tn, .int he, .int en, .int ln, .int iw, .int id0])) (hv : w[m + 1]? = some (mI 0 67 (enc ((f, g, sl, op, lo), hd, rs, np, tp, av, lg, pl, tk)))) (h25 : f 25 = 0) (hop : op = 0 ∨ op = 1) (hc : c < 25) : Sp (d + 3) yX9_topples cX9_topples 4 none [.ref m, .int (nI c)] w 0 0 (fun v w' => v = none ∧ w' = w.set (m + 1) (mI 0 67 (enc (hTopple (f, g, sl, op, lo) c, hd, rs, np, tp, av, lg, pl, tk)))) noX := by
  refine Sp.of (by decide +kernel) (Nat.le_of_ble_eq_true rfl) (fun X hC hnl hE hR hN => ?_)
  have hC : Cx X RX9 cX9_topples (d + 3) 0 0 := hC
  show Wp X 0 0 w [(0, .ref m), (1, .int (nI c))] [] 0
  have hlt := hLow_lt (f := f) (op := op) hc
  refine r_aload_n hC dX9_topples_0 rfl (j := 0) rfl ?_
  refine r_iload_n hC dX9_topples_1 rfl (j := 1) rfl ?_
  refine r_callV hC (vs := [.int (nI c)]) vX9_topples_2 (sm_lowest (d := d) hm hv h25 hop hc) hm rfl rfl (by omega) (by omega) (by omega) (Nat.le_of_ble_eq_true rfl) (fun v_1 w_1 hP_1 hlen_1 => ?_) (fun _ _ h => h.elim)
  rw [hP_1.1, hP_1.2]
  show Wp X 0 0 w [(0, .ref m), (1, .int (nI c))] [.int (nI (hLow f op c))] 5
  refine r_istore_n hC dX9_topples_5 rfl (by rw [hnl]; decide) (L' := [(2, .int (nI (hLow f op c))), (0, .ref m), (1, .int (nI c))]) rfl ?_
  refine r_aload_n hC dX9_topples_6 rfl (j := 1) rfl ?_
  refine r_get hC gX9_topples_7 hm (v := .ref (m + 1)) rfl ?_
  refine r_bipush hC dX9_topples_10 (v := 42) (by decide) ?_
  refine r_iload_n hC dX9_topples_12 rfl (j := 2) rfl ?_
  refine r_iadd hC dX9_topples_13 ?_
  refine r_iald hC dX9_topples_14 (j := (42 + c)) hv (ix42 (c := c) (by omega)) ?_
  rw [enc_ow (c := c) (by omega)]
  refine r_istore_n hC dX9_topples_15 rfl (by rw [hnl]; decide) (L' := [(3, .int (g c + 1)), (2, .int (nI (hLow f op c))), (0, .ref m), (1, .int (nI c))]) rfl ?_
  refine r_aload_n hC dX9_topples_16 rfl (j := 2) rfl ?_
  refine r_get hC gX9_topples_17 hm (v := .ref (m + 1)) rfl ?_
  refine r_bipush hC dX9_topples_20 (v := 17) (by decide) ?_
  refine r_iload_n hC dX9_topples_22 rfl (j := 3) rfl ?_
  refine r_iadd hC dX9_topples_23 ?_
  refine r_dup2 hC dX9_topples_24 rfl rfl ?_
  refine r_iald hC dX9_topples_25 (j := (17 + c)) hv (ix17 (c := c) (by omega)) ?_
  rw [enc_hi (c := c) (by omega)]
  refine r_iconst hC dX9_topples_26 (v := 1) (by decide) ?_
  refine r_isub hC dX9_topples_27 ?_
  refine r_iast' hC dX9_topples_28 (j := (17 + c)) hv (ix17 (c := c) (by omega)) (fun w_2 ew_2 => ?_)
  have hf2_m : w_2[m]? = some (mO 10 [.int th, .int ch, .int ea, .int fa, .int sv0, .ref (m + 1), .ref (m + 2), .ref (m + 3), .ref (m + 4), .ref (m + 5), .ref (m + 6), .ref (m + 7), .ref (m + 8), .ref (m + 9), .ref (m + 10), .int tn, .int he, .int en, .int ln, .int iw, .int id0]) := by rw [ew_2, List.getElem?_set_ne (by omega)]; exact hm
  have hf2__m___1_ : w_2[(m + 1)]? = some (mI 0 67 (upd (enc ((f, g, sl, op, lo), hd, rs, np, tp, av, lg, pl, tk)) (17 + c) ((f c) - 1))) := by rw [ew_2]; exact List.getElem?_set_self (lt_of_get hv)
  rw [upd_hi (c := c) (by omega)] at ew_2 hf2__m___1_
  refine r_aload_n hC dX9_topples_29 rfl (j := 2) rfl ?_
  refine r_get hC gX9_topples_30 hf2_m (v := .ref (m + 1)) rfl ?_
  refine r_bipush hC dX9_topples_33 (v := 17) (by decide) ?_
  refine r_iload_n hC dX9_topples_35 rfl (j := 3) rfl ?_
  refine r_iadd hC dX9_topples_36 ?_
  refine r_iald hC dX9_topples_37 (j := (17 + c)) hf2__m___1_ (ix17 (c := c) (by omega)) ?_
  rw [enc_hi (c := c) (by omega)]
  rw [pk_us]
  refine r_if_ne hC dX9_topples_38 (tgt := 51) (by decide) (fun c38 => ?_) (fun c38 => ?_)
  · refine r_iload_n hC dX9_topples_51 rfl (j := 1) rfl ?_
    refine r_bipush hC dX9_topples_52 (v := 25) (by decide) ?_
    refine r_icmp_ne hC dX9_topples_54 (tgt := 69) (by decide) (fun c54 => ?_) (fun c54 => ?_)
    · have c9 : ¬ hLow f op c = 25 := fun q => c54 (by rw [q]; rfl)
      have hlt2 : hLow f op c < 25 := by omega
      refine r_aload_n hC dX9_topples_69 rfl (j := 2) rfl ?_
      refine r_get hC gX9_topples_70 hf2_m (v := .ref (m + 1)) rfl ?_
      refine r_bipush hC dX9_topples_73 (v := 17) (by decide) ?_
      refine r_iload_n hC dX9_topples_75 rfl (j := 1) rfl ?_
      refine r_iadd hC dX9_topples_76 ?_
      refine r_dup2 hC dX9_topples_77 rfl rfl ?_
      refine r_iald hC dX9_topples_78 (j := (17 + (hLow f op c))) hf2__m___1_ (ix17 (c := (hLow f op c)) (by omega)) ?_
      rw [enc_hi (c := (hLow f op c)) (by omega)]
      refine r_iconst hC dX9_topples_79 (v := 1) (by decide) ?_
      refine r_iadd hC dX9_topples_80 ?_
      refine r_iast' hC dX9_topples_81 (j := (17 + (hLow f op c))) hf2__m___1_ (ix17 (c := (hLow f op c)) (by omega)) (fun w_3 ew_3 => ?_)
      have hf3_m : w_3[m]? = some (mO 10 [.int th, .int ch, .int ea, .int fa, .int sv0, .ref (m + 1), .ref (m + 2), .ref (m + 3), .ref (m + 4), .ref (m + 5), .ref (m + 6), .ref (m + 7), .ref (m + 8), .ref (m + 9), .ref (m + 10), .int tn, .int he, .int en, .int ln, .int iw, .int id0]) := by rw [ew_3, List.getElem?_set_ne (by omega)]; exact hf2_m
      have hf3__m___1_ : w_3[(m + 1)]? = some (mI 0 67 (upd (enc (((upd f c ((f c) - 1)), g, sl, op, lo), hd, rs, np, tp, av, lg, pl, tk)) (17 + (hLow f op c)) (((upd f c ((f c) - 1)) (hLow f op c)) + 1))) := by rw [ew_3]; exact List.getElem?_set_self (lt_of_get hf2__m___1_)
      rw [upd_hi (c := (hLow f op c)) (by omega)] at ew_3 hf3__m___1_
      refine r_aload_n hC dX9_topples_82 rfl (j := 2) rfl ?_
      refine r_get hC gX9_topples_83 hf3_m (v := .ref (m + 1)) rfl ?_
      refine r_bipush hC dX9_topples_86 (v := 42) (by decide) ?_
      refine r_iload_n hC dX9_topples_88 rfl (j := 1) rfl ?_
      refine r_iadd hC dX9_topples_89 ?_
      refine r_iload_n hC dX9_topples_90 rfl (j := 0) rfl ?_
      refine r_iast' hC dX9_topples_91 (j := (42 + (hLow f op c))) hf3__m___1_ (ix42 (c := (hLow f op c)) (by omega)) (fun w_4 ew_4 => ?_)
      have hf4_m : w_4[m]? = some (mO 10 [.int th, .int ch, .int ea, .int fa, .int sv0, .ref (m + 1), .ref (m + 2), .ref (m + 3), .ref (m + 4), .ref (m + 5), .ref (m + 6), .ref (m + 7), .ref (m + 8), .ref (m + 9), .ref (m + 10), .int tn, .int he, .int en, .int ln, .int iw, .int id0]) := by rw [ew_4, List.getElem?_set_ne (by omega)]; exact hf3_m
      have hf4__m___1_ : w_4[(m + 1)]? = some (mI 0 67 (upd (enc (((upd (upd f c ((f c) - 1)) (hLow f op c) (((upd f c ((f c) - 1)) (hLow f op c)) + 1)), g, sl, op, lo), hd, rs, np, tp, av, lg, pl, tk)) (42 + (hLow f op c)) (g c + 1))) := by rw [ew_4]; exact List.getElem?_set_self (lt_of_get hf3__m___1_)
      rw [upd_ow (c := (hLow f op c)) (x := (g c)) (by omega)] at ew_4 hf4__m___1_
      refine r_vret hC hE hR dX9_topples_92 (by omega) (by omega) (by rw [ew_4, List.length_set, ew_3, List.length_set, ew_2, List.length_set]) ?_
      have c9 : ¬ hLow f op c = 25 := fun q => c54 (by rw [q]; rfl)
      have e9 : hTopple (f, g, sl, op, lo) c = ((upd (upd f c ((f c) - 1)) (hLow f op c) (((upd f c ((f c) - 1)) (hLow f op c)) + 1)), (upd g (hLow f op c) (g c)), sl, op, lo) := by
        simp only [hTopple, hRem, hPlace, if_neg c9, if_neg c38]
      exact ⟨rfl, by rw [e9]; simp only [ew_4, ew_3, ew_2, List.set_set]⟩
    · refine r_aload_n hC dX9_topples_57 rfl (j := 2) rfl ?_
      refine r_get hC gX9_topples_58 hf2_m (v := .ref (m + 1)) rfl ?_
      refine r_bipush hC dX9_topples_61 (v := 7) (by decide) ?_
      refine r_dup2 hC dX9_topples_63 rfl rfl ?_
      refine r_iald hC dX9_topples_64 (j := 7) hf2__m___1_ ⟨by decide, by decide, by decide⟩ ?_
      rw [show enc (((upd f c ((f c) - 1)), g, sl, op, lo), hd, rs, np, tp, av, lg, pl, tk) 7 = lo from rfl]
      refine r_iconst hC dX9_topples_65 (v := 1) (by decide) ?_
      refine r_iadd hC dX9_topples_66 ?_
      refine r_iast' hC dX9_topples_67 (j := 7) hf2__m___1_ ⟨by decide, by decide, by decide⟩ (fun w_5 ew_5 => ?_)
      have hf5_m : w_5[m]? = some (mO 10 [.int th, .int ch, .int ea, .int fa, .int sv0, .ref (m + 1), .ref (m + 2), .ref (m + 3), .ref (m + 4), .ref (m + 5), .ref (m + 6), .ref (m + 7), .ref (m + 8), .ref (m + 9), .ref (m + 10), .int tn, .int he, .int en, .int ln, .int iw, .int id0]) := by rw [ew_5, List.getElem?_set_ne (by omega)]; exact hf2_m
      have hf5__m___1_ : w_5[(m + 1)]? = some (mI 0 67 (upd (enc (((upd f c ((f c) - 1)), g, sl, op, lo), hd, rs, np, tp, av, lg, pl, tk)) 7 (lo + 1))) := by rw [ew_5]; exact List.getElem?_set_self (lt_of_get hf2__m___1_)
      rw [show upd (enc (((upd f c ((f c) - 1)), g, sl, op, lo), hd, rs, np, tp, av, lg, pl, tk)) 7 (lo + 1) = enc (((upd f c ((f c) - 1)), g, sl, op, (lo + 1)), hd, rs, np, tp, av, lg, pl, tk) from enc_small (by decide) rfl rfl rfl rfl rfl] at ew_5 hf5__m___1_
      refine r_vret hC hE hR dX9_topples_68 (by omega) (by omega) (by rw [ew_5, List.length_set, ew_2, List.length_set]) ?_
      have c9 : hLow f op c = 25 := (lit_eq rfl (by omega) (by decide)).mp c54
      have e9 : hTopple (f, g, sl, op, lo) c = ((upd f c ((f c) - 1)), g, sl, op, (lo + 1)) := by
        simp only [hTopple, hRem, hPlace, if_pos c9, if_neg c38]
      exact ⟨rfl, by rw [e9]; simp only [ew_5, ew_2, List.set_set]⟩
  · refine r_aload_n hC dX9_topples_41 rfl (j := 2) rfl ?_
    refine r_get hC gX9_topples_42 hf2_m (v := .ref (m + 1)) rfl ?_
    refine r_bipush hC dX9_topples_45 (v := 42) (by decide) ?_
    refine r_iload_n hC dX9_topples_47 rfl (j := 3) rfl ?_
    refine r_iadd hC dX9_topples_48 ?_
    refine r_iconst hC dX9_topples_49 (v := 0) (by decide) ?_
    refine r_iast' hC dX9_topples_50 (j := (42 + c)) hf2__m___1_ (ix42 (c := c) (by omega)) (fun w_6 ew_6 => ?_)
    have hf6_m : w_6[m]? = some (mO 10 [.int th, .int ch, .int ea, .int fa, .int sv0, .ref (m + 1), .ref (m + 2), .ref (m + 3), .ref (m + 4), .ref (m + 5), .ref (m + 6), .ref (m + 7), .ref (m + 8), .ref (m + 9), .ref (m + 10), .int tn, .int he, .int en, .int ln, .int iw, .int id0]) := by rw [ew_6, List.getElem?_set_ne (by omega)]; exact hf2_m
    have hf6__m___1_ : w_6[(m + 1)]? = some (mI 0 67 (upd (enc (((upd f c ((f c) - 1)), g, sl, op, lo), hd, rs, np, tp, av, lg, pl, tk)) (42 + c) 0)) := by rw [ew_6]; exact List.getElem?_set_self (lt_of_get hf2__m___1_)
    rw [upd_ow0 (c := c) (by omega)] at ew_6 hf6__m___1_
    refine r_iload_n hC dX9_topples_51 rfl (j := 1) rfl ?_
    refine r_bipush hC dX9_topples_52 (v := 25) (by decide) ?_
    refine r_icmp_ne hC dX9_topples_54 (tgt := 69) (by decide) (fun c54 => ?_) (fun c54 => ?_)
    · have c9 : ¬ hLow f op c = 25 := fun q => c54 (by rw [q]; rfl)
      have hlt2 : hLow f op c < 25 := by omega
      refine r_aload_n hC dX9_topples_69 rfl (j := 2) rfl ?_
      refine r_get hC gX9_topples_70 hf6_m (v := .ref (m + 1)) rfl ?_
      refine r_bipush hC dX9_topples_73 (v := 17) (by decide) ?_
      refine r_iload_n hC dX9_topples_75 rfl (j := 1) rfl ?_
      refine r_iadd hC dX9_topples_76 ?_
      refine r_dup2 hC dX9_topples_77 rfl rfl ?_
      refine r_iald hC dX9_topples_78 (j := (17 + (hLow f op c))) hf6__m___1_ (ix17 (c := (hLow f op c)) (by omega)) ?_
      rw [enc_hi (c := (hLow f op c)) (by omega)]
      refine r_iconst hC dX9_topples_79 (v := 1) (by decide) ?_
      refine r_iadd hC dX9_topples_80 ?_
      refine r_iast' hC dX9_topples_81 (j := (17 + (hLow f op c))) hf6__m___1_ (ix17 (c := (hLow f op c)) (by omega)) (fun w_7 ew_7 => ?_)
      have hf7_m : w_7[m]? = some (mO 10 [.int th, .int ch, .int ea, .int fa, .int sv0, .ref (m + 1), .ref (m + 2), .ref (m + 3), .ref (m + 4), .ref (m + 5), .ref (m + 6), .ref (m + 7), .ref (m + 8), .ref (m + 9), .ref (m + 10), .int tn, .int he, .int en, .int ln, .int iw, .int id0]) := by rw [ew_7, List.getElem?_set_ne (by omega)]; exact hf6_m
      have hf7__m___1_ : w_7[(m + 1)]? = some (mI 0 67 (upd (enc (((upd f c ((f c) - 1)), (upd g c (-1)), sl, op, lo), hd, rs, np, tp, av, lg, pl, tk)) (17 + (hLow f op c)) (((upd f c ((f c) - 1)) (hLow f op c)) + 1))) := by rw [ew_7]; exact List.getElem?_set_self (lt_of_get hf6__m___1_)
      rw [upd_hi (c := (hLow f op c)) (by omega)] at ew_7 hf7__m___1_
      refine r_aload_n hC dX9_topples_82 rfl (j := 2) rfl ?_
      refine r_get hC gX9_topples_83 hf7_m (v := .ref (m + 1)) rfl ?_
      refine r_bipush hC dX9_topples_86 (v := 42) (by decide) ?_
      refine r_iload_n hC dX9_topples_88 rfl (j := 1) rfl ?_
      refine r_iadd hC dX9_topples_89 ?_
      refine r_iload_n hC dX9_topples_90 rfl (j := 0) rfl ?_
      refine r_iast' hC dX9_topples_91 (j := (42 + (hLow f op c))) hf7__m___1_ (ix42 (c := (hLow f op c)) (by omega)) (fun w_8 ew_8 => ?_)
      have hf8_m : w_8[m]? = some (mO 10 [.int th, .int ch, .int ea, .int fa, .int sv0, .ref (m + 1), .ref (m + 2), .ref (m + 3), .ref (m + 4), .ref (m + 5), .ref (m + 6), .ref (m + 7), .ref (m + 8), .ref (m + 9), .ref (m + 10), .int tn, .int he, .int en, .int ln, .int iw, .int id0]) := by rw [ew_8, List.getElem?_set_ne (by omega)]; exact hf7_m
      have hf8__m___1_ : w_8[(m + 1)]? = some (mI 0 67 (upd (enc (((upd (upd f c ((f c) - 1)) (hLow f op c) (((upd f c ((f c) - 1)) (hLow f op c)) + 1)), (upd g c (-1)), sl, op, lo), hd, rs, np, tp, av, lg, pl, tk)) (42 + (hLow f op c)) (g c + 1))) := by rw [ew_8]; exact List.getElem?_set_self (lt_of_get hf7__m___1_)
      rw [upd_ow (c := (hLow f op c)) (x := (g c)) (by omega)] at ew_8 hf8__m___1_
      refine r_vret hC hE hR dX9_topples_92 (by omega) (by omega) (by rw [ew_8, List.length_set, ew_7, List.length_set, ew_6, List.length_set, ew_2, List.length_set]) ?_
      have c9 : ¬ hLow f op c = 25 := fun q => c54 (by rw [q]; rfl)
      have e9 : hTopple (f, g, sl, op, lo) c = ((upd (upd f c ((f c) - 1)) (hLow f op c) (((upd f c ((f c) - 1)) (hLow f op c)) + 1)), (upd (upd g c (-1)) (hLow f op c) (g c)), sl, op, lo) := by
        simp only [hTopple, hRem, hPlace, if_neg c9, if_pos c38]
      exact ⟨rfl, by rw [e9]; simp only [ew_8, ew_7, ew_6, ew_2, List.set_set]⟩
    · refine r_aload_n hC dX9_topples_57 rfl (j := 2) rfl ?_
      refine r_get hC gX9_topples_58 hf6_m (v := .ref (m + 1)) rfl ?_
      refine r_bipush hC dX9_topples_61 (v := 7) (by decide) ?_
      refine r_dup2 hC dX9_topples_63 rfl rfl ?_
      refine r_iald hC dX9_topples_64 (j := 7) hf6__m___1_ ⟨by decide, by decide, by decide⟩ ?_
      rw [show enc (((upd f c ((f c) - 1)), (upd g c (-1)), sl, op, lo), hd, rs, np, tp, av, lg, pl, tk) 7 = lo from rfl]
      refine r_iconst hC dX9_topples_65 (v := 1) (by decide) ?_
      refine r_iadd hC dX9_topples_66 ?_
      refine r_iast' hC dX9_topples_67 (j := 7) hf6__m___1_ ⟨by decide, by decide, by decide⟩ (fun w_9 ew_9 => ?_)
      have hf9_m : w_9[m]? = some (mO 10 [.int th, .int ch, .int ea, .int fa, .int sv0, .ref (m + 1), .ref (m + 2), .ref (m + 3), .ref (m + 4), .ref (m + 5), .ref (m + 6), .ref (m + 7), .ref (m + 8), .ref (m + 9), .ref (m + 10), .int tn, .int he, .int en, .int ln, .int iw, .int id0]) := by rw [ew_9, List.getElem?_set_ne (by omega)]; exact hf6_m
      have hf9__m___1_ : w_9[(m + 1)]? = some (mI 0 67 (upd (enc (((upd f c ((f c) - 1)), (upd g c (-1)), sl, op, lo), hd, rs, np, tp, av, lg, pl, tk)) 7 (lo + 1))) := by rw [ew_9]; exact List.getElem?_set_self (lt_of_get hf6__m___1_)
      rw [show upd (enc (((upd f c ((f c) - 1)), (upd g c (-1)), sl, op, lo), hd, rs, np, tp, av, lg, pl, tk)) 7 (lo + 1) = enc (((upd f c ((f c) - 1)), (upd g c (-1)), sl, op, (lo + 1)), hd, rs, np, tp, av, lg, pl, tk) from enc_small (by decide) rfl rfl rfl rfl rfl] at ew_9 hf9__m___1_
      refine r_vret hC hE hR dX9_topples_68 (by omega) (by omega) (by rw [ew_9, List.length_set, ew_6, List.length_set, ew_2, List.length_set]) ?_
      have c9 : hLow f op c = 25 := (lit_eq rfl (by omega) (by decide)).mp c54
      have e9 : hTopple (f, g, sl, op, lo) c = ((upd f c ((f c) - 1)), (upd g c (-1)), sl, op, (lo + 1)) := by
        simp only [hTopple, hRem, hPlace, if_pos c9, if_pos c38]
      exact ⟨rfl, by rw [e9]; simp only [ew_9, ew_6, ew_2, List.set_set]⟩
set_option maxRecDepth 100000 in
set_option maxHeartbeats 4000000 in
theorem rs_loop {X : mC} {d m : Nat} (hC : Cx X RX9 cX9_rests (d + 5) 0 0) (hnl : mNL X = 3) : ∀ (n t : Nat) (w : mW) (th ch ea fa sv0 tn he en ln iw id0 : Int32) (f g : Nat → Int32) (sl op lo : Int32) (hd rs : Nat → Int32) (np : Nat) (tp av lg pl tk : Int32), w[m]? = some (mO 10 [.int th, .int ch, .int ea, .int fa, .int sv0, .ref (m + 1), .ref (m + 2), .ref (m + 3), .ref (m + 4), .ref (m + 5), .ref (m + 6), .ref (m + 7), .ref (m + 8), .ref (m + 9), .ref (m + 10), .int tn, .int he, .int en, .int ln, .int iw, .int id0]) → w[m + 1]? = some (mI 0 67 (enc ((f, g, sl, op, lo), hd, rs, np, tp, av, lg, pl, tk))) → f 25 = 0 → (op = 0 ∨ op = 1) → hNx (hRest n (f, g, sl, op, lo)).2 = none → (∀ w', w' = w.set (m + 1) (mI 0 67 (enc ((hRest n (f, g, sl, op, lo)).2, hd, rs, np, tp, av, lg, pl, tk))) → Wp X 0 0 w' [(2, .int (-1)), (0, .ref m), (1, .int (nI (t + (hRest n (f, g, sl, op, lo)).1)))] [] 27) → Wp X 0 0 w [(2, .int (oI (hNx (f, g, sl, op, lo)))), (0, .ref m), (1, .int (nI t))] [] 7 := by
  intro n
  induction n with
  | zero =>
    intro t w th ch ea fa sv0 tn he en ln iw id0 f g sl op lo hd rs np tp av lg pl tk hm hv h25 hop h9 kk
    have h9 : hNx (f, g, sl, op, lo) = none := h9
    have kk2 := kk w (set_same hv).symm
    rw [h9]
    show Wp X 0 0 w [(2, .int (-1)), (0, .ref m), (1, .int (nI t))] [] 7
    refine r_iload_n hC dX9_rests_7 rfl (j := 0) rfl ?_
    refine r_if_lt hC dX9_rests_8 (tgt := 27) (by decide) (fun _ => ?_) (fun h => absurd (by decide) h)
    exact kk2
  | succ n ih =>
    intro t w th ch ea fa sv0 tn he en ln iw id0 f g sl op lo hd rs np tp av lg pl tk hm hv h25 hop h9 kk
    cases hq : hNx (f, g, sl, op, lo) with
    | none =>
      rw [hRest_none hq] at kk
      have kk2 := kk w (set_same hv).symm
      show Wp X 0 0 w [(2, .int (-1)), (0, .ref m), (1, .int (nI t))] [] 7
      refine r_iload_n hC dX9_rests_7 rfl (j := 0) rfl ?_
      refine r_if_lt hC dX9_rests_8 (tgt := 27) (by decide) (fun _ => ?_) (fun h => absurd (by decide) h)
      exact kk2
    | some c =>
      rw [hRest_some hq] at kk h9
      have hc : c < 25 := hNext_lt hq
      have h25b := hTopple_25 (x := (f, g, sl, op, lo)) hc h25
      have hopb : (hTopple (f, g, sl, op, lo) c).2.2.2.1 = 0 ∨ (hTopple (f, g, sl, op, lo) c).2.2.2.1 = 1 := by rw [hTopple_op]; exact hop
      show Wp X 0 0 w [(2, .int (nI c)), (0, .ref m), (1, .int (nI t))] [] 7
      refine r_iload_n hC dX9_rests_7 rfl (j := 0) rfl ?_
      refine r_if_lt hC dX9_rests_8 (tgt := 27) (by decide) (fun h => absurd h (nI_pos (by omega))) (fun _ => ?_)
      refine r_aload_n hC dX9_rests_11 rfl (j := 1) rfl ?_
      refine r_iload_n hC dX9_rests_12 rfl (j := 0) rfl ?_
      refine r_callV hC (vs := [.int (nI c)]) vX9_rests_13 (sm_topples (d := d + 1) hm hv h25 hop hc) hm rfl rfl (by omega) (by omega) (by omega) (Nat.le_of_ble_eq_true rfl) (fun v_1 w_1 hP_1 hlen_1 => ?_) (fun _ _ h => h.elim)
      obtain ⟨hv_1, ew_1⟩ := hP_1
      rw [hv_1]
      have hf1_m : w_1[m]? = some (mO 10 [.int th, .int ch, .int ea, .int fa, .int sv0, .ref (m + 1), .ref (m + 2), .ref (m + 3), .ref (m + 4), .ref (m + 5), .ref (m + 6), .ref (m + 7), .ref (m + 8), .ref (m + 9), .ref (m + 10), .int tn, .int he, .int en, .int ln, .int iw, .int id0]) := by rw [ew_1, List.getElem?_set_ne (by omega)]; exact hm
      have hf1__m___1_ : w_1[(m + 1)]? = some (mI 0 67 (enc (((hTopple (f, g, sl, op, lo) c).1, (hTopple (f, g, sl, op, lo) c).2.1, (hTopple (f, g, sl, op, lo) c).2.2.1, (hTopple (f, g, sl, op, lo) c).2.2.2.1, (hTopple (f, g, sl, op, lo) c).2.2.2.2), hd, rs, np, tp, av, lg, pl, tk))) := by rw [ew_1]; exact List.getElem?_set_self (lt_of_get hv)
      show Wp X 0 0 w_1 [(2, .int (nI c)), (0, .ref m), (1, .int (nI t))] [] 16
      refine r_iinc hC dX9_rests_16 (j := 2) rfl (v := nI (t + 1)) (nI_succ t).symm (by rw [hnl]; decide) (L' := [(1, .int (nI (t + 1))), (2, .int (nI c)), (0, .ref m)]) rfl ?_
      refine r_aload_n hC dX9_rests_19 rfl (j := 2) rfl ?_
      refine r_callV hC (vs := []) vX9_rests_20 (sm_next (d := d) hf1_m hf1__m___1_ h25b hopb) hf1_m rfl rfl (by omega) (by omega) (by omega) (Nat.le_of_ble_eq_true rfl) (fun v_2 w_2 hP_2 hlen_2 => ?_) (fun _ _ h => h.elim)
      rw [hP_2.1, hP_2.2]
      show Wp X 0 0 w_1 [(1, .int (nI (t + 1))), (2, .int (nI c)), (0, .ref m)] [.int (oI (hNx (hTopple (f, g, sl, op, lo) c)))] 23
      refine r_istore_n hC dX9_rests_23 rfl (by rw [hnl]; decide) (L' := [(2, .int (oI (hNx (hTopple (f, g, sl, op, lo) c)))), (1, .int (nI (t + 1))), (0, .ref m)]) rfl ?_
      refine r_goto hC dX9_rests_24 (tgt := 7) (by decide) ?_
      refine r_locals [0, 2, 1] (L' := [(2, .int (oI (hNx (hTopple (f, g, sl, op, lo) c)))), (0, .ref m), (1, .int (nI (t + 1)))]) rfl ?_
      exact ih (t + 1) w_1 _ _ _ _ _ _ _ _ _ _ _ _ _ _ _ _ _ _ _ _ _ _ _ _ hf1_m hf1__m___1_ h25b hopb h9 (fun w2 e2 => by
        have := kk w2 (by rw [e2, ew_1, List.set_set]; rfl)
        rw [show t + ((hRest n (hTopple (f, g, sl, op, lo) c)).1 + 1) = t + 1 + (hRest n (hTopple (f, g, sl, op, lo) c)).1 by omega] at this
        exact this)
set_option maxRecDepth 100000 in
set_option maxHeartbeats 4000000 in
theorem sm_rests {d : Nat} {w : mW} {m : Nat} {th ch ea fa sv0 tn he en ln iw id0 : Int32} {f g : Nat → Int32} {sl op lo : Int32} {hd rs : Nat → Int32} {np : Nat} {tp av lg pl tk : Int32} (hm : w[m]? = some (mO 10 [.int th, .int ch, .int ea, .int fa, .int sv0, .ref (m + 1), .ref (m + 2), .ref (m + 3), .ref (m + 4), .ref (m + 5), .ref (m + 6), .ref (m + 7), .ref (m + 8), .ref (m + 9), .ref (m + 10), .int tn, .int he, .int en, .int ln, .int iw, .int id0])) (hv : w[m + 1]? = some (mI 0 67 (enc ((f, g, sl, op, lo), hd, rs, np, tp, av, lg, pl, tk)))) (h25 : f 25 = 0) (hop : op = 0 ∨ op = 1) (hlg : ¬ lg < 0) (hT : hNx (hRestF (f, g, sl, op, lo)).2 = none) : Sp (d + 5) yX9_rests cX9_rests 3 (some .int) [.ref m] w 0 0 (fun v w' => v = some (.int (nI (hRestF (f, g, sl, op, lo)).1)) ∧ w' = w.set (m + 1) (mI 0 67 (enc (sSettle ((f, g, sl, op, lo), hd, rs, np, tp, av, lg, pl, tk))))) noX := by
  refine Sp.of (by decide +kernel) (Nat.le_of_ble_eq_true rfl) (fun X hC hnl hE hR hN => ?_)
  have hC : Cx X RX9 cX9_rests (d + 5) 0 0 := hC
  show Wp X 0 0 w [(0, .ref m)] [] 0
  refine r_iconst hC dX9_rests_0 (v := 0) (by decide) ?_
  refine r_istore_n hC dX9_rests_1 rfl (by rw [hnl]; decide) (L' := [(1, .int 0), (0, .ref m)]) rfl ?_
  refine r_aload_n hC dX9_rests_2 rfl (j := 1) rfl ?_
  refine r_callV hC (vs := []) vX9_rests_3 (sm_next (d := d) hm hv h25 hop) hm rfl rfl (by omega) (by omega) (by omega) (Nat.le_of_ble_eq_true rfl) (fun v_1 w_1 hP_1 hlen_1 => ?_) (fun _ _ h => h.elim)
  rw [hP_1.1, hP_1.2]
  show Wp X 0 0 w [(1, .int 0), (0, .ref m)] [.int (oI (hNx (f, g, sl, op, lo)))] 6
  refine r_istore_n hC dX9_rests_6 rfl (by rw [hnl]; decide) (L' := [(2, .int (oI (hNx (f, g, sl, op, lo)))), (1, .int 0), (0, .ref m)]) rfl ?_
  refine r_locals [0, 2, 1] (L' := [(2, .int (oI (hNx (f, g, sl, op, lo)))), (0, .ref m), (1, .int 0)]) rfl ?_
  refine rs_loop hC hnl 50000 0 w _ _ _ _ _ _ _ _ _ _ _ _ _ _ _ _ _ _ _ _ _ _ _ _ hm hv h25 hop hT (fun w2 e2 => ?_)
  have hm2 : w2[m]? = some (mO 10 [.int th, .int ch, .int ea, .int fa, .int sv0, .ref (m + 1), .ref (m + 2), .ref (m + 3), .ref (m + 4), .ref (m + 5), .ref (m + 6), .ref (m + 7), .ref (m + 8), .ref (m + 9), .ref (m + 10), .int tn, .int he, .int en, .int ln, .int iw, .int id0]) := by rw [e2, List.getElem?_set_ne (by omega)]; exact hm
  have hv2 : w2[m + 1]? = some (mI 0 67 (enc (((hRestF (f, g, sl, op, lo)).2.1, (hRestF (f, g, sl, op, lo)).2.2.1, (hRestF (f, g, sl, op, lo)).2.2.2.1, (hRestF (f, g, sl, op, lo)).2.2.2.2.1, (hRestF (f, g, sl, op, lo)).2.2.2.2.2), hd, rs, np, tp, av, lg, pl, tk))) := by rw [e2]; exact List.getElem?_set_self (lt_of_get hv)
  have hl2 : w2.length = w.length := by rw [e2, List.length_set]
  have hnn : (hRestF (f, g, sl, op, lo)).1 ≤ 50000 := hRest_num 50000 _
  rw [Nat.zero_add]
  show Wp X 0 0 w2 [(2, .int (-1)), (0, .ref m), (1, .int (nI (hRestF (f, g, sl, op, lo)).1))] [] 27
  refine r_aload_n hC dX9_rests_27 rfl (j := 1) rfl ?_
  refine r_get hC gX9_rests_28 hm2 (v := .ref (m + 1)) rfl ?_
  refine r_iconst hC dX9_rests_31 (v := 3) (by decide) ?_
  refine r_dup2 hC dX9_rests_32 rfl rfl ?_
  refine r_iald hC dX9_rests_33 (j := 3) hv2 ⟨by decide, by decide, by decide⟩ ?_
  rw [show enc (((hRestF (f, g, sl, op, lo)).2.1, (hRestF (f, g, sl, op, lo)).2.2.1, (hRestF (f, g, sl, op, lo)).2.2.2.1, (hRestF (f, g, sl, op, lo)).2.2.2.2.1, (hRestF (f, g, sl, op, lo)).2.2.2.2.2), hd, rs, np, tp, av, lg, pl, tk) 3 = tp from rfl]
  refine r_iload_n hC dX9_rests_34 rfl (j := 2) rfl ?_
  refine r_iadd hC dX9_rests_35 ?_
  refine r_iast' hC dX9_rests_36 (j := 3) hv2 ⟨by decide, by decide, by decide⟩ (fun w_1 ew_1 => ?_)
  have hf1_m : w_1[m]? = some (mO 10 [.int th, .int ch, .int ea, .int fa, .int sv0, .ref (m + 1), .ref (m + 2), .ref (m + 3), .ref (m + 4), .ref (m + 5), .ref (m + 6), .ref (m + 7), .ref (m + 8), .ref (m + 9), .ref (m + 10), .int tn, .int he, .int en, .int ln, .int iw, .int id0]) := by rw [ew_1, List.getElem?_set_ne (by omega)]; exact hm2
  have hf1__m___1_ : w_1[(m + 1)]? = some (mI 0 67 (upd (enc (((hRestF (f, g, sl, op, lo)).2.1, (hRestF (f, g, sl, op, lo)).2.2.1, (hRestF (f, g, sl, op, lo)).2.2.2.1, (hRestF (f, g, sl, op, lo)).2.2.2.2.1, (hRestF (f, g, sl, op, lo)).2.2.2.2.2), hd, rs, np, tp, av, lg, pl, tk)) 3 (tp + (nI (hRestF (f, g, sl, op, lo)).1)))) := by rw [ew_1]; exact List.getElem?_set_self (lt_of_get hv2)
  rw [show upd (enc (((hRestF (f, g, sl, op, lo)).2.1, (hRestF (f, g, sl, op, lo)).2.2.1, (hRestF (f, g, sl, op, lo)).2.2.2.1, (hRestF (f, g, sl, op, lo)).2.2.2.2.1, (hRestF (f, g, sl, op, lo)).2.2.2.2.2), hd, rs, np, tp, av, lg, pl, tk)) 3 (tp + (nI (hRestF (f, g, sl, op, lo)).1)) = enc (((hRestF (f, g, sl, op, lo)).2.1, (hRestF (f, g, sl, op, lo)).2.2.1, (hRestF (f, g, sl, op, lo)).2.2.2.1, (hRestF (f, g, sl, op, lo)).2.2.2.2.1, (hRestF (f, g, sl, op, lo)).2.2.2.2.2), hd, rs, np, (tp + (nI (hRestF (f, g, sl, op, lo)).1)), av, lg, pl, tk) from enc_small (by decide) rfl rfl rfl rfl rfl] at ew_1 hf1__m___1_
  refine r_aload_n hC dX9_rests_37 rfl (j := 1) rfl ?_
  refine r_get hC gX9_rests_38 hf1_m (v := .ref (m + 1)) rfl ?_
  refine r_iconst hC dX9_rests_41 (v := 4) (by decide) ?_
  refine r_dup2 hC dX9_rests_42 rfl rfl ?_
  refine r_iald hC dX9_rests_43 (j := 4) hf1__m___1_ ⟨by decide, by decide, by decide⟩ ?_
  rw [show enc (((hRestF (f, g, sl, op, lo)).2.1, (hRestF (f, g, sl, op, lo)).2.2.1, (hRestF (f, g, sl, op, lo)).2.2.2.1, (hRestF (f, g, sl, op, lo)).2.2.2.2.1, (hRestF (f, g, sl, op, lo)).2.2.2.2.2), hd, rs, np, (tp + (nI (hRestF (f, g, sl, op, lo)).1)), av, lg, pl, tk) 4 = av from rfl]
  refine r_iload_n hC dX9_rests_44 rfl (j := 2) rfl ?_
  refine r_if_le hC dX9_rests_45 (tgt := 52) (by decide) (fun c45 => ?_) (fun c45 => ?_)
  · refine r_iconst hC dX9_rests_52 (v := 0) (by decide) ?_
    refine r_iadd hC dX9_rests_53 ?_
    refine r_iast' hC dX9_rests_54 (j := 4) hf1__m___1_ ⟨by decide, by decide, by decide⟩ (fun w_2 ew_2 => ?_)
    have hf2_m : w_2[m]? = some (mO 10 [.int th, .int ch, .int ea, .int fa, .int sv0, .ref (m + 1), .ref (m + 2), .ref (m + 3), .ref (m + 4), .ref (m + 5), .ref (m + 6), .ref (m + 7), .ref (m + 8), .ref (m + 9), .ref (m + 10), .int tn, .int he, .int en, .int ln, .int iw, .int id0]) := by rw [ew_2, List.getElem?_set_ne (by omega)]; exact hf1_m
    have hf2__m___1_ : w_2[(m + 1)]? = some (mI 0 67 (upd (enc (((hRestF (f, g, sl, op, lo)).2.1, (hRestF (f, g, sl, op, lo)).2.2.1, (hRestF (f, g, sl, op, lo)).2.2.2.1, (hRestF (f, g, sl, op, lo)).2.2.2.2.1, (hRestF (f, g, sl, op, lo)).2.2.2.2.2), hd, rs, np, (tp + (nI (hRestF (f, g, sl, op, lo)).1)), av, lg, pl, tk)) 4 (av + 0))) := by rw [ew_2]; exact List.getElem?_set_self (lt_of_get hf1__m___1_)
    rw [show upd (enc (((hRestF (f, g, sl, op, lo)).2.1, (hRestF (f, g, sl, op, lo)).2.2.1, (hRestF (f, g, sl, op, lo)).2.2.2.1, (hRestF (f, g, sl, op, lo)).2.2.2.2.1, (hRestF (f, g, sl, op, lo)).2.2.2.2.2), hd, rs, np, (tp + (nI (hRestF (f, g, sl, op, lo)).1)), av, lg, pl, tk)) 4 (av + 0) = enc (((hRestF (f, g, sl, op, lo)).2.1, (hRestF (f, g, sl, op, lo)).2.2.1, (hRestF (f, g, sl, op, lo)).2.2.2.1, (hRestF (f, g, sl, op, lo)).2.2.2.2.1, (hRestF (f, g, sl, op, lo)).2.2.2.2.2), hd, rs, np, (tp + (nI (hRestF (f, g, sl, op, lo)).1)), (av + 0), lg, pl, tk) from enc_small (by decide) rfl rfl rfl rfl rfl] at ew_2 hf2__m___1_
    refine r_aload_n hC dX9_rests_55 rfl (j := 1) rfl ?_
    refine r_get hC gX9_rests_56 hf2_m (v := .ref (m + 1)) rfl ?_
    refine r_iconst hC dX9_rests_59 (v := 5) (by decide) ?_
    refine r_iload_n hC dX9_rests_60 rfl (j := 2) rfl ?_
    refine r_aload_n hC dX9_rests_61 rfl (j := 1) rfl ?_
    refine r_get hC gX9_rests_62 hf2_m (v := .ref (m + 1)) rfl ?_
    refine r_iconst hC dX9_rests_65 (v := 5) (by decide) ?_
    refine r_iald hC dX9_rests_66 (j := 5) hf2__m___1_ ⟨by decide, by decide, by decide⟩ ?_
    rw [show enc (((hRestF (f, g, sl, op, lo)).2.1, (hRestF (f, g, sl, op, lo)).2.2.1, (hRestF (f, g, sl, op, lo)).2.2.2.1, (hRestF (f, g, sl, op, lo)).2.2.2.2.1, (hRestF (f, g, sl, op, lo)).2.2.2.2.2), hd, rs, np, (tp + (nI (hRestF (f, g, sl, op, lo)).1)), (av + 0), lg, pl, tk) 5 = lg from rfl]
    refine r_icmp_le hC dX9_rests_67 (tgt := 74) (by decide) (fun c67 => ?_) (fun c67 => ?_)
    · refine r_aload_n hC dX9_rests_74 rfl (j := 1) rfl ?_
      refine r_get hC gX9_rests_75 hf2_m (v := .ref (m + 1)) rfl ?_
      refine r_iconst hC dX9_rests_78 (v := 5) (by decide) ?_
      refine r_iald hC dX9_rests_79 (j := 5) hf2__m___1_ ⟨by decide, by decide, by decide⟩ ?_
      rw [show enc (((hRestF (f, g, sl, op, lo)).2.1, (hRestF (f, g, sl, op, lo)).2.2.1, (hRestF (f, g, sl, op, lo)).2.2.2.1, (hRestF (f, g, sl, op, lo)).2.2.2.2.1, (hRestF (f, g, sl, op, lo)).2.2.2.2.2), hd, rs, np, (tp + (nI (hRestF (f, g, sl, op, lo)).1)), (av + 0), lg, pl, tk) 5 = lg from rfl]
      refine r_iast' hC dX9_rests_80 (j := 5) hf2__m___1_ ⟨by decide, by decide, by decide⟩ (fun w_3 ew_3 => ?_)
      have hf3_m : w_3[m]? = some (mO 10 [.int th, .int ch, .int ea, .int fa, .int sv0, .ref (m + 1), .ref (m + 2), .ref (m + 3), .ref (m + 4), .ref (m + 5), .ref (m + 6), .ref (m + 7), .ref (m + 8), .ref (m + 9), .ref (m + 10), .int tn, .int he, .int en, .int ln, .int iw, .int id0]) := by rw [ew_3, List.getElem?_set_ne (by omega)]; exact hf2_m
      have hf3__m___1_ : w_3[(m + 1)]? = some (mI 0 67 (upd (enc (((hRestF (f, g, sl, op, lo)).2.1, (hRestF (f, g, sl, op, lo)).2.2.1, (hRestF (f, g, sl, op, lo)).2.2.2.1, (hRestF (f, g, sl, op, lo)).2.2.2.2.1, (hRestF (f, g, sl, op, lo)).2.2.2.2.2), hd, rs, np, (tp + (nI (hRestF (f, g, sl, op, lo)).1)), (av + 0), lg, pl, tk)) 5 lg)) := by rw [ew_3]; exact List.getElem?_set_self (lt_of_get hf2__m___1_)
      rw [show upd (enc (((hRestF (f, g, sl, op, lo)).2.1, (hRestF (f, g, sl, op, lo)).2.2.1, (hRestF (f, g, sl, op, lo)).2.2.2.1, (hRestF (f, g, sl, op, lo)).2.2.2.2.1, (hRestF (f, g, sl, op, lo)).2.2.2.2.2), hd, rs, np, (tp + (nI (hRestF (f, g, sl, op, lo)).1)), (av + 0), lg, pl, tk)) 5 lg = enc (((hRestF (f, g, sl, op, lo)).2.1, (hRestF (f, g, sl, op, lo)).2.2.1, (hRestF (f, g, sl, op, lo)).2.2.2.1, (hRestF (f, g, sl, op, lo)).2.2.2.2.1, (hRestF (f, g, sl, op, lo)).2.2.2.2.2), hd, rs, np, (tp + (nI (hRestF (f, g, sl, op, lo)).1)), (av + 0), lg, pl, tk) from enc_small (by decide) rfl rfl rfl rfl rfl] at ew_3 hf3__m___1_
      refine r_iload_n hC dX9_rests_81 rfl (j := 2) rfl ?_
      refine r_iret hC hE hR dX9_rests_82 (by omega) (by omega) (by simp only [ew_3, ew_2, ew_1, e2, List.length_set]) ?_
      have n0 : (hRestF (f, g, sl, op, lo)).1 = 0 := by
        have := (nI_leI (b := 0) (by omega) (by decide)).mp c45
        omega
      have n1 : nI (hRestF (f, g, sl, op, lo)).1 = 0 := by rw [n0]; rfl
      have e9 : enc ((sSettle ((f, g, sl, op, lo), hd, rs, np, tp, av, lg, pl, tk))) = enc (((hRestF (f, g, sl, op, lo)).2.1, (hRestF (f, g, sl, op, lo)).2.2.1, (hRestF (f, g, sl, op, lo)).2.2.2.1, (hRestF (f, g, sl, op, lo)).2.2.2.2.1, (hRestF (f, g, sl, op, lo)).2.2.2.2.2), hd, rs, np, (tp + (nI (hRestF (f, g, sl, op, lo)).1)), (av + 0), lg, pl, tk) := by
        show enc (_, _, _, _, avZ _ _) = _
        rw [show avZ (tp, av, lg, pl, tk) (nI (hRestF (f, g, sl, op, lo)).1) = (tp, av, lg, pl, tk) from if_pos c45, n1, Int32.add_zero, Int32.add_zero]
      refine ⟨rfl, ?_⟩
      rw [e9]
      simp only [ew_3, ew_2, ew_1, e2, List.set_set]
    · refine r_iload_n hC dX9_rests_70 rfl (j := 2) rfl ?_
      refine r_goto hC dX9_rests_71 (tgt := 80) (by decide) ?_
      refine r_iast' hC dX9_rests_80 (j := 5) hf2__m___1_ ⟨by decide, by decide, by decide⟩ (fun w_4 ew_4 => ?_)
      have hf4_m : w_4[m]? = some (mO 10 [.int th, .int ch, .int ea, .int fa, .int sv0, .ref (m + 1), .ref (m + 2), .ref (m + 3), .ref (m + 4), .ref (m + 5), .ref (m + 6), .ref (m + 7), .ref (m + 8), .ref (m + 9), .ref (m + 10), .int tn, .int he, .int en, .int ln, .int iw, .int id0]) := by rw [ew_4, List.getElem?_set_ne (by omega)]; exact hf2_m
      have hf4__m___1_ : w_4[(m + 1)]? = some (mI 0 67 (upd (enc (((hRestF (f, g, sl, op, lo)).2.1, (hRestF (f, g, sl, op, lo)).2.2.1, (hRestF (f, g, sl, op, lo)).2.2.2.1, (hRestF (f, g, sl, op, lo)).2.2.2.2.1, (hRestF (f, g, sl, op, lo)).2.2.2.2.2), hd, rs, np, (tp + (nI (hRestF (f, g, sl, op, lo)).1)), (av + 0), lg, pl, tk)) 5 (nI (hRestF (f, g, sl, op, lo)).1))) := by rw [ew_4]; exact List.getElem?_set_self (lt_of_get hf2__m___1_)
      rw [show upd (enc (((hRestF (f, g, sl, op, lo)).2.1, (hRestF (f, g, sl, op, lo)).2.2.1, (hRestF (f, g, sl, op, lo)).2.2.2.1, (hRestF (f, g, sl, op, lo)).2.2.2.2.1, (hRestF (f, g, sl, op, lo)).2.2.2.2.2), hd, rs, np, (tp + (nI (hRestF (f, g, sl, op, lo)).1)), (av + 0), lg, pl, tk)) 5 (nI (hRestF (f, g, sl, op, lo)).1) = enc (((hRestF (f, g, sl, op, lo)).2.1, (hRestF (f, g, sl, op, lo)).2.2.1, (hRestF (f, g, sl, op, lo)).2.2.2.1, (hRestF (f, g, sl, op, lo)).2.2.2.2.1, (hRestF (f, g, sl, op, lo)).2.2.2.2.2), hd, rs, np, (tp + (nI (hRestF (f, g, sl, op, lo)).1)), (av + 0), (nI (hRestF (f, g, sl, op, lo)).1), pl, tk) from enc_small (by decide) rfl rfl rfl rfl rfl] at ew_4 hf4__m___1_
      refine r_iload_n hC dX9_rests_81 rfl (j := 2) rfl ?_
      refine r_iret hC hE hR dX9_rests_82 (by omega) (by omega) (by simp only [ew_4, ew_2, ew_1, e2, List.length_set]) ?_
      have n0 : (hRestF (f, g, sl, op, lo)).1 = 0 := by
        have := (nI_leI (b := 0) (by omega) (by decide)).mp c45
        omega
      have n1 : nI (hRestF (f, g, sl, op, lo)).1 = 0 := by rw [n0]; rfl
      exact absurd (by rw [n1]; exact Int32.not_lt.mp hlg) c67
  · refine r_iconst hC dX9_rests_48 (v := 1) (by decide) ?_
    refine r_goto hC dX9_rests_49 (tgt := 53) (by decide) ?_
    refine r_iadd hC dX9_rests_53 ?_
    refine r_iast' hC dX9_rests_54 (j := 4) hf1__m___1_ ⟨by decide, by decide, by decide⟩ (fun w_5 ew_5 => ?_)
    have hf5_m : w_5[m]? = some (mO 10 [.int th, .int ch, .int ea, .int fa, .int sv0, .ref (m + 1), .ref (m + 2), .ref (m + 3), .ref (m + 4), .ref (m + 5), .ref (m + 6), .ref (m + 7), .ref (m + 8), .ref (m + 9), .ref (m + 10), .int tn, .int he, .int en, .int ln, .int iw, .int id0]) := by rw [ew_5, List.getElem?_set_ne (by omega)]; exact hf1_m
    have hf5__m___1_ : w_5[(m + 1)]? = some (mI 0 67 (upd (enc (((hRestF (f, g, sl, op, lo)).2.1, (hRestF (f, g, sl, op, lo)).2.2.1, (hRestF (f, g, sl, op, lo)).2.2.2.1, (hRestF (f, g, sl, op, lo)).2.2.2.2.1, (hRestF (f, g, sl, op, lo)).2.2.2.2.2), hd, rs, np, (tp + (nI (hRestF (f, g, sl, op, lo)).1)), av, lg, pl, tk)) 4 (av + 1))) := by rw [ew_5]; exact List.getElem?_set_self (lt_of_get hf1__m___1_)
    rw [show upd (enc (((hRestF (f, g, sl, op, lo)).2.1, (hRestF (f, g, sl, op, lo)).2.2.1, (hRestF (f, g, sl, op, lo)).2.2.2.1, (hRestF (f, g, sl, op, lo)).2.2.2.2.1, (hRestF (f, g, sl, op, lo)).2.2.2.2.2), hd, rs, np, (tp + (nI (hRestF (f, g, sl, op, lo)).1)), av, lg, pl, tk)) 4 (av + 1) = enc (((hRestF (f, g, sl, op, lo)).2.1, (hRestF (f, g, sl, op, lo)).2.2.1, (hRestF (f, g, sl, op, lo)).2.2.2.1, (hRestF (f, g, sl, op, lo)).2.2.2.2.1, (hRestF (f, g, sl, op, lo)).2.2.2.2.2), hd, rs, np, (tp + (nI (hRestF (f, g, sl, op, lo)).1)), (av + 1), lg, pl, tk) from enc_small (by decide) rfl rfl rfl rfl rfl] at ew_5 hf5__m___1_
    refine r_aload_n hC dX9_rests_55 rfl (j := 1) rfl ?_
    refine r_get hC gX9_rests_56 hf5_m (v := .ref (m + 1)) rfl ?_
    refine r_iconst hC dX9_rests_59 (v := 5) (by decide) ?_
    refine r_iload_n hC dX9_rests_60 rfl (j := 2) rfl ?_
    refine r_aload_n hC dX9_rests_61 rfl (j := 1) rfl ?_
    refine r_get hC gX9_rests_62 hf5_m (v := .ref (m + 1)) rfl ?_
    refine r_iconst hC dX9_rests_65 (v := 5) (by decide) ?_
    refine r_iald hC dX9_rests_66 (j := 5) hf5__m___1_ ⟨by decide, by decide, by decide⟩ ?_
    rw [show enc (((hRestF (f, g, sl, op, lo)).2.1, (hRestF (f, g, sl, op, lo)).2.2.1, (hRestF (f, g, sl, op, lo)).2.2.2.1, (hRestF (f, g, sl, op, lo)).2.2.2.2.1, (hRestF (f, g, sl, op, lo)).2.2.2.2.2), hd, rs, np, (tp + (nI (hRestF (f, g, sl, op, lo)).1)), (av + 1), lg, pl, tk) 5 = lg from rfl]
    refine r_icmp_le hC dX9_rests_67 (tgt := 74) (by decide) (fun c67 => ?_) (fun c67 => ?_)
    · refine r_aload_n hC dX9_rests_74 rfl (j := 1) rfl ?_
      refine r_get hC gX9_rests_75 hf5_m (v := .ref (m + 1)) rfl ?_
      refine r_iconst hC dX9_rests_78 (v := 5) (by decide) ?_
      refine r_iald hC dX9_rests_79 (j := 5) hf5__m___1_ ⟨by decide, by decide, by decide⟩ ?_
      rw [show enc (((hRestF (f, g, sl, op, lo)).2.1, (hRestF (f, g, sl, op, lo)).2.2.1, (hRestF (f, g, sl, op, lo)).2.2.2.1, (hRestF (f, g, sl, op, lo)).2.2.2.2.1, (hRestF (f, g, sl, op, lo)).2.2.2.2.2), hd, rs, np, (tp + (nI (hRestF (f, g, sl, op, lo)).1)), (av + 1), lg, pl, tk) 5 = lg from rfl]
      refine r_iast' hC dX9_rests_80 (j := 5) hf5__m___1_ ⟨by decide, by decide, by decide⟩ (fun w_6 ew_6 => ?_)
      have hf6_m : w_6[m]? = some (mO 10 [.int th, .int ch, .int ea, .int fa, .int sv0, .ref (m + 1), .ref (m + 2), .ref (m + 3), .ref (m + 4), .ref (m + 5), .ref (m + 6), .ref (m + 7), .ref (m + 8), .ref (m + 9), .ref (m + 10), .int tn, .int he, .int en, .int ln, .int iw, .int id0]) := by rw [ew_6, List.getElem?_set_ne (by omega)]; exact hf5_m
      have hf6__m___1_ : w_6[(m + 1)]? = some (mI 0 67 (upd (enc (((hRestF (f, g, sl, op, lo)).2.1, (hRestF (f, g, sl, op, lo)).2.2.1, (hRestF (f, g, sl, op, lo)).2.2.2.1, (hRestF (f, g, sl, op, lo)).2.2.2.2.1, (hRestF (f, g, sl, op, lo)).2.2.2.2.2), hd, rs, np, (tp + (nI (hRestF (f, g, sl, op, lo)).1)), (av + 1), lg, pl, tk)) 5 lg)) := by rw [ew_6]; exact List.getElem?_set_self (lt_of_get hf5__m___1_)
      rw [show upd (enc (((hRestF (f, g, sl, op, lo)).2.1, (hRestF (f, g, sl, op, lo)).2.2.1, (hRestF (f, g, sl, op, lo)).2.2.2.1, (hRestF (f, g, sl, op, lo)).2.2.2.2.1, (hRestF (f, g, sl, op, lo)).2.2.2.2.2), hd, rs, np, (tp + (nI (hRestF (f, g, sl, op, lo)).1)), (av + 1), lg, pl, tk)) 5 lg = enc (((hRestF (f, g, sl, op, lo)).2.1, (hRestF (f, g, sl, op, lo)).2.2.1, (hRestF (f, g, sl, op, lo)).2.2.2.1, (hRestF (f, g, sl, op, lo)).2.2.2.2.1, (hRestF (f, g, sl, op, lo)).2.2.2.2.2), hd, rs, np, (tp + (nI (hRestF (f, g, sl, op, lo)).1)), (av + 1), lg, pl, tk) from enc_small (by decide) rfl rfl rfl rfl rfl] at ew_6 hf6__m___1_
      refine r_iload_n hC dX9_rests_81 rfl (j := 2) rfl ?_
      refine r_iret hC hE hR dX9_rests_82 (by omega) (by omega) (by simp only [ew_6, ew_5, ew_1, e2, List.length_set]) ?_
      have e9 : enc ((sSettle ((f, g, sl, op, lo), hd, rs, np, tp, av, lg, pl, tk))) = enc (((hRestF (f, g, sl, op, lo)).2.1, (hRestF (f, g, sl, op, lo)).2.2.1, (hRestF (f, g, sl, op, lo)).2.2.2.1, (hRestF (f, g, sl, op, lo)).2.2.2.2.1, (hRestF (f, g, sl, op, lo)).2.2.2.2.2), hd, rs, np, (tp + (nI (hRestF (f, g, sl, op, lo)).1)), (av + 1), lg, pl, tk) := by
        show enc (_, _, _, _, avZ _ _) = _
        rw [show avZ (tp, av, lg, pl, tk) (nI (hRestF (f, g, sl, op, lo)).1) = (tp + nI (hRestF (f, g, sl, op, lo)).1, av + 1, (if lg < nI (hRestF (f, g, sl, op, lo)).1 then nI (hRestF (f, g, sl, op, lo)).1 else lg), pl, tk) from if_neg c45, if_neg (Int32.not_lt.mpr c67)]
      refine ⟨rfl, ?_⟩
      rw [e9]
      simp only [ew_6, ew_5, ew_1, e2, List.set_set]
    · refine r_iload_n hC dX9_rests_70 rfl (j := 2) rfl ?_
      refine r_goto hC dX9_rests_71 (tgt := 80) (by decide) ?_
      refine r_iast' hC dX9_rests_80 (j := 5) hf5__m___1_ ⟨by decide, by decide, by decide⟩ (fun w_7 ew_7 => ?_)
      have hf7_m : w_7[m]? = some (mO 10 [.int th, .int ch, .int ea, .int fa, .int sv0, .ref (m + 1), .ref (m + 2), .ref (m + 3), .ref (m + 4), .ref (m + 5), .ref (m + 6), .ref (m + 7), .ref (m + 8), .ref (m + 9), .ref (m + 10), .int tn, .int he, .int en, .int ln, .int iw, .int id0]) := by rw [ew_7, List.getElem?_set_ne (by omega)]; exact hf5_m
      have hf7__m___1_ : w_7[(m + 1)]? = some (mI 0 67 (upd (enc (((hRestF (f, g, sl, op, lo)).2.1, (hRestF (f, g, sl, op, lo)).2.2.1, (hRestF (f, g, sl, op, lo)).2.2.2.1, (hRestF (f, g, sl, op, lo)).2.2.2.2.1, (hRestF (f, g, sl, op, lo)).2.2.2.2.2), hd, rs, np, (tp + (nI (hRestF (f, g, sl, op, lo)).1)), (av + 1), lg, pl, tk)) 5 (nI (hRestF (f, g, sl, op, lo)).1))) := by rw [ew_7]; exact List.getElem?_set_self (lt_of_get hf5__m___1_)
      rw [show upd (enc (((hRestF (f, g, sl, op, lo)).2.1, (hRestF (f, g, sl, op, lo)).2.2.1, (hRestF (f, g, sl, op, lo)).2.2.2.1, (hRestF (f, g, sl, op, lo)).2.2.2.2.1, (hRestF (f, g, sl, op, lo)).2.2.2.2.2), hd, rs, np, (tp + (nI (hRestF (f, g, sl, op, lo)).1)), (av + 1), lg, pl, tk)) 5 (nI (hRestF (f, g, sl, op, lo)).1) = enc (((hRestF (f, g, sl, op, lo)).2.1, (hRestF (f, g, sl, op, lo)).2.2.1, (hRestF (f, g, sl, op, lo)).2.2.2.1, (hRestF (f, g, sl, op, lo)).2.2.2.2.1, (hRestF (f, g, sl, op, lo)).2.2.2.2.2), hd, rs, np, (tp + (nI (hRestF (f, g, sl, op, lo)).1)), (av + 1), (nI (hRestF (f, g, sl, op, lo)).1), pl, tk) from enc_small (by decide) rfl rfl rfl rfl rfl] at ew_7 hf7__m___1_
      refine r_iload_n hC dX9_rests_81 rfl (j := 2) rfl ?_
      refine r_iret hC hE hR dX9_rests_82 (by omega) (by omega) (by simp only [ew_7, ew_5, ew_1, e2, List.length_set]) ?_
      have e9 : enc ((sSettle ((f, g, sl, op, lo), hd, rs, np, tp, av, lg, pl, tk))) = enc (((hRestF (f, g, sl, op, lo)).2.1, (hRestF (f, g, sl, op, lo)).2.2.1, (hRestF (f, g, sl, op, lo)).2.2.2.1, (hRestF (f, g, sl, op, lo)).2.2.2.2.1, (hRestF (f, g, sl, op, lo)).2.2.2.2.2), hd, rs, np, (tp + (nI (hRestF (f, g, sl, op, lo)).1)), (av + 1), (nI (hRestF (f, g, sl, op, lo)).1), pl, tk) := by
        show enc (_, _, _, _, avZ _ _) = _
        rw [show avZ (tp, av, lg, pl, tk) (nI (hRestF (f, g, sl, op, lo)).1) = (tp + nI (hRestF (f, g, sl, op, lo)).1, av + 1, (if lg < nI (hRestF (f, g, sl, op, lo)).1 then nI (hRestF (f, g, sl, op, lo)).1 else lg), pl, tk) from if_neg c45, if_pos (Int32.not_le.mp c67)]
      refine ⟨rfl, ?_⟩
      rw [e9]
      simp only [ew_7, ew_5, ew_1, e2, List.set_set]
end MD3
