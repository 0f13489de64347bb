section TX7
theorem Fr.ou {m : Nat} {w w1 w2 : mW} (h1 : Fr m w w1) (h2 : Ou m w1 w2) : Fr m w w2 := ⟨h2.1.trans h1.1, fun k hk => (h2.2 k (by omega)).trans (h1.2 k hk)⟩
theorem pAll_n {t : Nat → Int32} {e k2 : Nat} (h : pCmd t e 0 = (none, k2)) : pAll t e = (none, k2) := by
  unfold pAll
  rw [h]
theorem pAll_s {t : Nat → Int32} {e k2 k3 : Nat} {c : cmdT} {l : List cmdT} (h : pCmd t e 0 = (some c, k2)) (hr : pRest t e 61 k2 = (some l, k3)) : pAll t e = (some (c :: l), k3) := by
  unfold pAll
  rw [h]
  simp only [hr]
theorem pAll_b {t : Nat → Int32} {e k2 k3 : Nat} {c : cmdT} (h : pCmd t e 0 = (some c, k2)) (hr : pRest t e 61 k2 = (none, k3)) : pAll t e = (none, k3) := by
  unfold pAll
  rw [h]
  simp only [hr]
set_option maxRecDepth 100000 in
set_option maxHeartbeats 4000000 in
theorem cm_ret {X : mC} {d : Nat} {n0 m : Nat} {x : Int32} {w : mW} {P : Option Value → mW → Prop} (hC : Cx X RX9 cX9_commands (d + 10) 0 0) (hnl : mNL X = 2) (hE : mEnd X n0 0 0 P noX) (hR : mRet X (some .int)) (hlen : w.length = n0) (kk : P (some (.int x)) w) : Wp X 0 0 w [(1, .int x), (0, .ref m)] [] 64 := by
  refine r_iload_n hC dX9_commands_64 rfl (j := 0) rfl ?_
  refine r_iret hC hE hR dX9_commands_65 (by omega) (by omega) (hlen) ?_
  exact kk
set_option maxRecDepth 100000 in
set_option maxHeartbeats 4000000 in
theorem sm_commands0 {d : Nat} {w : mW} {m : Nat} {ch ea fa sv0 tn ln he9 iw9 : Int32} {tx lt : Nat → Int32} {e : Nat} {F : Nat → Int32}  (hm : w[m]? = some (mO 10 [.int 0, .int ch, .int ea, .int fa, .int sv0, .ref (m + 1), .ref (m + 2), .ref (m + 3), .ref (m + 4), .ref (m + 5), .ref (m + 6), .ref (m + 7), .ref (m + 8), .ref (m + 9), .ref (m + 10), .int tn, .int he9, .int (nI e), .int ln, .int iw9, .int 0])) (hv : w[m + 1]? = some (mI 0 67 (F))) (htx : w[m + 6]? = some (mI 0 60 tx)) (hlt : w[m + 8]? = some (mI 0 8 lt)) (hwd : w[m + 9]? = some (mI 0 41 wdF)) (hwa : w[m + 10]? = some (mI 0 9 waF)) (he : e ≤ 60) : Sp (d + 10) yX9_commands cX9_commands 2 (some .int) [.ref m] w 0 0 (fun v w' => (∃ l k lt' x, pAll tx e = (some l, k) ∧ v = some (.int x) ∧ Ou m w w' ∧ w'[m]? = some (mO 10 [.int 0, .int ch, .int ea, .int fa, .int sv0, .ref (m + 1), .ref (m + 2), .ref (m + 3), .ref (m + 4), .ref (m + 5), .ref (m + 6), .ref (m + 7), .ref (m + 8), .ref (m + 9), .ref (m + 10), .int tn, .int (nI k), .int (nI e), .int ln, .int 0, .int 0]) ∧ w'[m + 8]? = some (mI 0 8 lt') ∧ w'[m + 1]? = some (mI 0 67 (F))) ∨ (∃ k lt' x, pAll tx e = (none, k) ∧ v = some (.int x) ∧ Ou m w w' ∧ w'[m]? = some (mO 10 [.int 0, .int ch, .int ea, .int fa, .int sv0, .ref (m + 1), .ref (m + 2), .ref (m + 3), .ref (m + 4), .ref (m + 5), .ref (m + 6), .ref (m + 7), .ref (m + 8), .ref (m + 9), .ref (m + 10), .int tn, .int (nI k), .int (nI e), .int ln, .int 1, .int 0]) ∧ w'[m + 8]? = some (mI 0 8 lt') ∧ w'[m + 1]? = some (mI 0 67 (F)))) noX := by
  refine Sp.of (by decide +kernel) (Nat.le_of_ble_eq_true rfl) (fun X hC hnl hE hR hN => ?_)
  have hC : Cx X RX9 cX9_commands (d + 10) 0 0 := hC
  show Wp X 0 0 w [(0, .ref m)] [] 0
  have hF0 : Ou m w w := Ou.rfl
  refine r_aload_n hC dX9_commands_0 rfl (j := 0) rfl ?_
  refine r_iconst hC dX9_commands_1 (v := 0) (by decide) ?_
  refine r_put' hC pX9_commands_2 hm (Nat.le_of_ble_eq_true rfl) (fun _ => rfl) (fun _ => rfl) (fun w_1 ew_1 => ?_)
  replace ew_1 : w_1 = (w).set (m) (mO 10 [.int 0, .int ch, .int ea, .int fa, .int sv0, .ref (m + 1), .ref (m + 2), .ref (m + 3), .ref (m + 4), .ref (m + 5), .ref (m + 6), .ref (m + 7), .ref (m + 8), .ref (m + 9), .ref (m + 10), .int tn, .int 0, .int (nI e), .int ln, .int iw9, .int 0]) := ew_1
  have hf1_m : w_1[m]? = some (mO 10 [.int 0, .int ch, .int ea, .int fa, .int sv0, .ref (m + 1), .ref (m + 2), .ref (m + 3), .ref (m + 4), .ref (m + 5), .ref (m + 6), .ref (m + 7), .ref (m + 8), .ref (m + 9), .ref (m + 10), .int tn, .int 0, .int (nI e), .int ln, .int iw9, .int 0]) := by rw [ew_1]; exact List.getElem?_set_self (lt_of_get hm)
  have hf1__m___6_ : w_1[(m + 6)]? = some (mI 0 60 tx) := by rw [ew_1, List.getElem?_set_ne (by omega)]; exact htx
  have hf1__m___8_ : w_1[(m + 8)]? = some (mI 0 8 lt) := by rw [ew_1, List.getElem?_set_ne (by omega)]; exact hlt
  have hf1__m___9_ : w_1[(m + 9)]? = some (mI 0 41 wdF) := by rw [ew_1, List.getElem?_set_ne (by omega)]; exact hwd
  have hf1__m___10_ : w_1[(m + 10)]? = some (mI 0 9 waF) := by rw [ew_1, List.getElem?_set_ne (by omega)]; exact hwa
  have hf1__m___1_ : w_1[(m + 1)]? = some (mI 0 67 F) := by rw [ew_1, List.getElem?_set_ne (by omega)]; exact hv
  have hF_1 : Ou m w w_1 := by rw [ew_1]; exact (Ou.set hF0 (by omega))
  refine r_aload_n hC dX9_commands_5 rfl (j := 0) rfl ?_
  refine r_iconst hC dX9_commands_6 (v := 0) (by decide) ?_
  refine r_put' hC pX9_commands_7 hf1_m (Nat.le_of_ble_eq_true rfl) (fun _ => rfl) (fun _ => rfl) (fun w_2 ew_2 => ?_)
  replace ew_2 : w_2 = (w_1).set (m) (mO 10 [.int 0, .int ch, .int ea, .int fa, .int sv0, .ref (m + 1), .ref (m + 2), .ref (m + 3), .ref (m + 4), .ref (m + 5), .ref (m + 6), .ref (m + 7), .ref (m + 8), .ref (m + 9), .ref (m + 10), .int tn, .int 0, .int (nI e), .int ln, .int 0, .int 0]) := ew_2
  have hf2_m : w_2[m]? = some (mO 10 [.int 0, .int ch, .int ea, .int fa, .int sv0, .ref (m + 1), .ref (m + 2), .ref (m + 3), .ref (m + 4), .ref (m + 5), .ref (m + 6), .ref (m + 7), .ref (m + 8), .ref (m + 9), .ref (m + 10), .int tn, .int 0, .int (nI e), .int ln, .int 0, .int 0]) := by rw [ew_2]; exact List.getElem?_set_self (lt_of_get hf1_m)
  have hf2__m___6_ : w_2[(m + 6)]? = some (mI 0 60 tx) := by rw [ew_2, List.getElem?_set_ne (by omega)]; exact hf1__m___6_
  have hf2__m___8_ : w_2[(m + 8)]? = some (mI 0 8 lt) := by rw [ew_2, List.getElem?_set_ne (by omega)]; exact hf1__m___8_
  have hf2__m___9_ : w_2[(m + 9)]? = some (mI 0 41 wdF) := by rw [ew_2, List.getElem?_set_ne (by omega)]; exact hf1__m___9_
  have hf2__m___10_ : w_2[(m + 10)]? = some (mI 0 9 waF) := by rw [ew_2, List.getElem?_set_ne (by omega)]; exact hf1__m___10_
  have hf2__m___1_ : w_2[(m + 1)]? = some (mI 0 67 F) := by rw [ew_2, List.getElem?_set_ne (by omega)]; exact hf1__m___1_
  have hF_2 : Ou m w w_2 := by rw [ew_2]; exact (Ou.set hF_1 (by omega))
  refine r_iconst hC dX9_commands_10 (v := 1) (by decide) ?_
  refine r_istore_n hC dX9_commands_11 rfl (by rw [hnl]; decide) (L' := [(1, .int 1), (0, .ref m)]) rfl ?_
  refine r_aload_n hC dX9_commands_12 rfl (j := 1) rfl ?_
  refine r_callV hC (vs := []) vX9_commands_13 (sm_command0 (d := d) (h := 0) (e := e) hf2_m hf2__m___6_ hf2__m___8_ hf2__m___9_ hf2__m___10_ he (Nat.zero_le e)) hf2_m rfl rfl (by omega) (by omega) (by omega) (Nat.le_of_ble_eq_true rfl) (fun v_3 w_3 hP_3 hlen_3 => ?_) (fun _ _ h => h.elim)
  rcases hP_3 with ⟨C_3, k_3, lt_3, hc_3, hk2_3, hk_3, hv_3, ew_3⟩ | ⟨k_3, lt_3, hc_3, hk_3, hv_3, ew_3⟩
  · rw [hv_3]
    have hf3_m : w_3[m]? = some (mO 10 [.int 0, .int ch, .int ea, .int fa, .int sv0, .ref (m + 1), .ref (m + 2), .ref (m + 3), .ref (m + 4), .ref (m + 5), .ref (m + 6), .ref (m + 7), .ref (m + 8), .ref (m + 9), .ref (m + 10), .int tn, .int (nI k_3), .int (nI e), .int ln, .int 0, .int 0]) := by rw [ew_3]; exact List.getElem?_set_self (by simp only [List.length_set]; exact lt_of_get hf2_m)
    have hf3__m___6_ : w_3[(m + 6)]? = some (mI 0 60 tx) := by rw [ew_3, List.getElem?_set_ne (by omega), List.getElem?_set_ne (by omega)]; exact hf2__m___6_
    have hf3__m___8_ : w_3[(m + 8)]? = some (mI 0 8 lt_3) := by rw [ew_3, List.getElem?_set_ne (by omega)]; exact List.getElem?_set_self (lt_of_get hf2__m___8_)
    have hf3__m___9_ : w_3[(m + 9)]? = some (mI 0 41 wdF) := by rw [ew_3, List.getElem?_set_ne (by omega), List.getElem?_set_ne (by omega)]; exact hf2__m___9_
    have hf3__m___10_ : w_3[(m + 10)]? = some (mI 0 9 waF) := by rw [ew_3, List.getElem?_set_ne (by omega), List.getElem?_set_ne (by omega)]; exact hf2__m___10_
    have hf3__m___1_ : w_3[(m + 1)]? = some (mI 0 67 F) := by rw [ew_3, List.getElem?_set_ne (by omega), List.getElem?_set_ne (by omega)]; exact hf2__m___1_
    have hF_3 : Ou m w w_3 := by rw [ew_3]; exact (Ou.set (Ou.set hF_2 (by omega)) (by omega))
    show Wp X 0 0 w_3 [(1, .int 1), (0, .ref m)] [] 16
    refine cm_loop0 hC hnl he 61 k_3 w_3 lt_3 _ (by omega) hk_3 hf3_m hf3__m___6_ hf3__m___8_ hf3__m___9_ hf3__m___10_ hf3__m___1_ (fun w' lt' x' l k2 z1 z2 z3 z4 z5 => ?_) (fun w' lt' x' k2 z1 z2 z3 z4 z5 => ?_)
    · exact cm_ret hC hnl hE hR (hF_3.trans z2).1 (Or.inl ⟨_, k2, lt', x', pAll_s hc_3 z1, rfl, hF_3.trans z2, z3, z4, z5⟩)
    · exact cm_ret hC hnl hE hR (hF_3.trans z2).1 (Or.inr ⟨k2, lt', x', pAll_b hc_3 z1, rfl, hF_3.trans z2, z3, z4, z5⟩)
  · rw [hv_3]
    have hf3_m : w_3[m]? = some (mO 10 [.int 0, .int ch, .int ea, .int fa, .int sv0, .ref (m + 1), .ref (m + 2), .ref (m + 3), .ref (m + 4), .ref (m + 5), .ref (m + 6), .ref (m + 7), .ref (m + 8), .ref (m + 9), .ref (m + 10), .int tn, .int (nI k_3), .int (nI e), .int ln, .int 1, .int 0]) := by rw [ew_3]; exact List.getElem?_set_self (by simp only [List.length_set]; exact lt_of_get hf2_m)
    have hf3__m___6_ : w_3[(m + 6)]? = some (mI 0 60 tx) := by rw [ew_3, List.getElem?_set_ne (by omega), List.getElem?_set_ne (by omega)]; exact hf2__m___6_
    have hf3__m___8_ : w_3[(m + 8)]? = some (mI 0 8 lt_3) := by rw [ew_3, List.getElem?_set_ne (by omega)]; exact List.getElem?_set_self (lt_of_get hf2__m___8_)
    have hf3__m___9_ : w_3[(m + 9)]? = some (mI 0 41 wdF) := by rw [ew_3, List.getElem?_set_ne (by omega), List.getElem?_set_ne (by omega)]; exact hf2__m___9_
    have hf3__m___10_ : w_3[(m + 10)]? = some (mI 0 9 waF) := by rw [ew_3, List.getElem?_set_ne (by omega), List.getElem?_set_ne (by omega)]; exact hf2__m___10_
    have hf3__m___1_ : w_3[(m + 1)]? = some (mI 0 67 F) := by rw [ew_3, List.getElem?_set_ne (by omega), List.getElem?_set_ne (by omega)]; exact hf2__m___1_
    have hF_3 : Ou m w w_3 := by rw [ew_3]; exact (Ou.set (Ou.set hF_2 (by omega)) (by omega))
    show Wp X 0 0 w_3 [(1, .int 1), (0, .ref m)] [] 16
    refine r_aload_n hC dX9_commands_16 rfl (j := 1) rfl ?_
    refine r_get hC gX9_commands_17 hf3_m (v := .int 1) rfl ?_
    refine r_if_ne hC dX9_commands_20 (tgt := 64) (by decide) (fun _ => ?_) (fun h => absurd h (by decide))
    refine r_iload_n hC dX9_commands_64 rfl (j := 0) rfl ?_
    refine r_iret hC hE hR dX9_commands_65 (by omega) (by omega) (hF_3.1) ?_
    exact Or.inr ⟨k_3, lt_3, _, pAll_n hc_3, rfl, hF_3, hf3_m, hf3__m___8_, hf3__m___1_⟩
set_option maxRecDepth 100000 in
set_option maxHeartbeats 4000000 in
theorem sm_commands1 {d : Nat} {w : mW} {m : Nat} {ch ea fa sv0 tn ln he9 iw9 : Int32} {tx lt : Nat → Int32} {e : Nat} {f g : Nat → Int32} {sl op lo : Int32} {hd rs : Nat → Int32} {np : Nat} {tp av lg pl tk : Int32} {l : List cmdT} {k3 : Nat}  (hm : w[m]? = some (mO 10 [.int 0, .int ch, .int ea, .int fa, .int sv0, .ref (m + 1), .ref (m + 2), .ref (m + 3), .ref (m + 4), .ref (m + 5), .ref (m + 6), .ref (m + 7), .ref (m + 8), .ref (m + 9), .ref (m + 10), .int tn, .int he9, .int (nI e), .int ln, .int iw9, .int 1])) (hv : w[m + 1]? = some (mI 0 67 (enc ((f, g, sl, op, lo), hd, rs, np, tp, av, lg, pl, tk)))) (htx : w[m + 6]? = some (mI 0 60 tx)) (hlt : w[m + 8]? = some (mI 0 8 lt)) (hwd : w[m + 9]? = some (mI 0 41 wdF)) (hwa : w[m + 10]? = some (mI 0 9 waF)) (he : e ≤ 60) (hr : pAll tx e = (some l, k3)) (hI : SInv ((f, g, sl, op, lo), hd, rs, np, tp, av, lg, pl, tk)) : Sp (d + 10) yX9_commands cX9_commands 2 (some .int) [.ref m] w 0 0 (fun v w' => (∃ y' k lt', exL l ((f, g, sl, op, lo), hd, rs, np, tp, av, lg, pl, tk) = (none, y') ∧ v = some (.int (nI l.length)) ∧ Ou m w w' ∧ w'[m]? = some (mO 10 [.int 0, .int ch, .int ea, .int fa, .int sv0, .ref (m + 1), .ref (m + 2), .ref (m + 3), .ref (m + 4), .ref (m + 5), .ref (m + 6), .ref (m + 7), .ref (m + 8), .ref (m + 9), .ref (m + 10), .int tn, .int (nI k), .int (nI e), .int ln, .int 0, .int 1]) ∧ w'[m + 8]? = some (mI 0 8 lt') ∧ w'[m + 1]? = some (mI 0 67 (enc y'))) ∨ (∃ y' k lt' j r, exL l ((f, g, sl, op, lo), hd, rs, np, tp, av, lg, pl, tk) = (some j, y') ∧ ¬ r = 0 ∧ v = some (.int (nI (j + 1))) ∧ Ou m w w' ∧ w'[m]? = some (mO 10 [.int r, .int ch, .int ea, .int fa, .int sv0, .ref (m + 1), .ref (m + 2), .ref (m + 3), .ref (m + 4), .ref (m + 5), .ref (m + 6), .ref (m + 7), .ref (m + 8), .ref (m + 9), .ref (m + 10), .int tn, .int (nI k), .int (nI e), .int ln, .int 0, .int 1]) ∧ w'[m + 8]? = some (mI 0 8 lt') ∧ w'[m + 1]? = some (mI 0 67 (enc y')))) noX := by
  refine Sp.of (by decide +kernel) (Nat.le_of_ble_eq_true rfl) (fun X hC hnl hE hR hN => ?_)
  have hC : Cx X RX9 cX9_commands (d + 10) 0 0 := hC
  show Wp X 0 0 w [(0, .ref m)] [] 0
  have hF0 : Ou m w w := Ou.rfl
  refine r_aload_n hC dX9_commands_0 rfl (j := 0) rfl ?_
  refine r_iconst hC dX9_commands_1 (v := 0) (by decide) ?_
  refine r_put' hC pX9_commands_2 hm (Nat.le_of_ble_eq_true rfl) (fun _ => rfl) (fun _ => rfl) (fun w_1 ew_1 => ?_)
  replace ew_1 : w_1 = (w).set (m) (mO 10 [.int 0, .int ch, .int ea, .int fa, .int sv0, .ref (m + 1), .ref (m + 2), .ref (m + 3), .ref (m + 4), .ref (m + 5), .ref (m + 6), .ref (m + 7), .ref (m + 8), .ref (m + 9), .ref (m + 10), .int tn, .int 0, .int (nI e), .int ln, .int iw9, .int 1]) := ew_1
  have hf1_m : w_1[m]? = some (mO 10 [.int 0, .int ch, .int ea, .int fa, .int sv0, .ref (m + 1), .ref (m + 2), .ref (m + 3), .ref (m + 4), .ref (m + 5), .ref (m + 6), .ref (m + 7), .ref (m + 8), .ref (m + 9), .ref (m + 10), .int tn, .int 0, .int (nI e), .int ln, .int iw9, .int 1]) := by rw [ew_1]; exact List.getElem?_set_self (lt_of_get hm)
  have hf1__m___6_ : w_1[(m + 6)]? = some (mI 0 60 tx) := by rw [ew_1, List.getElem?_set_ne (by omega)]; exact htx
  have hf1__m___8_ : w_1[(m + 8)]? = some (mI 0 8 lt) := by rw [ew_1, List.getElem?_set_ne (by omega)]; exact hlt
  have hf1__m___9_ : w_1[(m + 9)]? = some (mI 0 41 wdF) := by rw [ew_1, List.getElem?_set_ne (by omega)]; exact hwd
  have hf1__m___10_ : w_1[(m + 10)]? = some (mI 0 9 waF) := by rw [ew_1, List.getElem?_set_ne (by omega)]; exact hwa
  have hf1__m___1_ : w_1[(m + 1)]? = some (mI 0 67 (enc ((f, g, sl, op, lo), hd, rs, np, tp, av, lg, pl, tk))) := by rw [ew_1, List.getElem?_set_ne (by omega)]; exact hv
  have hF_1 : Ou m w w_1 := by rw [ew_1]; exact (Ou.set hF0 (by omega))
  refine r_aload_n hC dX9_commands_5 rfl (j := 0) rfl ?_
  refine r_iconst hC dX9_commands_6 (v := 0) (by decide) ?_
  refine r_put' hC pX9_commands_7 hf1_m (Nat.le_of_ble_eq_true rfl) (fun _ => rfl) (fun _ => rfl) (fun w_2 ew_2 => ?_)
  replace ew_2 : w_2 = (w_1).set (m) (mO 10 [.int 0, .int ch, .int ea, .int fa, .int sv0, .ref (m + 1), .ref (m + 2), .ref (m + 3), .ref (m + 4), .ref (m + 5), .ref (m + 6), .ref (m + 7), .ref (m + 8), .ref (m + 9), .ref (m + 10), .int tn, .int 0, .int (nI e), .int ln, .int 0, .int 1]) := ew_2
  have hf2_m : w_2[m]? = some (mO 10 [.int 0, .int ch, .int ea, .int fa, .int sv0, .ref (m + 1), .ref (m + 2), .ref (m + 3), .ref (m + 4), .ref (m + 5), .ref (m + 6), .ref (m + 7), .ref (m + 8), .ref (m + 9), .ref (m + 10), .int tn, .int 0, .int (nI e), .int ln, .int 0, .int 1]) := by rw [ew_2]; exact List.getElem?_set_self (lt_of_get hf1_m)
  have hf2__m___6_ : w_2[(m + 6)]? = some (mI 0 60 tx) := by rw [ew_2, List.getElem?_set_ne (by omega)]; exact hf1__m___6_
  have hf2__m___8_ : w_2[(m + 8)]? = some (mI 0 8 lt) := by rw [ew_2, List.getElem?_set_ne (by omega)]; exact hf1__m___8_
  have hf2__m___9_ : w_2[(m + 9)]? = some (mI 0 41 wdF) := by rw [ew_2, List.getElem?_set_ne (by omega)]; exact hf1__m___9_
  have hf2__m___10_ : w_2[(m + 10)]? = some (mI 0 9 waF) := by rw [ew_2, List.getElem?_set_ne (by omega)]; exact hf1__m___10_
  have hf2__m___1_ : w_2[(m + 1)]? = some (mI 0 67 (enc ((f, g, sl, op, lo), hd, rs, np, tp, av, lg, pl, tk))) := by rw [ew_2, List.getElem?_set_ne (by omega)]; exact hf1__m___1_
  have hF_2 : Ou m w w_2 := by rw [ew_2]; exact (Ou.set hF_1 (by omega))
  refine r_iconst hC dX9_commands_10 (v := 1) (by decide) ?_
  refine r_istore_n hC dX9_commands_11 rfl (by rw [hnl]; decide) (L' := [(1, .int 1), (0, .ref m)]) rfl ?_
  refine r_aload_n hC dX9_commands_12 rfl (j := 1) rfl ?_
  refine r_callV hC (vs := []) vX9_commands_13 (sm_command1 (d := d) (h := 0) (e := e) hf2_m hf2__m___1_ hf2__m___6_ hf2__m___8_ hf2__m___9_ hf2__m___10_ he (Nat.zero_le e) hI.1.2.1 hI.1.2.2.1 hI.2.1 hI.2.2 (fun C _ _ => cmd_T9 hI)) hf2_m rfl rfl (by omega) (by omega) (by omega) (Nat.le_of_ble_eq_true rfl) (fun v_3 w_3 hP_3 hlen_3 => ?_) (fun _ _ h => h.elim)
  rcases hP_3 with ⟨C_3, k_3, lt_3, hc_3, hk2_3, hk_3, hz_3, hv_3, ew_3⟩ | ⟨C_3, k_3, lt_3, r_3, hc_3, hk2_3, hk_3, hz_3, hr_3, hv_3, ew_3⟩ | ⟨k_3, lt_3, hc_3, hk_3, hv_3, ew_3⟩
  · rw [hv_3]
    have hf3_m : w_3[m]? = some (mO 10 [.int 0, .int ch, .int ea, .int fa, .int sv0, .ref (m + 1), .ref (m + 2), .ref (m + 3), .ref (m + 4), .ref (m + 5), .ref (m + 6), .ref (m + 7), .ref (m + 8), .ref (m + 9), .ref (m + 10), .int tn, .int (nI k_3), .int (nI e), .int ln, .int 0, .int 1]) := by rw [ew_3, List.getElem?_set_ne (by omega)]; exact List.getElem?_set_self (by simp only [List.length_set]; exact lt_of_get hf2_m)
    have hf3__m___6_ : w_3[(m + 6)]? = some (mI 0 60 tx) := by rw [ew_3, List.getElem?_set_ne (by omega), List.getElem?_set_ne (by omega), List.getElem?_set_ne (by omega)]; exact hf2__m___6_
    have hf3__m___8_ : w_3[(m + 8)]? = some (mI 0 8 lt_3) := by rw [ew_3, List.getElem?_set_ne (by omega), List.getElem?_set_ne (by omega)]; exact List.getElem?_set_self (lt_of_get hf2__m___8_)
    have hf3__m___9_ : w_3[(m + 9)]? = some (mI 0 41 wdF) := by rw [ew_3, List.getElem?_set_ne (by omega), List.getElem?_set_ne (by omega), List.getElem?_set_ne (by omega)]; exact hf2__m___9_
    have hf3__m___10_ : w_3[(m + 10)]? = some (mI 0 9 waF) := by rw [ew_3, List.getElem?_set_ne (by omega), List.getElem?_set_ne (by omega), List.getElem?_set_ne (by omega)]; exact hf2__m___10_
    have hf3__m___1_ : w_3[(m + 1)]? = some (mI 0 67 (enc (((cmdDo ((f, g, sl, op, lo), hd, rs, np, tp, av, lg, pl, tk) C_3).1.1, (cmdDo ((f, g, sl, op, lo), hd, rs, np, tp, av, lg, pl, tk) C_3).1.2.1, (cmdDo ((f, g, sl, op, lo), hd, rs, np, tp, av, lg, pl, tk) C_3).1.2.2.1, (cmdDo ((f, g, sl, op, lo), hd, rs, np, tp, av, lg, pl, tk) C_3).1.2.2.2.1, (cmdDo ((f, g, sl, op, lo), hd, rs, np, tp, av, lg, pl, tk) C_3).1.2.2.2.2), (cmdDo ((f, g, sl, op, lo), hd, rs, np, tp, av, lg, pl, tk) C_3).2.1, (cmdDo ((f, g, sl, op, lo), hd, rs, np, tp, av, lg, pl, tk) C_3).2.2.1, (cmdDo ((f, g, sl, op, lo), hd, rs, np, tp, av, lg, pl, tk) C_3).2.2.2.1, (cmdDo ((f, g, sl, op, lo), hd, rs, np, tp, av, lg, pl, tk) C_3).2.2.2.2.1, (cmdDo ((f, g, sl, op, lo), hd, rs, np, tp, av, lg, pl, tk) C_3).2.2.2.2.2.1, (cmdDo ((f, g, sl, op, lo), hd, rs, np, tp, av, lg, pl, tk) C_3).2.2.2.2.2.2.1, (cmdDo ((f, g, sl, op, lo), hd, rs, np, tp, av, lg, pl, tk) C_3).2.2.2.2.2.2.2.1, (cmdDo ((f, g, sl, op, lo), hd, rs, np, tp, av, lg, pl, tk) C_3).2.2.2.2.2.2.2.2))) := by rw [ew_3]; exact List.getElem?_set_self (by simp only [List.length_set]; exact lt_of_get hf2__m___1_)
    have hF_3 : Ou m w w_3 := by rw [ew_3]; exact (Ou.set (Ou.set (Ou.set hF_2 (by omega)) (by omega)) (by omega))
    show Wp X 0 0 w_3 [(1, .int 1), (0, .ref m)] [] 16
    cases hr9 : pRest tx e 61 k_3 with
    | mk o k4 =>
      cases o with
      | none => exact absurd ((pAll_b hc_3 hr9).symm.trans hr) (by simp)
      | some l9 =>
        have e5 := (pAll_s hc_3 hr9).symm.trans hr
        simp only [Prod.mk.injEq, Option.some.injEq] at e5
        obtain ⟨rfl, rfl⟩ := e5
        refine cm_loop1 hC hnl he 61 k_3 w_3 lt_3 1 l9 k4 _ _ _ _ _ _ _ _ _ _ _ _ _ hr9 (cmd_inv hI hz_3) (by omega) hk_3 hf3_m hf3__m___6_ hf3__m___8_ hf3__m___9_ hf3__m___10_ hf3__m___1_ (fun w' lt' y' k2 z1 z2 z3 z4 z5 => ?_) (fun w' lt' y' k2 j r z1 z0 z2 z3 z4 z5 => ?_)
        · refine cm_ret hC hnl hE hR (hF_3.trans z2).1 (Or.inl ⟨y', k2, lt', exL_cn hz_3 z1, ?_, hF_3.trans z2, z3, z4, z5⟩)
          rw [List.length_cons, Nat.add_comm]
        · refine cm_ret hC hnl hE hR (hF_3.trans z2).1 (Or.inr ⟨y', k2, lt', j + 1, r, exL_cs hz_3 z1, z0, ?_, hF_3.trans z2, z3, z4, z5⟩)
          rw [Nat.add_comm 1 j]
  · rw [hv_3]
    have hf3_m : w_3[m]? = some (mO 10 [.int r_3, .int ch, .int ea, .int fa, .int sv0, .ref (m + 1), .ref (m + 2), .ref (m + 3), .ref (m + 4), .ref (m + 5), .ref (m + 6), .ref (m + 7), .ref (m + 8), .ref (m + 9), .ref (m + 10), .int tn, .int (nI k_3), .int (nI e), .int ln, .int 0, .int 1]) := by rw [ew_3]; exact List.getElem?_set_self (by simp only [List.length_set]; exact lt_of_get hf2_m)
    have hf3__m___6_ : w_3[(m + 6)]? = some (mI 0 60 tx) := by rw [ew_3, List.getElem?_set_ne (by omega), List.getElem?_set_ne (by omega)]; exact hf2__m___6_
    have hf3__m___8_ : w_3[(m + 8)]? = some (mI 0 8 lt_3) := by rw [ew_3, List.getElem?_set_ne (by omega)]; exact List.getElem?_set_self (lt_of_get hf2__m___8_)
    have hf3__m___9_ : w_3[(m + 9)]? = some (mI 0 41 wdF) := by rw [ew_3, List.getElem?_set_ne (by omega), List.getElem?_set_ne (by omega)]; exact hf2__m___9_
    have hf3__m___10_ : w_3[(m + 10)]? = some (mI 0 9 waF) := by rw [ew_3, List.getElem?_set_ne (by omega), List.getElem?_set_ne (by omega)]; exact hf2__m___10_
    have hf3__m___1_ : w_3[(m + 1)]? = some (mI 0 67 (enc ((f, g, sl, op, lo), hd, rs, np, tp, av, lg, pl, tk))) := by rw [ew_3, List.getElem?_set_ne (by omega), List.getElem?_set_ne (by omega)]; exact hf2__m___1_
    have hF_3 : Ou m w w_3 := by rw [ew_3]; exact (Ou.set (Ou.set hF_2 (by omega)) (by omega))
    show Wp X 0 0 w_3 [(1, .int 1), (0, .ref m)] [] 16
    refine r_aload_n hC dX9_commands_16 rfl (j := 1) rfl ?_
    refine r_get hC gX9_commands_17 hf3_m (v := .int 0) rfl ?_
    refine r_if_ne hC dX9_commands_20 (tgt := 64) (by decide) (fun h => absurd (by decide) h) (fun _ => ?_)
    refine r_aload_n hC dX9_commands_23 rfl (j := 1) rfl ?_
    refine r_get hC gX9_commands_24 hf3_m (v := .int r_3) rfl ?_
    refine r_if_ne hC dX9_commands_27 (tgt := 64) (by decide) (fun _ => ?_) (fun h => absurd h hr_3)
    refine r_iload_n hC dX9_commands_64 rfl (j := 0) rfl ?_
    refine r_iret hC hE hR dX9_commands_65 (by omega) (by omega) (hF_3.1) ?_
    cases hr9 : pRest tx e 61 k_3 with
    | mk o k4 =>
      cases o with
      | none => exact absurd ((pAll_b hc_3 hr9).symm.trans hr) (by simp)
      | some l9 =>
        have e5 := (pAll_s hc_3 hr9).symm.trans hr
        simp only [Prod.mk.injEq, Option.some.injEq] at e5
        obtain ⟨rfl, rfl⟩ := e5
        exact Or.inr ⟨_, k_3, lt_3, 0, r_3, if_neg hz_3, hr_3, rfl, hF_3, hf3_m, hf3__m___8_, hf3__m___1_⟩
  · rw [hv_3]
    have hf3_m : w_3[m]? = some (mO 10 [.int 0, .int ch, .int ea, .int fa, .int sv0, .ref (m + 1), .ref (m + 2), .ref (m + 3), .ref (m + 4), .ref (m + 5), .ref (m + 6), .ref (m + 7), .ref (m + 8), .ref (m + 9), .ref (m + 10), .int tn, .int (nI k_3), .int (nI e), .int ln, .int 1, .int 1]) := by rw [ew_3]; exact List.getElem?_set_self (by simp only [List.length_set]; exact lt_of_get hf2_m)
    have hf3__m___6_ : w_3[(m + 6)]? = some (mI 0 60 tx) := by rw [ew_3, List.getElem?_set_ne (by omega), List.getElem?_set_ne (by omega)]; exact hf2__m___6_
    have hf3__m___8_ : w_3[(m + 8)]? = some (mI 0 8 lt_3) := by rw [ew_3, List.getElem?_set_ne (by omega)]; exact List.getElem?_set_self (lt_of_get hf2__m___8_)
    have hf3__m___9_ : w_3[(m + 9)]? = some (mI 0 41 wdF) := by rw [ew_3, List.getElem?_set_ne (by omega), List.getElem?_set_ne (by omega)]; exact hf2__m___9_
    have hf3__m___10_ : w_3[(m + 10)]? = some (mI 0 9 waF) := by rw [ew_3, List.getElem?_set_ne (by omega), List.getElem?_set_ne (by omega)]; exact hf2__m___10_
    have hf3__m___1_ : w_3[(m + 1)]? = some (mI 0 67 (enc ((f, g, sl, op, lo), hd, rs, np, tp, av, lg, pl, tk))) := by rw [ew_3, List.getElem?_set_ne (by omega), List.getElem?_set_ne (by omega)]; exact hf2__m___1_
    have hF_3 : Ou m w w_3 := by rw [ew_3]; exact (Ou.set (Ou.set hF_2 (by omega)) (by omega))
    show Wp X 0 0 w_3 [(1, .int 1), (0, .ref m)] [] 16
    refine r_aload_n hC dX9_commands_16 rfl (j := 1) rfl ?_
    refine r_get hC gX9_commands_17 hf3_m (v := .int 1) rfl ?_
    refine r_if_ne hC dX9_commands_20 (tgt := 64) (by decide) (fun _ => ?_) (fun h => absurd h (by decide))
    refine r_iload_n hC dX9_commands_64 rfl (j := 0) rfl ?_
    refine r_iret hC hE hR dX9_commands_65 (by omega) (by omega) (hF_3.1) ?_
    exact absurd ((pAll_n hc_3).symm.trans hr) (by simp)
set_option maxRecDepth 100000 in
set_option maxHeartbeats 4000000 in
theorem sm_run {d : Nat} {w : mW} {m : Nat} {th : Int32} {f g : Nat → Int32} {sl op lo : Int32} {hd rs : Nat → Int32} {np : Nat} {tp av lg pl tk : Int32} {l : List sv} {ea fa : Int32} {so : Option sv} {tx : Nat → Int32} {tn : Nat} {lf : Nat → Int32} {ln : Nat} (H : MdAt w m th ((f, g, sl, op, lo), hd, rs, np, tp, av, lg, pl, tk) l ea fa so tx tn lf ln) (hI : SInv ((f, g, sl, op, lo), hd, rs, np, tp, av, lg, pl, tk)) (htn : tn ≤ 60) : Sp (d + 11) yX9_run cX9_run 2 (some .int) [.ref m] w 0 0 (fun v w' => (∃ k, pAll tx tn = (none, k) ∧ v = some (.int 0) ∧ MdTo w w' m 1 ((f, g, sl, op, lo), hd, rs, np, tp, av, lg, pl, tk) l (nI k) fa so tx 0 lf ln) ∨ (∃ l2 k y', pAll tx tn = (some l2, k) ∧ exL l2 ((f, g, sl, op, lo), hd, rs, np, tp, av, lg, pl, tk) = (none, y') ∧ v = some (.int (nI l2.length)) ∧ MdTo w w' m 0 (y') (push8 l ((f, g, sl, op, lo), hd, rs, np, tp, av, lg, pl, tk)) ea fa so tx 0 lf ln) ∨ (∃ l2 k y' j, pAll tx tn = (some l2, k) ∧ exL l2 ((f, g, sl, op, lo), hd, rs, np, tp, av, lg, pl, tk) = (some j, y') ∧ v = some (.int 0) ∧ MdTo w w' m 2 ((f, g, sl, op, lo), hd, rs, np, tp, av, lg, pl, tk) l ea (nI j) so tx 0 lf ln)) noX := by
  refine Sp.of (by decide +kernel) (Nat.le_of_ble_eq_true rfl) (fun X hC hnl hE hR hN => ?_)
  have hC : Cx X RX9 cX9_run (d + 11) 0 0 := hC
  show Wp X 0 0 w [(0, .ref m)] [] 0
  obtain ⟨he, en, iw, id0, bf, sf, kf, pf, lt, hm, hv, hbf, hsf, hkf, hpf, htx, hlf, hlt, hwd, hwa, hpo, hso⟩ := H
  have hF0 : Fr m w w := Fr.rfl
  refine r_aload_n hC dX9_run_0 rfl (j := 0) rfl ?_
  refine r_callV hC (vs := []) vX9_run_1 (sm_begins (d := d + 9) hm hv hbf) hm rfl rfl (by omega) (by omega) (by omega) (Nat.le_of_ble_eq_true rfl) (fun v_1 w_1 hP_1 hlen_1 => ?_) (fun _ _ h => h.elim)
  obtain ⟨hv_1, ew_1⟩ := hP_1
  rw [hv_1]
  have hf1_m : w_1[m]? = some (mO 10 [.int 0, .int (nI l.length), .int ea, .int fa, .int (bI so.isSome), .ref (m + 1), .ref (m + 2), .ref (m + 3), .ref (m + 4), .ref (m + 5), .ref (m + 6), .ref (m + 7), .ref (m + 8), .ref (m + 9), .ref (m + 10), .int (nI tn), .int he, .int en, .int (nI ln), .int iw, .int id0]) := by rw [ew_1, List.getElem?_set_ne (by omega)]; exact List.getElem?_set_self (lt_of_get hm)
  have hf1__m___1_ : w_1[(m + 1)]? = some (mI 0 67 (enc ((f, g, sl, op, lo), hd, rs, np, tp, av, lg, pl, tk))) := by rw [ew_1, List.getElem?_set_ne (by omega), List.getElem?_set_ne (by omega)]; exact hv
  have hf1__m___2_ : w_1[(m + 2)]? = some (mI 0 67 (enc ((f, g, sl, op, lo), hd, rs, np, tp, av, lg, pl, tk))) := by rw [ew_1]; exact List.getElem?_set_self (by simp only [List.length_set]; exact lt_of_get hbf)
  have hf1__m___3_ : w_1[(m + 3)]? = some (mI 0 67 sf) := by rw [ew_1, List.getElem?_set_ne (by omega), List.getElem?_set_ne (by omega)]; exact hsf
  have hf1__m___4_ : w_1[(m + 4)]? = some (mI 0 67 kf) := by rw [ew_1, List.getElem?_set_ne (by omega), List.getElem?_set_ne (by omega)]; exact hkf
  have hf1__m___5_ : w_1[(m + 5)]? = some (mI 0 536 pf) := by rw [ew_1, List.getElem?_set_ne (by omega), List.getElem?_set_ne (by omega)]; exact hpf
  have hf1__m___6_ : w_1[(m + 6)]? = some (mI 0 60 tx) := by rw [ew_1, List.getElem?_set_ne (by omega), List.getElem?_set_ne (by omega)]; exact htx
  have hf1__m___7_ : w_1[(m + 7)]? = some (mI 0 40 lf) := by rw [ew_1, List.getElem?_set_ne (by omega), List.getElem?_set_ne (by omega)]; exact hlf
  have hf1__m___8_ : w_1[(m + 8)]? = some (mI 0 8 lt) := by rw [ew_1, List.getElem?_set_ne (by omega), List.getElem?_set_ne (by omega)]; exact hlt
  have hf1__m___9_ : w_1[(m + 9)]? = some (mI 0 41 wdF) := by rw [ew_1, List.getElem?_set_ne (by omega), List.getElem?_set_ne (by omega)]; exact hwd
  have hf1__m___10_ : w_1[(m + 10)]? = some (mI 0 9 waF) := by rw [ew_1, List.getElem?_set_ne (by omega), List.getElem?_set_ne (by omega)]; exact hwa
  have hF_1 : Fr m w w_1 := by rw [ew_1]; exact (Fr.set (Fr.set hF0 (by omega) (by omega)) (by omega) (by omega))
  show Wp X 0 0 w_1 [(0, .ref m)] [] 4
  refine r_aload_n hC dX9_run_4 rfl (j := 0) rfl ?_
  refine r_aload_n hC dX9_run_5 rfl (j := 0) rfl ?_
  refine r_get hC gX9_run_6 hf1_m (v := .int (nI tn)) rfl ?_
  refine r_put' hC pX9_run_9 hf1_m (Nat.le_of_ble_eq_true rfl) (fun _ => rfl) (fun _ => rfl) (fun w_2 ew_2 => ?_)
  replace ew_2 : w_2 = (w_1).set (m) (mO 10 [.int 0, .int (nI l.length), .int ea, .int fa, .int (bI so.isSome), .ref (m + 1), .ref (m + 2), .ref (m + 3), .ref (m + 4), .ref (m + 5), .ref (m + 6), .ref (m + 7), .ref (m + 8), .ref (m + 9), .ref (m + 10), .int (nI tn), .int he, .int (nI tn), .int (nI ln), .int iw, .int id0]) := ew_2
  have hf2_m : w_2[m]? = some (mO 10 [.int 0, .int (nI l.length), .int ea, .int fa, .int (bI so.isSome), .ref (m + 1), .ref (m + 2), .ref (m + 3), .ref (m + 4), .ref (m + 5), .ref (m + 6), .ref (m + 7), .ref (m + 8), .ref (m + 9), .ref (m + 10), .int (nI tn), .int he, .int (nI tn), .int (nI ln), .int iw, .int id0]) := by rw [ew_2]; exact List.getElem?_set_self (lt_of_get hf1_m)
  have hf2__m___1_ : w_2[(m + 1)]? = some (mI 0 67 (enc ((f, g, sl, op, lo), hd, rs, np, tp, av, lg, pl, tk))) := by rw [ew_2, List.getElem?_set_ne (by omega)]; exact hf1__m___1_
  have hf2__m___2_ : w_2[(m + 2)]? = some (mI 0 67 (enc ((f, g, sl, op, lo), hd, rs, np, tp, av, lg, pl, tk))) := by rw [ew_2, List.getElem?_set_ne (by omega)]; exact hf1__m___2_
  have hf2__m___3_ : w_2[(m + 3)]? = some (mI 0 67 sf) := by rw [ew_2, List.getElem?_set_ne (by omega)]; exact hf1__m___3_
  have hf2__m___4_ : w_2[(m + 4)]? = some (mI 0 67 kf) := by rw [ew_2, List.getElem?_set_ne (by omega)]; exact hf1__m___4_
  have hf2__m___5_ : w_2[(m + 5)]? = some (mI 0 536 pf) := by rw [ew_2, List.getElem?_set_ne (by omega)]; exact hf1__m___5_
  have hf2__m___6_ : w_2[(m + 6)]? = some (mI 0 60 tx) := by rw [ew_2, List.getElem?_set_ne (by omega)]; exact hf1__m___6_
  have hf2__m___7_ : w_2[(m + 7)]? = some (mI 0 40 lf) := by rw [ew_2, List.getElem?_set_ne (by omega)]; exact hf1__m___7_
  have hf2__m___8_ : w_2[(m + 8)]? = some (mI 0 8 lt) := by rw [ew_2, List.getElem?_set_ne (by omega)]; exact hf1__m___8_
  have hf2__m___9_ : w_2[(m + 9)]? = some (mI 0 41 wdF) := by rw [ew_2, List.getElem?_set_ne (by omega)]; exact hf1__m___9_
  have hf2__m___10_ : w_2[(m + 10)]? = some (mI 0 9 waF) := by rw [ew_2, List.getElem?_set_ne (by omega)]; exact hf1__m___10_
  have hF_2 : Fr m w w_2 := by rw [ew_2]; exact (Fr.set hF_1 (by omega) (by omega))
  refine r_aload_n hC dX9_run_12 rfl (j := 0) rfl ?_
  refine r_iconst hC dX9_run_13 (v := 0) (by decide) ?_
  refine r_put' hC pX9_run_14 hf2_m (Nat.le_of_ble_eq_true rfl) (fun _ => rfl) (fun _ => rfl) (fun w_3 ew_3 => ?_)
  replace ew_3 : w_3 = (w_2).set (m) (mO 10 [.int 0, .int (nI l.length), .int ea, .int fa, .int (bI so.isSome), .ref (m + 1), .ref (m + 2), .ref (m + 3), .ref (m + 4), .ref (m + 5), .ref (m + 6), .ref (m + 7), .ref (m + 8), .ref (m + 9), .ref (m + 10), .int 0, .int he, .int (nI tn), .int (nI ln), .int iw, .int id0]) := ew_3
  have hf3_m : w_3[m]? = some (mO 10 [.int 0, .int (nI l.length), .int ea, .int fa, .int (bI so.isSome), .ref (m + 1), .ref (m + 2), .ref (m + 3), .ref (m + 4), .ref (m + 5), .ref (m + 6), .ref (m + 7), .ref (m + 8), .ref (m + 9), .ref (m + 10), .int 0, .int he, .int (nI tn), .int (nI ln), .int iw, .int id0]) := by rw [ew_3]; exact List.getElem?_set_self (lt_of_get hf2_m)
  have hf3__m___1_ : w_3[(m + 1)]? = some (mI 0 67 (enc ((f, g, sl, op, lo), hd, rs, np, tp, av, lg, pl, tk))) := by rw [ew_3, List.getElem?_set_ne (by omega)]; exact hf2__m___1_
  have hf3__m___2_ : w_3[(m + 2)]? = some (mI 0 67 (enc ((f, g, sl, op, lo), hd, rs, np, tp, av, lg, pl, tk))) := by rw [ew_3, List.getElem?_set_ne (by omega)]; exact hf2__m___2_
  have hf3__m___3_ : w_3[(m + 3)]? = some (mI 0 67 sf) := by rw [ew_3, List.getElem?_set_ne (by omega)]; exact hf2__m___3_
  have hf3__m___4_ : w_3[(m + 4)]? = some (mI 0 67 kf) := by rw [ew_3, List.getElem?_set_ne (by omega)]; exact hf2__m___4_
  have hf3__m___5_ : w_3[(m + 5)]? = some (mI 0 536 pf) := by rw [ew_3, List.getElem?_set_ne (by omega)]; exact hf2__m___5_
  have hf3__m___6_ : w_3[(m + 6)]? = some (mI 0 60 tx) := by rw [ew_3, List.getElem?_set_ne (by omega)]; exact hf2__m___6_
  have hf3__m___7_ : w_3[(m + 7)]? = some (mI 0 40 lf) := by rw [ew_3, List.getElem?_set_ne (by omega)]; exact hf2__m___7_
  have hf3__m___8_ : w_3[(m + 8)]? = some (mI 0 8 lt) := by rw [ew_3, List.getElem?_set_ne (by omega)]; exact hf2__m___8_
  have hf3__m___9_ : w_3[(m + 9)]? = some (mI 0 41 wdF) := by rw [ew_3, List.getElem?_set_ne (by omega)]; exact hf2__m___9_
  have hf3__m___10_ : w_3[(m + 10)]? = some (mI 0 9 waF) := by rw [ew_3, List.getElem?_set_ne (by omega)]; exact hf2__m___10_
  have hF_3 : Fr m w w_3 := by rw [ew_3]; exact (Fr.set hF_2 (by omega) (by omega))
  refine r_aload_n hC dX9_run_17 rfl (j := 0) rfl ?_
  refine r_iconst hC dX9_run_18 (v := 0) (by decide) ?_
  refine r_put' hC pX9_run_19 hf3_m (Nat.le_of_ble_eq_true rfl) (fun _ => rfl) (fun _ => rfl) (fun w_4 ew_4 => ?_)
  replace ew_4 : w_4 = (w_3).set (m) (mO 10 [.int 0, .int (nI l.length), .int ea, .int fa, .int (bI so.isSome), .ref (m + 1), .ref (m + 2), .ref (m + 3), .ref (m + 4), .ref (m + 5), .ref (m + 6), .ref (m + 7), .ref (m + 8), .ref (m + 9), .ref (m + 10), .int 0, .int he, .int (nI tn), .int (nI ln), .int iw, .int 0]) := ew_4
  have hf4_m : w_4[m]? = some (mO 10 [.int 0, .int (nI l.length), .int ea, .int fa, .int (bI so.isSome), .ref (m + 1), .ref (m + 2), .ref (m + 3), .ref (m + 4), .ref (m + 5), .ref (m + 6), .ref (m + 7), .ref (m + 8), .ref (m + 9), .ref (m + 10), .int 0, .int he, .int (nI tn), .int (nI ln), .int iw, .int 0]) := by rw [ew_4]; exact List.getElem?_set_self (lt_of_get hf3_m)
  have hf4__m___1_ : w_4[(m + 1)]? = some (mI 0 67 (enc ((f, g, sl, op, lo), hd, rs, np, tp, av, lg, pl, tk))) := by rw [ew_4, List.getElem?_set_ne (by omega)]; exact hf3__m___1_
  have hf4__m___2_ : w_4[(m + 2)]? = some (mI 0 67 (enc ((f, g, sl, op, lo), hd, rs, np, tp, av, lg, pl, tk))) := by rw [ew_4, List.getElem?_set_ne (by omega)]; exact hf3__m___2_
  have hf4__m___3_ : w_4[(m + 3)]? = some (mI 0 67 sf) := by rw [ew_4, List.getElem?_set_ne (by omega)]; exact hf3__m___3_
  have hf4__m___4_ : w_4[(m + 4)]? = some (mI 0 67 kf) := by rw [ew_4, List.getElem?_set_ne (by omega)]; exact hf3__m___4_
  have hf4__m___5_ : w_4[(m + 5)]? = some (mI 0 536 pf) := by rw [ew_4, List.getElem?_set_ne (by omega)]; exact hf3__m___5_
  have hf4__m___6_ : w_4[(m + 6)]? = some (mI 0 60 tx) := by rw [ew_4, List.getElem?_set_ne (by omega)]; exact hf3__m___6_
  have hf4__m___7_ : w_4[(m + 7)]? = some (mI 0 40 lf) := by rw [ew_4, List.getElem?_set_ne (by omega)]; exact hf3__m___7_
  have hf4__m___8_ : w_4[(m + 8)]? = some (mI 0 8 lt) := by rw [ew_4, List.getElem?_set_ne (by omega)]; exact hf3__m___8_
  have hf4__m___9_ : w_4[(m + 9)]? = some (mI 0 41 wdF) := by rw [ew_4, List.getElem?_set_ne (by omega)]; exact hf3__m___9_
  have hf4__m___10_ : w_4[(m + 10)]? = some (mI 0 9 waF) := by rw [ew_4, List.getElem?_set_ne (by omega)]; exact hf3__m___10_
  have hF_4 : Fr m w w_4 := by rw [ew_4]; exact (Fr.set hF_3 (by omega) (by omega))
  refine r_aload_n hC dX9_run_22 rfl (j := 0) rfl ?_
  refine r_callV hC (vs := []) vX9_run_23 (sm_commands0 (d := d) (e := tn) hf4_m hf4__m___1_ hf4__m___6_ hf4__m___8_ hf4__m___9_ hf4__m___10_ htn) hf4_m rfl rfl (by omega) (by omega) (by omega) (Nat.le_of_ble_eq_true rfl) (fun v_5 w_5 hP_5 hlen_5 => ?_) (fun _ _ h => h.elim)
  rcases hP_5 with ⟨l_5, k_5, lt_5, x_5, hp_5, hv_5, hOu_5, ho_5, hl_5, hy_5⟩ | ⟨k_5, lt_5, x_5, hp_5, hv_5, hOu_5, ho_5, hl_5, hy_5⟩
  · rw [hv_5]
    have hf5_m : w_5[m]? = some (mO 10 [.int 0, .int (nI l.length), .int ea, .int fa, .int (bI so.isSome), .ref (m + 1), .ref (m + 2), .ref (m + 3), .ref (m + 4), .ref (m + 5), .ref (m + 6), .ref (m + 7), .ref (m + 8), .ref (m + 9), .ref (m + 10), .int 0, .int (nI k_5), .int (nI tn), .int (nI ln), .int 0, .int 0]) := ho_5
    have hf5__m___1_ : w_5[(m + 1)]? = some (mI 0 67 (enc ((f, g, sl, op, lo), hd, rs, np, tp, av, lg, pl, tk))) := hy_5
    have hf5__m___2_ : w_5[(m + 2)]? = some (mI 0 67 (enc ((f, g, sl, op, lo), hd, rs, np, tp, av, lg, pl, tk))) := by rw [hOu_5.2 _ (by omega)]; exact hf4__m___2_
    have hf5__m___3_ : w_5[(m + 3)]? = some (mI 0 67 sf) := by rw [hOu_5.2 _ (by omega)]; exact hf4__m___3_
    have hf5__m___4_ : w_5[(m + 4)]? = some (mI 0 67 kf) := by rw [hOu_5.2 _ (by omega)]; exact hf4__m___4_
    have hf5__m___5_ : w_5[(m + 5)]? = some (mI 0 536 pf) := by rw [hOu_5.2 _ (by omega)]; exact hf4__m___5_
    have hf5__m___6_ : w_5[(m + 6)]? = some (mI 0 60 tx) := by rw [hOu_5.2 _ (by omega)]; exact hf4__m___6_
    have hf5__m___7_ : w_5[(m + 7)]? = some (mI 0 40 lf) := by rw [hOu_5.2 _ (by omega)]; exact hf4__m___7_
    have hf5__m___8_ : w_5[(m + 8)]? = some (mI 0 8 lt_5) := hl_5
    have hf5__m___9_ : w_5[(m + 9)]? = some (mI 0 41 wdF) := by rw [hOu_5.2 _ (by omega)]; exact hf4__m___9_
    have hf5__m___10_ : w_5[(m + 10)]? = some (mI 0 9 waF) := by rw [hOu_5.2 _ (by omega)]; exact hf4__m___10_
    have hF_5 : Fr m w w_5 := Fr.ou hF_4 hOu_5
    show Wp X 0 0 w_5 [(0, .ref m)] [.int x_5] 26
    refine r_istore_n hC dX9_run_26 rfl (by rw [hnl]; decide) (L' := [(1, .int x_5), (0, .ref m)]) rfl ?_
    refine r_aload_n hC dX9_run_27 rfl (j := 1) rfl ?_
    refine r_get hC gX9_run_28 hf5_m (v := .int 0) rfl ?_
    refine r_if_eq hC dX9_run_31 (tgt := 48) (by decide) (fun _ => ?_) (fun h => absurd (by decide) h)
    refine r_aload_n hC dX9_run_48 rfl (j := 1) rfl ?_
    refine r_iconst hC dX9_run_49 (v := 1) (by decide) ?_
    refine r_put' hC pX9_run_50 hf5_m (Nat.le_of_ble_eq_true rfl) (fun _ => rfl) (fun _ => rfl) (fun w_6 ew_6 => ?_)
    replace ew_6 : w_6 = (w_5).set (m) (mO 10 [.int 0, .int (nI l.length), .int ea, .int fa, .int (bI so.isSome), .ref (m + 1), .ref (m + 2), .ref (m + 3), .ref (m + 4), .ref (m + 5), .ref (m + 6), .ref (m + 7), .ref (m + 8), .ref (m + 9), .ref (m + 10), .int 0, .int (nI k_5), .int (nI tn), .int (nI ln), .int 0, .int 1]) := ew_6
    have hf6_m : w_6[m]? = some (mO 10 [.int 0, .int (nI l.length), .int ea, .int fa, .int (bI so.isSome), .ref (m + 1), .ref (m + 2), .ref (m + 3), .ref (m + 4), .ref (m + 5), .ref (m + 6), .ref (m + 7), .ref (m + 8), .ref (m + 9), .ref (m + 10), .int 0, .int (nI k_5), .int (nI tn), .int (nI ln), .int 0, .int 1]) := by rw [ew_6]; exact List.getElem?_set_self (lt_of_get hf5_m)
    have hf6__m___1_ : w_6[(m + 1)]? = some (mI 0 67 (enc ((f, g, sl, op, lo), hd, rs, np, tp, av, lg, pl, tk))) := by rw [ew_6, List.getElem?_set_ne (by omega)]; exact hf5__m___1_
    have hf6__m___2_ : w_6[(m + 2)]? = some (mI 0 67 (enc ((f, g, sl, op, lo), hd, rs, np, tp, av, lg, pl, tk))) := by rw [ew_6, List.getElem?_set_ne (by omega)]; exact hf5__m___2_
    have hf6__m___3_ : w_6[(m + 3)]? = some (mI 0 67 sf) := by rw [ew_6, List.getElem?_set_ne (by omega)]; exact hf5__m___3_
    have hf6__m___4_ : w_6[(m + 4)]? = some (mI 0 67 kf) := by rw [ew_6, List.getElem?_set_ne (by omega)]; exact hf5__m___4_
    have hf6__m___5_ : w_6[(m + 5)]? = some (mI 0 536 pf) := by rw [ew_6, List.getElem?_set_ne (by omega)]; exact hf5__m___5_
    have hf6__m___6_ : w_6[(m + 6)]? = some (mI 0 60 tx) := by rw [ew_6, List.getElem?_set_ne (by omega)]; exact hf5__m___6_
    have hf6__m___7_ : w_6[(m + 7)]? = some (mI 0 40 lf) := by rw [ew_6, List.getElem?_set_ne (by omega)]; exact hf5__m___7_
    have hf6__m___8_ : w_6[(m + 8)]? = some (mI 0 8 lt_5) := by rw [ew_6, List.getElem?_set_ne (by omega)]; exact hf5__m___8_
    have hf6__m___9_ : w_6[(m + 9)]? = some (mI 0 41 wdF) := by rw [ew_6, List.getElem?_set_ne (by omega)]; exact hf5__m___9_
    have hf6__m___10_ : w_6[(m + 10)]? = some (mI 0 9 waF) := by rw [ew_6, List.getElem?_set_ne (by omega)]; exact hf5__m___10_
    have hF_6 : Fr m w w_6 := by rw [ew_6]; exact (Fr.set hF_5 (by omega) (by omega))
    refine r_aload_n hC dX9_run_53 rfl (j := 1) rfl ?_
    refine r_callV hC (vs := []) vX9_run_54 (sm_commands1 (d := d) (e := tn) (l := l_5) (k3 := k_5) hf6_m hf6__m___1_ hf6__m___6_ hf6__m___8_ hf6__m___9_ hf6__m___10_ htn hp_5 hI) hf6_m rfl rfl (by omega) (by omega) (by omega) (Nat.le_of_ble_eq_true rfl) (fun v_7 w_7 hP_7 hlen_7 => ?_) (fun _ _ h => h.elim)
    rcases hP_7 with ⟨y_7, k_7, lt_7, hx_7, hv_7, hOu_7, ho_7, hl_7, hy_7⟩ | ⟨y_7, k_7, lt_7, j_7, r_7, hx_7, hr_7, hv_7, hOu_7, ho_7, hl_7, hy_7⟩
    · rw [hv_7]
      have hf7_m : w_7[m]? = some (mO 10 [.int 0, .int (nI l.length), .int ea, .int fa, .int (bI so.isSome), .ref (m + 1), .ref (m + 2), .ref (m + 3), .ref (m + 4), .ref (m + 5), .ref (m + 6), .ref (m + 7), .ref (m + 8), .ref (m + 9), .ref (m + 10), .int 0, .int (nI k_7), .int (nI tn), .int (nI ln), .int 0, .int 1]) := ho_7
      have hf7__m___1_ : w_7[(m + 1)]? = some (mI 0 67 (enc ((y_7.1.1, y_7.1.2.1, y_7.1.2.2.1, y_7.1.2.2.2.1, y_7.1.2.2.2.2), y_7.2.1, y_7.2.2.1, y_7.2.2.2.1, y_7.2.2.2.2.1, y_7.2.2.2.2.2.1, y_7.2.2.2.2.2.2.1, y_7.2.2.2.2.2.2.2.1, y_7.2.2.2.2.2.2.2.2))) := hy_7
      have hf7__m___2_ : w_7[(m + 2)]? = some (mI 0 67 (enc ((f, g, sl, op, lo), hd, rs, np, tp, av, lg, pl, tk))) := by rw [hOu_7.2 _ (by omega)]; exact hf6__m___2_
      have hf7__m___3_ : w_7[(m + 3)]? = some (mI 0 67 sf) := by rw [hOu_7.2 _ (by omega)]; exact hf6__m___3_
      have hf7__m___4_ : w_7[(m + 4)]? = some (mI 0 67 kf) := by rw [hOu_7.2 _ (by omega)]; exact hf6__m___4_
      have hf7__m___5_ : w_7[(m + 5)]? = some (mI 0 536 pf) := by rw [hOu_7.2 _ (by omega)]; exact hf6__m___5_
      have hf7__m___6_ : w_7[(m + 6)]? = some (mI 0 60 tx) := by rw [hOu_7.2 _ (by omega)]; exact hf6__m___6_
      have hf7__m___7_ : w_7[(m + 7)]? = some (mI 0 40 lf) := by rw [hOu_7.2 _ (by omega)]; exact hf6__m___7_
      have hf7__m___8_ : w_7[(m + 8)]? = some (mI 0 8 lt_7) := hl_7
      have hf7__m___9_ : w_7[(m + 9)]? = some (mI 0 41 wdF) := by rw [hOu_7.2 _ (by omega)]; exact hf6__m___9_
      have hf7__m___10_ : w_7[(m + 10)]? = some (mI 0 9 waF) := by rw [hOu_7.2 _ (by omega)]; exact hf6__m___10_
      have hF_7 : Fr m w w_7 := Fr.ou hF_6 hOu_7
      show Wp X 0 0 w_7 [(1, .int x_5), (0, .ref m)] [.int (nI l_5.length)] 57
      refine r_istore_n hC dX9_run_57 rfl (by rw [hnl]; decide) (L' := [(1, .int (nI l_5.length)), (0, .ref m)]) rfl ?_
      refine r_aload_n hC dX9_run_58 rfl (j := 1) rfl ?_
      refine r_get hC gX9_run_59 hf7_m (v := .int 0) rfl ?_
      refine r_if_eq hC dX9_run_62 (tgt := 77) (by decide) (fun _ => ?_) (fun h => absurd (by decide) h)
      refine r_aload_n hC dX9_run_77 rfl (j := 1) rfl ?_
      refine r_iload_n hC dX9_run_78 rfl (j := 0) rfl ?_
      refine r_callV hC (vs := [.int (nI l_5.length)]) vX9_run_79 (sm_endsK (y := ((f, g, sl, op, lo), hd, rs, np, tp, av, lg, pl, tk)) (d := d + 10) hf7_m hf7__m___2_ hf7__m___5_ hpo) hf7_m rfl rfl (by omega) (by omega) (by omega) (Nat.le_of_ble_eq_true rfl) (fun v_8 w_8 hP_8 hlen_8 => ?_) (fun _ _ h => h.elim)
      obtain ⟨hv_8, q_8, hq_8, ew_8⟩ := hP_8
      rw [hv_8]
      have hf8_m : w_8[m]? = some (mO 10 [.int 0, .int (nI (push8 l ((f, g, sl, op, lo), hd, rs, np, tp, av, lg, pl, tk)).length), .int ea, .int fa, .int (bI so.isSome), .ref (m + 1), .ref (m + 2), .ref (m + 3), .ref (m + 4), .ref (m + 5), .ref (m + 6), .ref (m + 7), .ref (m + 8), .ref (m + 9), .ref (m + 10), .int 0, .int (nI k_7), .int (nI tn), .int (nI ln), .int 0, .int 1]) := by rw [ew_8]; exact List.getElem?_set_self (by simp only [List.length_set]; exact lt_of_get hf7_m)
      have hf8__m___1_ : w_8[(m + 1)]? = some (mI 0 67 (enc ((y_7.1.1, y_7.1.2.1, y_7.1.2.2.1, y_7.1.2.2.2.1, y_7.1.2.2.2.2), y_7.2.1, y_7.2.2.1, y_7.2.2.2.1, y_7.2.2.2.2.1, y_7.2.2.2.2.2.1, y_7.2.2.2.2.2.2.1, y_7.2.2.2.2.2.2.2.1, y_7.2.2.2.2.2.2.2.2))) := by rw [ew_8, List.getElem?_set_ne (by omega), List.getElem?_set_ne (by omega)]; exact hf7__m___1_
      have hf8__m___2_ : w_8[(m + 2)]? = some (mI 0 67 (enc ((f, g, sl, op, lo), hd, rs, np, tp, av, lg, pl, tk))) := by rw [ew_8, List.getElem?_set_ne (by omega), List.getElem?_set_ne (by omega)]; exact hf7__m___2_
      have hf8__m___3_ : w_8[(m + 3)]? = some (mI 0 67 sf) := by rw [ew_8, List.getElem?_set_ne (by omega), List.getElem?_set_ne (by omega)]; exact hf7__m___3_
      have hf8__m___4_ : w_8[(m + 4)]? = some (mI 0 67 kf) := by rw [ew_8, List.getElem?_set_ne (by omega), List.getElem?_set_ne (by omega)]; exact hf7__m___4_
      have hf8__m___5_ : w_8[(m + 5)]? = some (mI 0 536 q_8) := by rw [ew_8, List.getElem?_set_ne (by omega)]; exact List.getElem?_set_self (lt_of_get hf7__m___5_)
      have hf8__m___6_ : w_8[(m + 6)]? = some (mI 0 60 tx) := by rw [ew_8, List.getElem?_set_ne (by omega), List.getElem?_set_ne (by omega)]; exact hf7__m___6_
      have hf8__m___7_ : w_8[(m + 7)]? = some (mI 0 40 lf) := by rw [ew_8, List.getElem?_set_ne (by omega), List.getElem?_set_ne (by omega)]; exact hf7__m___7_
      have hf8__m___8_ : w_8[(m + 8)]? = some (mI 0 8 lt_7) := by rw [ew_8, List.getElem?_set_ne (by omega), List.getElem?_set_ne (by omega)]; exact hf7__m___8_
      have hf8__m___9_ : w_8[(m + 9)]? = some (mI 0 41 wdF) := by rw [ew_8, List.getElem?_set_ne (by omega), List.getElem?_set_ne (by omega)]; exact hf7__m___9_
      have hf8__m___10_ : w_8[(m + 10)]? = some (mI 0 9 waF) := by rw [ew_8, List.getElem?_set_ne (by omega), List.getElem?_set_ne (by omega)]; exact hf7__m___10_
      have hF_8 : Fr m w w_8 := by rw [ew_8]; exact (Fr.set (Fr.set hF_7 (by omega) (by omega)) (by omega) (by omega))
      show Wp X 0 0 w_8 [(1, .int (nI l_5.length)), (0, .ref m)] [.int (nI l_5.length)] 82
      refine r_iret hC hE hR dX9_run_82 (by omega) (by omega) (hF_8.1) ?_
      exact Or.inr (Or.inl ⟨l_5, k_5, y_7, hp_5, hx_7, rfl, ⟨⟨_, _, _, _, _, _, _, _, _, hf8_m, hf8__m___1_, hf8__m___2_, hf8__m___3_, hf8__m___4_, hf8__m___5_, hf8__m___6_, hf8__m___7_, hf8__m___8_, hf8__m___9_, hf8__m___10_, hq_8, hso⟩, hF_8⟩⟩)
    · rw [hv_7]
      have hf7_m : w_7[m]? = some (mO 10 [.int r_7, .int (nI l.length), .int ea, .int fa, .int (bI so.isSome), .ref (m + 1), .ref (m + 2), .ref (m + 3), .ref (m + 4), .ref (m + 5), .ref (m + 6), .ref (m + 7), .ref (m + 8), .ref (m + 9), .ref (m + 10), .int 0, .int (nI k_7), .int (nI tn), .int (nI ln), .int 0, .int 1]) := ho_7
      have hf7__m___1_ : w_7[(m + 1)]? = some (mI 0 67 (enc ((y_7.1.1, y_7.1.2.1, y_7.1.2.2.1, y_7.1.2.2.2.1, y_7.1.2.2.2.2), y_7.2.1, y_7.2.2.1, y_7.2.2.2.1, y_7.2.2.2.2.1, y_7.2.2.2.2.2.1, y_7.2.2.2.2.2.2.1, y_7.2.2.2.2.2.2.2.1, y_7.2.2.2.2.2.2.2.2))) := hy_7
      have hf7__m___2_ : w_7[(m + 2)]? = some (mI 0 67 (enc ((f, g, sl, op, lo), hd, rs, np, tp, av, lg, pl, tk))) := by rw [hOu_7.2 _ (by omega)]; exact hf6__m___2_
      have hf7__m___3_ : w_7[(m + 3)]? = some (mI 0 67 sf) := by rw [hOu_7.2 _ (by omega)]; exact hf6__m___3_
      have hf7__m___4_ : w_7[(m + 4)]? = some (mI 0 67 kf) := by rw [hOu_7.2 _ (by omega)]; exact hf6__m___4_
      have hf7__m___5_ : w_7[(m + 5)]? = some (mI 0 536 pf) := by rw [hOu_7.2 _ (by omega)]; exact hf6__m___5_
      have hf7__m___6_ : w_7[(m + 6)]? = some (mI 0 60 tx) := by rw [hOu_7.2 _ (by omega)]; exact hf6__m___6_
      have hf7__m___7_ : w_7[(m + 7)]? = some (mI 0 40 lf) := by rw [hOu_7.2 _ (by omega)]; exact hf6__m___7_
      have hf7__m___8_ : w_7[(m + 8)]? = some (mI 0 8 lt_7) := hl_7
      have hf7__m___9_ : w_7[(m + 9)]? = some (mI 0 41 wdF) := by rw [hOu_7.2 _ (by omega)]; exact hf6__m___9_
      have hf7__m___10_ : w_7[(m + 10)]? = some (mI 0 9 waF) := by rw [hOu_7.2 _ (by omega)]; exact hf6__m___10_
      have hF_7 : Fr m w w_7 := Fr.ou hF_6 hOu_7
      show Wp X 0 0 w_7 [(1, .int x_5), (0, .ref m)] [.int (nI (j_7 + 1))] 57
      refine r_istore_n hC dX9_run_57 rfl (by rw [hnl]; decide) (L' := [(1, .int (nI (j_7 + 1))), (0, .ref m)]) rfl ?_
      refine r_aload_n hC dX9_run_58 rfl (j := 1) rfl ?_
      refine r_get hC gX9_run_59 hf7_m (v := .int r_7) rfl ?_
      refine r_if_eq hC dX9_run_62 (tgt := 77) (by decide) (fun h => absurd h hr_7) (fun _ => ?_)
      refine r_aload_n hC dX9_run_65 rfl (j := 1) rfl ?_
      refine r_iload_n hC dX9_run_66 rfl (j := 0) rfl ?_
      refine r_iconst hC dX9_run_67 (v := 1) (by decide) ?_
      refine r_isub hC dX9_run_68 ?_
      rw [show nI (j_7 + 1) - 1 = nI j_7 from by rw [nI_succ, Int32.add_sub_cancel]]
      refine r_put' hC pX9_run_69 hf7_m (Nat.le_of_ble_eq_true rfl) (fun _ => rfl) (fun _ => rfl) (fun w_9 ew_9 => ?_)
      replace ew_9 : w_9 = (w_7).set (m) (mO 10 [.int r_7, .int (nI l.length), .int ea, .int (nI j_7), .int (bI so.isSome), .ref (m + 1), .ref (m + 2), .ref (m + 3), .ref (m + 4), .ref (m + 5), .ref (m + 6), .ref (m + 7), .ref (m + 8), .ref (m + 9), .ref (m + 10), .int 0, .int (nI k_7), .int (nI tn), .int (nI ln), .int 0, .int 1]) := ew_9
      have hf9_m : w_9[m]? = some (mO 10 [.int r_7, .int (nI l.length), .int ea, .int (nI j_7), .int (bI so.isSome), .ref (m + 1), .ref (m + 2), .ref (m + 3), .ref (m + 4), .ref (m + 5), .ref (m + 6), .ref (m + 7), .ref (m + 8), .ref (m + 9), .ref (m + 10), .int 0, .int (nI k_7), .int (nI tn), .int (nI ln), .int 0, .int 1]) := by rw [ew_9]; exact List.getElem?_set_self (lt_of_get hf7_m)
      have hf9__m___1_ : w_9[(m + 1)]? = some (mI 0 67 (enc ((y_7.1.1, y_7.1.2.1, y_7.1.2.2.1, y_7.1.2.2.2.1, y_7.1.2.2.2.2), y_7.2.1, y_7.2.2.1, y_7.2.2.2.1, y_7.2.2.2.2.1, y_7.2.2.2.2.2.1, y_7.2.2.2.2.2.2.1, y_7.2.2.2.2.2.2.2.1, y_7.2.2.2.2.2.2.2.2))) := by rw [ew_9, List.getElem?_set_ne (by omega)]; exact hf7__m___1_
      have hf9__m___2_ : w_9[(m + 2)]? = some (mI 0 67 (enc ((f, g, sl, op, lo), hd, rs, np, tp, av, lg, pl, tk))) := by rw [ew_9, List.getElem?_set_ne (by omega)]; exact hf7__m___2_
      have hf9__m___3_ : w_9[(m + 3)]? = some (mI 0 67 sf) := by rw [ew_9, List.getElem?_set_ne (by omega)]; exact hf7__m___3_
      have hf9__m___4_ : w_9[(m + 4)]? = some (mI 0 67 kf) := by rw [ew_9, List.getElem?_set_ne (by omega)]; exact hf7__m___4_
      have hf9__m___5_ : w_9[(m + 5)]? = some (mI 0 536 pf) := by rw [ew_9, List.getElem?_set_ne (by omega)]; exact hf7__m___5_
      have hf9__m___6_ : w_9[(m + 6)]? = some (mI 0 60 tx) := by rw [ew_9, List.getElem?_set_ne (by omega)]; exact hf7__m___6_
      have hf9__m___7_ : w_9[(m + 7)]? = some (mI 0 40 lf) := by rw [ew_9, List.getElem?_set_ne (by omega)]; exact hf7__m___7_
      have hf9__m___8_ : w_9[(m + 8)]? = some (mI 0 8 lt_7) := by rw [ew_9, List.getElem?_set_ne (by omega)]; exact hf7__m___8_
      have hf9__m___9_ : w_9[(m + 9)]? = some (mI 0 41 wdF) := by rw [ew_9, List.getElem?_set_ne (by omega)]; exact hf7__m___9_
      have hf9__m___10_ : w_9[(m + 10)]? = some (mI 0 9 waF) := by rw [ew_9, List.getElem?_set_ne (by omega)]; exact hf7__m___10_
      have hF_9 : Fr m w w_9 := by rw [ew_9]; exact (Fr.set hF_7 (by omega) (by omega))
      refine r_aload_n hC dX9_run_72 rfl (j := 1) rfl ?_
      refine r_iconst hC dX9_run_73 (v := 2) (by decide) ?_
      refine r_put' hC pX9_run_74 hf9_m (Nat.le_of_ble_eq_true rfl) (fun _ => rfl) (fun _ => rfl) (fun w_10 ew_10 => ?_)
      replace ew_10 : w_10 = (w_9).set (m) (mO 10 [.int 2, .int (nI l.length), .int ea, .int (nI j_7), .int (bI so.isSome), .ref (m + 1), .ref (m + 2), .ref (m + 3), .ref (m + 4), .ref (m + 5), .ref (m + 6), .ref (m + 7), .ref (m + 8), .ref (m + 9), .ref (m + 10), .int 0, .int (nI k_7), .int (nI tn), .int (nI ln), .int 0, .int 1]) := ew_10
      have hf10_m : w_10[m]? = some (mO 10 [.int 2, .int (nI l.length), .int ea, .int (nI j_7), .int (bI so.isSome), .ref (m + 1), .ref (m + 2), .ref (m + 3), .ref (m + 4), .ref (m + 5), .ref (m + 6), .ref (m + 7), .ref (m + 8), .ref (m + 9), .ref (m + 10), .int 0, .int (nI k_7), .int (nI tn), .int (nI ln), .int 0, .int 1]) := by rw [ew_10]; exact List.getElem?_set_self (lt_of_get hf9_m)
      have hf10__m___1_ : w_10[(m + 1)]? = some (mI 0 67 (enc ((y_7.1.1, y_7.1.2.1, y_7.1.2.2.1, y_7.1.2.2.2.1, y_7.1.2.2.2.2), y_7.2.1, y_7.2.2.1, y_7.2.2.2.1, y_7.2.2.2.2.1, y_7.2.2.2.2.2.1, y_7.2.2.2.2.2.2.1, y_7.2.2.2.2.2.2.2.1, y_7.2.2.2.2.2.2.2.2))) := by rw [ew_10, List.getElem?_set_ne (by omega)]; exact hf9__m___1_
      have hf10__m___2_ : w_10[(m + 2)]? = some (mI 0 67 (enc ((f, g, sl, op, lo), hd, rs, np, tp, av, lg, pl, tk))) := by rw [ew_10, List.getElem?_set_ne (by omega)]; exact hf9__m___2_
      have hf10__m___3_ : w_10[(m + 3)]? = some (mI 0 67 sf) := by rw [ew_10, List.getElem?_set_ne (by omega)]; exact hf9__m___3_
      have hf10__m___4_ : w_10[(m + 4)]? = some (mI 0 67 kf) := by rw [ew_10, List.getElem?_set_ne (by omega)]; exact hf9__m___4_
      have hf10__m___5_ : w_10[(m + 5)]? = some (mI 0 536 pf) := by rw [ew_10, List.getElem?_set_ne (by omega)]; exact hf9__m___5_
      have hf10__m___6_ : w_10[(m + 6)]? = some (mI 0 60 tx) := by rw [ew_10, List.getElem?_set_ne (by omega)]; exact hf9__m___6_
      have hf10__m___7_ : w_10[(m + 7)]? = some (mI 0 40 lf) := by rw [ew_10, List.getElem?_set_ne (by omega)]; exact hf9__m___7_
      have hf10__m___8_ : w_10[(m + 8)]? = some (mI 0 8 lt_7) := by rw [ew_10, List.getElem?_set_ne (by omega)]; exact hf9__m___8_
      have hf10__m___9_ : w_10[(m + 9)]? = some (mI 0 41 wdF) := by rw [ew_10, List.getElem?_set_ne (by omega)]; exact hf9__m___9_
      have hf10__m___10_ : w_10[(m + 10)]? = some (mI 0 9 waF) := by rw [ew_10, List.getElem?_set_ne (by omega)]; exact hf9__m___10_
      have hF_10 : Fr m w w_10 := by rw [ew_10]; exact (Fr.set hF_9 (by omega) (by omega))
      refine r_aload_n hC dX9_run_77 rfl (j := 1) rfl ?_
      refine r_iload_n hC dX9_run_78 rfl (j := 0) rfl ?_
      refine r_callV hC (vs := [.int (nI (j_7 + 1))]) vX9_run_79 (sm_endsF (d := d + 9) hf10_m hf10__m___1_ hf10__m___2_ (by decide)) hf10_m rfl rfl (by omega) (by omega) (by omega) (Nat.le_of_ble_eq_true rfl) (fun v_11 w_11 hP_11 hlen_11 => ?_) (fun _ _ h => h.elim)
      obtain ⟨hv_11, ew_11⟩ := hP_11
      rw [hv_11]
      have hf11_m : w_11[m]? = some (mO 10 [.int 2, .int (nI l.length), .int ea, .int (nI j_7), .int (bI so.isSome), .ref (m + 1), .ref (m + 2), .ref (m + 3), .ref (m + 4), .ref (m + 5), .ref (m + 6), .ref (m + 7), .ref (m + 8), .ref (m + 9), .ref (m + 10), .int 0, .int (nI k_7), .int (nI tn), .int (nI ln), .int 0, .int 1]) := by rw [ew_11, List.getElem?_set_ne (by omega)]; exact hf10_m
      have hf11__m___1_ : w_11[(m + 1)]? = some (mI 0 67 (enc ((f, g, sl, op, lo), hd, rs, np, tp, av, lg, pl, tk))) := by rw [ew_11]; exact List.getElem?_set_self (lt_of_get hf10__m___1_)
      have hf11__m___2_ : w_11[(m + 2)]? = some (mI 0 67 (enc ((f, g, sl, op, lo), hd, rs, np, tp, av, lg, pl, tk))) := by rw [ew_11, List.getElem?_set_ne (by omega)]; exact hf10__m___2_
      have hf11__m___3_ : w_11[(m + 3)]? = some (mI 0 67 sf) := by rw [ew_11, List.getElem?_set_ne (by omega)]; exact hf10__m___3_
      have hf11__m___4_ : w_11[(m + 4)]? = some (mI 0 67 kf) := by rw [ew_11, List.getElem?_set_ne (by omega)]; exact hf10__m___4_
      have hf11__m___5_ : w_11[(m + 5)]? = some (mI 0 536 pf) := by rw [ew_11, List.getElem?_set_ne (by omega)]; exact hf10__m___5_
      have hf11__m___6_ : w_11[(m + 6)]? = some (mI 0 60 tx) := by rw [ew_11, List.getElem?_set_ne (by omega)]; exact hf10__m___6_
      have hf11__m___7_ : w_11[(m + 7)]? = some (mI 0 40 lf) := by rw [ew_11, List.getElem?_set_ne (by omega)]; exact hf10__m___7_
      have hf11__m___8_ : w_11[(m + 8)]? = some (mI 0 8 lt_7) := by rw [ew_11, List.getElem?_set_ne (by omega)]; exact hf10__m___8_
      have hf11__m___9_ : w_11[(m + 9)]? = some (mI 0 41 wdF) := by rw [ew_11, List.getElem?_set_ne (by omega)]; exact hf10__m___9_
      have hf11__m___10_ : w_11[(m + 10)]? = some (mI 0 9 waF) := by rw [ew_11, List.getElem?_set_ne (by omega)]; exact hf10__m___10_
      have hF_11 : Fr m w w_11 := by rw [ew_11]; exact (Fr.set hF_10 (by omega) (by omega))
      show Wp X 0 0 w_11 [(1, .int (nI (j_7 + 1))), (0, .ref m)] [.int 0] 82
      refine r_iret hC hE hR dX9_run_82 (by omega) (by omega) (hF_11.1) ?_
      exact Or.inr (Or.inr ⟨l_5, k_5, y_7, j_7, hp_5, hx_7, rfl, ⟨⟨_, _, _, _, _, _, _, _, _, hf11_m, hf11__m___1_, hf11__m___2_, hf11__m___3_, hf11__m___4_, hf11__m___5_, hf11__m___6_, hf11__m___7_, hf11__m___8_, hf11__m___9_, hf11__m___10_, hpo, hso⟩, hF_11⟩⟩)
  · rw [hv_5]
    have hf5_m : w_5[m]? = some (mO 10 [.int 0, .int (nI l.length), .int ea, .int fa, .int (bI so.isSome), .ref (m + 1), .ref (m + 2), .ref (m + 3), .ref (m + 4), .ref (m + 5), .ref (m + 6), .ref (m + 7), .ref (m + 8), .ref (m + 9), .ref (m + 10), .int 0, .int (nI k_5), .int (nI tn), .int (nI ln), .int 1, .int 0]) := ho_5
    have hf5__m___1_ : w_5[(m + 1)]? = some (mI 0 67 (enc ((f, g, sl, op, lo), hd, rs, np, tp, av, lg, pl, tk))) := hy_5
    have hf5__m___2_ : w_5[(m + 2)]? = some (mI 0 67 (enc ((f, g, sl, op, lo), hd, rs, np, tp, av, lg, pl, tk))) := by rw [hOu_5.2 _ (by omega)]; exact hf4__m___2_
    have hf5__m___3_ : w_5[(m + 3)]? = some (mI 0 67 sf) := by rw [hOu_5.2 _ (by omega)]; exact hf4__m___3_
    have hf5__m___4_ : w_5[(m + 4)]? = some (mI 0 67 kf) := by rw [hOu_5.2 _ (by omega)]; exact hf4__m___4_
    have hf5__m___5_ : w_5[(m + 5)]? = some (mI 0 536 pf) := by rw [hOu_5.2 _ (by omega)]; exact hf4__m___5_
    have hf5__m___6_ : w_5[(m + 6)]? = some (mI 0 60 tx) := by rw [hOu_5.2 _ (by omega)]; exact hf4__m___6_
    have hf5__m___7_ : w_5[(m + 7)]? = some (mI 0 40 lf) := by rw [hOu_5.2 _ (by omega)]; exact hf4__m___7_
    have hf5__m___8_ : w_5[(m + 8)]? = some (mI 0 8 lt_5) := hl_5
    have hf5__m___9_ : w_5[(m + 9)]? = some (mI 0 41 wdF) := by rw [hOu_5.2 _ (by omega)]; exact hf4__m___9_
    have hf5__m___10_ : w_5[(m + 10)]? = some (mI 0 9 waF) := by rw [hOu_5.2 _ (by omega)]; exact hf4__m___10_
    have hF_5 : Fr m w w_5 := Fr.ou hF_4 hOu_5
    show Wp X 0 0 w_5 [(0, .ref m)] [.int x_5] 26
    refine r_istore_n hC dX9_run_26 rfl (by rw [hnl]; decide) (L' := [(1, .int x_5), (0, .ref m)]) rfl ?_
    refine r_aload_n hC dX9_run_27 rfl (j := 1) rfl ?_
    refine r_get hC gX9_run_28 hf5_m (v := .int 1) rfl ?_
    refine r_if_eq hC dX9_run_31 (tgt := 48) (by decide) (fun h => absurd h (by decide)) (fun _ => ?_)
    refine r_aload_n hC dX9_run_34 rfl (j := 1) rfl ?_
    refine r_aload_n hC dX9_run_35 rfl (j := 1) rfl ?_
    refine r_get hC gX9_run_36 hf5_m (v := .int (nI k_5)) rfl ?_
    refine r_put' hC pX9_run_39 hf5_m (Nat.le_of_ble_eq_true rfl) (fun _ => rfl) (fun _ => rfl) (fun w_12 ew_12 => ?_)
    replace ew_12 : w_12 = (w_5).set (m) (mO 10 [.int 0, .int (nI l.length), .int (nI k_5), .int fa, .int (bI so.isSome), .ref (m + 1), .ref (m + 2), .ref (m + 3), .ref (m + 4), .ref (m + 5), .ref (m + 6), .ref (m + 7), .ref (m + 8), .ref (m + 9), .ref (m + 10), .int 0, .int (nI k_5), .int (nI tn), .int (nI ln), .int 1, .int 0]) := ew_12
    have hf12_m : w_12[m]? = some (mO 10 [.int 0, .int (nI l.length), .int (nI k_5), .int fa, .int (bI so.isSome), .ref (m + 1), .ref (m + 2), .ref (m + 3), .ref (m + 4), .ref (m + 5), .ref (m + 6), .ref (m + 7), .ref (m + 8), .ref (m + 9), .ref (m + 10), .int 0, .int (nI k_5), .int (nI tn), .int (nI ln), .int 1, .int 0]) := by rw [ew_12]; exact List.getElem?_set_self (lt_of_get hf5_m)
    have hf12__m___1_ : w_12[(m + 1)]? = some (mI 0 67 (enc ((f, g, sl, op, lo), hd, rs, np, tp, av, lg, pl, tk))) := by rw [ew_12, List.getElem?_set_ne (by omega)]; exact hf5__m___1_
    have hf12__m___2_ : w_12[(m + 2)]? = some (mI 0 67 (enc ((f, g, sl, op, lo), hd, rs, np, tp, av, lg, pl, tk))) := by rw [ew_12, List.getElem?_set_ne (by omega)]; exact hf5__m___2_
    have hf12__m___3_ : w_12[(m + 3)]? = some (mI 0 67 sf) := by rw [ew_12, List.getElem?_set_ne (by omega)]; exact hf5__m___3_
    have hf12__m___4_ : w_12[(m + 4)]? = some (mI 0 67 kf) := by rw [ew_12, List.getElem?_set_ne (by omega)]; exact hf5__m___4_
    have hf12__m___5_ : w_12[(m + 5)]? = some (mI 0 536 pf) := by rw [ew_12, List.getElem?_set_ne (by omega)]; exact hf5__m___5_
    have hf12__m___6_ : w_12[(m + 6)]? = some (mI 0 60 tx) := by rw [ew_12, List.getElem?_set_ne (by omega)]; exact hf5__m___6_
    have hf12__m___7_ : w_12[(m + 7)]? = some (mI 0 40 lf) := by rw [ew_12, List.getElem?_set_ne (by omega)]; exact hf5__m___7_
    have hf12__m___8_ : w_12[(m + 8)]? = some (mI 0 8 lt_5) := by rw [ew_12, List.getElem?_set_ne (by omega)]; exact hf5__m___8_
    have hf12__m___9_ : w_12[(m + 9)]? = some (mI 0 41 wdF) := by rw [ew_12, List.getElem?_set_ne (by omega)]; exact hf5__m___9_
    have hf12__m___10_ : w_12[(m + 10)]? = some (mI 0 9 waF) := by rw [ew_12, List.getElem?_set_ne (by omega)]; exact hf5__m___10_
    have hF_12 : Fr m w w_12 := by rw [ew_12]; exact (Fr.set hF_5 (by omega) (by omega))
    refine r_aload_n hC dX9_run_42 rfl (j := 1) rfl ?_
    refine r_iconst hC dX9_run_43 (v := 1) (by decide) ?_
    refine r_callV hC (vs := [.int 1]) vX9_run_44 (sm_fail (d := d + 10) (x := 1) hf12_m) hf12_m rfl rfl (by omega) (by omega) (by omega) (Nat.le_of_ble_eq_true rfl) (fun v_13 w_13 hP_13 hlen_13 => ?_) (fun _ _ h => h.elim)
    obtain ⟨hv_13, ew_13⟩ := hP_13
    rw [hv_13]
    have hf13_m : w_13[m]? = some (mO 10 [.int 1, .int (nI l.length), .int (nI k_5), .int fa, .int (bI so.isSome), .ref (m + 1), .ref (m + 2), .ref (m + 3), .ref (m + 4), .ref (m + 5), .ref (m + 6), .ref (m + 7), .ref (m + 8), .ref (m + 9), .ref (m + 10), .int 0, .int (nI k_5), .int (nI tn), .int (nI ln), .int 1, .int 0]) := by rw [ew_13]; exact List.getElem?_set_self (lt_of_get hf12_m)
    have hf13__m___1_ : w_13[(m + 1)]? = some (mI 0 67 (enc ((f, g, sl, op, lo), hd, rs, np, tp, av, lg, pl, tk))) := by rw [ew_13, List.getElem?_set_ne (by omega)]; exact hf12__m___1_
    have hf13__m___2_ : w_13[(m + 2)]? = some (mI 0 67 (enc ((f, g, sl, op, lo), hd, rs, np, tp, av, lg, pl, tk))) := by rw [ew_13, List.getElem?_set_ne (by omega)]; exact hf12__m___2_
    have hf13__m___3_ : w_13[(m + 3)]? = some (mI 0 67 sf) := by rw [ew_13, List.getElem?_set_ne (by omega)]; exact hf12__m___3_
    have hf13__m___4_ : w_13[(m + 4)]? = some (mI 0 67 kf) := by rw [ew_13, List.getElem?_set_ne (by omega)]; exact hf12__m___4_
    have hf13__m___5_ : w_13[(m + 5)]? = some (mI 0 536 pf) := by rw [ew_13, List.getElem?_set_ne (by omega)]; exact hf12__m___5_
    have hf13__m___6_ : w_13[(m + 6)]? = some (mI 0 60 tx) := by rw [ew_13, List.getElem?_set_ne (by omega)]; exact hf12__m___6_
    have hf13__m___7_ : w_13[(m + 7)]? = some (mI 0 40 lf) := by rw [ew_13, List.getElem?_set_ne (by omega)]; exact hf12__m___7_
    have hf13__m___8_ : w_13[(m + 8)]? = some (mI 0 8 lt_5) := by rw [ew_13, List.getElem?_set_ne (by omega)]; exact hf12__m___8_
    have hf13__m___9_ : w_13[(m + 9)]? = some (mI 0 41 wdF) := by rw [ew_13, List.getElem?_set_ne (by omega)]; exact hf12__m___9_
    have hf13__m___10_ : w_13[(m + 10)]? = some (mI 0 9 waF) := by rw [ew_13, List.getElem?_set_ne (by omega)]; exact hf12__m___10_
    have hF_13 : Fr m w w_13 := by rw [ew_13]; exact (Fr.set hF_12 (by omega) (by omega))
    show Wp X 0 0 w_13 [(1, .int x_5), (0, .ref m)] [.int 0] 47
    refine r_iret hC hE hR dX9_run_47 (by omega) (by omega) (hF_13.1) ?_
    exact Or.inl ⟨k_5, hp_5, rfl, ⟨⟨_, _, _, _, _, _, _, _, _, hf13_m, hf13__m___1_, hf13__m___2_, hf13__m___3_, hf13__m___4_, hf13__m___5_, hf13__m___6_, hf13__m___7_, hf13__m___8_, hf13__m___9_, hf13__m___10_, hpo, hso⟩, hF_13⟩⟩
end TX7
