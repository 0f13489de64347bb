section MD13
def isIT_lt {x a b : Int32} (h : isI x a b = true) : ¬ x < a ∧ ¬ b < x := by
  simp only [isI, Bool.and_eq_true, Bool.not_eq_true', decide_eq_false_iff_not] at h
  exact h
theorem isI_n {x : Int32} {n : Nat} (hn : n < 2 ^ 31) (h : isI x 0 (nI n - 1) = true) : x.toNatClampNeg < n ∧ x = nI x.toNatClampNeg := by
  obtain ⟨h1, h2⟩ := isIT_lt h
  obtain ⟨j, hj, rfl⟩ := nI_of h1
  rw [nI_clamp hj]
  refine ⟨?_, rfl⟩
  rcases Nat.lt_or_ge j n with q | q
  · exact q
  · refine absurd ?_ h2
    rw [Int32.lt_iff_toInt_lt, nI_toInt hj]
    cases n with
    | zero =>
      show (-1 : Int) < j
      omega
    | succ k =>
      rw [show nI (k + 1) - 1 = nI k from by rw [nI_succ, Int32.add_sub_cancel], nI_toInt (by omega)]
      omega
set_option maxRecDepth 100000 in
set_option maxHeartbeats 4000000 in
theorem sm_append {d : Nat} {x : Int32} {w : mW} {m : Nat} {th : Int32} {f g : Nat → Int32} {sl op lo : Int32} {hd rs : Nat → Int32} {np : Nat} {tp av lg pl tk : Int32} {l : List sv} {ea fa : Int32} {so : Option sv} {tx : Nat → Int32} {tn : Nat} {lf : Nat → Int32} {ln : Nat} (H : MdAt w m th ((f, g, sl, op, lo), hd, rs, np, tp, av, lg, pl, tk) l ea fa so tx tn lf ln) (htl : tn ≤ 60) : Sp (d + 1) yX9_append cX9_append 2 (some .int) [.ref m, .int x] w 0 0 (fun v w' => ((isI x 32 126 = true ∧ tn < 60) ∧ v = some (.int (nI (tn + 1))) ∧ MdTo w w' m 0 ((f, g, sl, op, lo), hd, rs, np, tp, av, lg, pl, tk) l ea fa so (upd tx tn x) (tn + 1) lf ln) ∨ ((isI x 32 126 = true ∧ tn = 60) ∧ v = some (.int 0) ∧ MdTo w w' m 2 ((f, g, sl, op, lo), hd, rs, np, tp, av, lg, pl, tk) l ea fa so tx tn lf ln) ∨ (isI x 32 126 = false ∧ v = some (.int 0) ∧ MdTo w w' m 1 ((f, g, sl, op, lo), hd, rs, np, tp, av, lg, pl, tk) l ea fa so tx tn lf ln)) noX := by
  refine Sp.of (by decide +kernel) (Nat.le_of_ble_eq_true rfl) (fun X hC hnl hE hR hN => ?_)
  have hC : Cx X RX9 cX9_append (d + 1) 0 0 := hC
  show Wp X 0 0 w [(0, .ref m), (1, .int x)] [] 0
  obtain ⟨he, en, iw, id0, bf, sf, kf, pf, lt, hm, hv, hbf, hsf, hkf, hpf, htx, hlf, hlt, hwd, hwa, hpo, hso⟩ := H
  have hF0 : Fr m w w := Fr.rfl
  refine r_aload_n hC dX9_append_0 rfl (j := 0) rfl ?_
  refine r_iload_n hC dX9_append_1 rfl (j := 1) rfl ?_
  refine r_bipush hC dX9_append_2 (v := 32) (by decide) ?_
  refine r_bipush hC dX9_append_4 (v := 126) (by decide) ?_
  refine r_callS hC (vs := [.int x, .int 32, .int 126]) vX9_append_6 (sm_isIn (d := d)) rfl (by omega) (by omega) (by omega) (Nat.le_of_ble_eq_true rfl) (fun v_1 w_1 hP_1 hlen_1 => ?_) (fun _ _ h => h.elim)
  rw [hP_1.1, hP_1.2]
  show Wp X 0 0 w [(0, .ref m), (1, .int x)] [.int (bI (isI x 32 126)), .ref m] 9
  refine r_if_ne hC dX9_append_9 (tgt := 16) (by decide) (fun c9 => ?_) (fun c9 => ?_)
  · refine r_aload_n hC dX9_append_16 rfl (j := 0) rfl ?_
    refine r_get hC gX9_append_17 hm (v := .int (nI tn)) rfl ?_
    refine r_bipush hC dX9_append_20 (v := 60) (by decide) ?_
    refine r_icmp_ne hC dX9_append_22 (tgt := 29) (by decide) (fun c22 => ?_) (fun c22 => ?_)
    · refine r_iconst hC dX9_append_29 (v := 0) (by decide) ?_
      refine r_put' hC pX9_append_30 hm (Nat.le_of_ble_eq_true rfl) (fun _ => rfl) (fun _ => rfl) (fun w_2 ew_2 => ?_)
      replace ew_2 : w_2 = (w).set (m) (mO 10 [.int 0, .int (nI l.length), .int ea, .int fa, .int (bI so.isSome), .ref (m + 1), .ref (m + 2), .ref (m + 3), .ref (m + 4), .ref (m + 5), .ref (m + 6), .ref (m + 7), .ref (m + 8), .ref (m + 9), .ref (m + 10), .int (nI tn), .int he, .int en, .int (nI ln), .int iw, .int id0]) := ew_2
      have hf2_m : w_2[m]? = some (mO 10 [.int 0, .int (nI l.length), .int ea, .int fa, .int (bI so.isSome), .ref (m + 1), .ref (m + 2), .ref (m + 3), .ref (m + 4), .ref (m + 5), .ref (m + 6), .ref (m + 7), .ref (m + 8), .ref (m + 9), .ref (m + 10), .int (nI tn), .int he, .int en, .int (nI ln), .int iw, .int id0]) := by rw [ew_2]; exact List.getElem?_set_self (lt_of_get hm)
      have hf2__m___1_ : w_2[(m + 1)]? = some (mI 0 67 (enc ((f, g, sl, op, lo), hd, rs, np, tp, av, lg, pl, tk))) := by rw [ew_2, List.getElem?_set_ne (by omega)]; exact hv
      have hf2__m___2_ : w_2[(m + 2)]? = some (mI 0 67 bf) := by rw [ew_2, List.getElem?_set_ne (by omega)]; exact hbf
      have hf2__m___3_ : w_2[(m + 3)]? = some (mI 0 67 sf) := by rw [ew_2, List.getElem?_set_ne (by omega)]; exact hsf
      have hf2__m___4_ : w_2[(m + 4)]? = some (mI 0 67 kf) := by rw [ew_2, List.getElem?_set_ne (by omega)]; exact hkf
      have hf2__m___5_ : w_2[(m + 5)]? = some (mI 0 536 pf) := by rw [ew_2, List.getElem?_set_ne (by omega)]; exact hpf
      have hf2__m___6_ : w_2[(m + 6)]? = some (mI 0 60 tx) := by rw [ew_2, List.getElem?_set_ne (by omega)]; exact htx
      have hf2__m___7_ : w_2[(m + 7)]? = some (mI 0 40 lf) := by rw [ew_2, List.getElem?_set_ne (by omega)]; exact hlf
      have hf2__m___8_ : w_2[(m + 8)]? = some (mI 0 8 lt) := by rw [ew_2, List.getElem?_set_ne (by omega)]; exact hlt
      have hf2__m___9_ : w_2[(m + 9)]? = some (mI 0 41 wdF) := by rw [ew_2, List.getElem?_set_ne (by omega)]; exact hwd
      have hf2__m___10_ : w_2[(m + 10)]? = some (mI 0 9 waF) := by rw [ew_2, List.getElem?_set_ne (by omega)]; exact hwa
      have hF_2 : Fr m w w_2 := by rw [ew_2]; exact (Fr.set hF0 (by omega) (by omega))
      refine r_aload_n hC dX9_append_33 rfl (j := 0) rfl ?_
      refine r_get hC gX9_append_34 hf2_m (v := .int 0) rfl ?_
      refine r_if_eq hC dX9_append_37 (tgt := 42) (by decide) (fun _ => ?_) (fun h => absurd (by decide) h)
      have htn : tn < 60 := by
        have : ¬ tn = 60 := fun z => c22 (by rw [z]; rfl)
        omega
      refine r_aload_n hC dX9_append_42 rfl (j := 0) rfl ?_
      refine r_get hC gX9_append_43 hf2_m (v := .ref (m + 6)) rfl ?_
      refine r_aload_n hC dX9_append_46 rfl (j := 0) rfl ?_
      refine r_get hC gX9_append_47 hf2_m (v := .int (nI tn)) rfl ?_
      refine r_iload_n hC dX9_append_50 rfl (j := 1) rfl ?_
      refine r_iast' hC dX9_append_51 (j := tn) hf2__m___6_ (mIx_nI htn (by decide)) (fun w_3 ew_3 => ?_)
      have hf3_m : w_3[m]? = some (mO 10 [.int 0, .int (nI l.length), .int ea, .int fa, .int (bI so.isSome), .ref (m + 1), .ref (m + 2), .ref (m + 3), .ref (m + 4), .ref (m + 5), .ref (m + 6), .ref (m + 7), .ref (m + 8), .ref (m + 9), .ref (m + 10), .int (nI tn), .int he, .int en, .int (nI ln), .int iw, .int id0]) := by rw [ew_3, List.getElem?_set_ne (by omega)]; exact hf2_m
      have hf3__m___1_ : w_3[(m + 1)]? = some (mI 0 67 (enc ((f, g, sl, op, lo), hd, rs, np, tp, av, lg, pl, tk))) := by rw [ew_3, List.getElem?_set_ne (by omega)]; exact hf2__m___1_
      have hf3__m___2_ : w_3[(m + 2)]? = some (mI 0 67 bf) := by rw [ew_3, List.getElem?_set_ne (by omega)]; exact hf2__m___2_
      have hf3__m___3_ : w_3[(m + 3)]? = some (mI 0 67 sf) := by rw [ew_3, List.getElem?_set_ne (by omega)]; exact hf2__m___3_
      have hf3__m___4_ : w_3[(m + 4)]? = some (mI 0 67 kf) := by rw [ew_3, List.getElem?_set_ne (by omega)]; exact hf2__m___4_
      have hf3__m___5_ : w_3[(m + 5)]? = some (mI 0 536 pf) := by rw [ew_3, List.getElem?_set_ne (by omega)]; exact hf2__m___5_
      have hf3__m___6_ : w_3[(m + 6)]? = some (mI 0 60 (upd tx tn x)) := by rw [ew_3]; exact List.getElem?_set_self (lt_of_get hf2__m___6_)
      have hf3__m___7_ : w_3[(m + 7)]? = some (mI 0 40 lf) := by rw [ew_3, List.getElem?_set_ne (by omega)]; exact hf2__m___7_
      have hf3__m___8_ : w_3[(m + 8)]? = some (mI 0 8 lt) := by rw [ew_3, List.getElem?_set_ne (by omega)]; exact hf2__m___8_
      have hf3__m___9_ : w_3[(m + 9)]? = some (mI 0 41 wdF) := by rw [ew_3, List.getElem?_set_ne (by omega)]; exact hf2__m___9_
      have hf3__m___10_ : w_3[(m + 10)]? = some (mI 0 9 waF) := by rw [ew_3, List.getElem?_set_ne (by omega)]; exact hf2__m___10_
      have hF_3 : Fr m w w_3 := by rw [ew_3]; exact (Fr.set hF_2 (by omega) (by omega))
      refine r_aload_n hC dX9_append_52 rfl (j := 0) rfl ?_
      refine r_dup hC dX9_append_53 rfl ?_
      refine r_get hC gX9_append_54 hf3_m (v := .int (nI tn)) rfl ?_
      refine r_iconst hC dX9_append_57 (v := 1) (by decide) ?_
      refine r_iadd hC dX9_append_58 ?_
      rw [show nI tn + 1 = nI (tn + 1) from (nI_succ tn).symm]
      refine r_put' hC pX9_append_59 hf3_m (Nat.le_of_ble_eq_true rfl) (fun _ => rfl) (fun _ => rfl) (fun w_4 ew_4 => ?_)
      replace ew_4 : w_4 = (w_3).set (m) (mO 10 [.int 0, .int (nI l.length), .int ea, .int fa, .int (bI so.isSome), .ref (m + 1), .ref (m + 2), .ref (m + 3), .ref (m + 4), .ref (m + 5), .ref (m + 6), .ref (m + 7), .ref (m + 8), .ref (m + 9), .ref (m + 10), .int (nI (tn + 1)), .int he, .int en, .int (nI ln), .int iw, .int id0]) := ew_4
      have hf4_m : w_4[m]? = some (mO 10 [.int 0, .int (nI l.length), .int ea, .int fa, .int (bI so.isSome), .ref (m + 1), .ref (m + 2), .ref (m + 3), .ref (m + 4), .ref (m + 5), .ref (m + 6), .ref (m + 7), .ref (m + 8), .ref (m + 9), .ref (m + 10), .int (nI (tn + 1)), .int he, .int en, .int (nI ln), .int iw, .int id0]) := by rw [ew_4]; exact List.getElem?_set_self (lt_of_get hf3_m)
      have hf4__m___1_ : w_4[(m + 1)]? = some (mI 0 67 (enc ((f, g, sl, op, lo), hd, rs, np, tp, av, lg, pl, tk))) := by rw [ew_4, List.getElem?_set_ne (by omega)]; exact hf3__m___1_
      have hf4__m___2_ : w_4[(m + 2)]? = some (mI 0 67 bf) := by rw [ew_4, List.getElem?_set_ne (by omega)]; exact hf3__m___2_
      have hf4__m___3_ : w_4[(m + 3)]? = some (mI 0 67 sf) := by rw [ew_4, List.getElem?_set_ne (by omega)]; exact hf3__m___3_
      have hf4__m___4_ : w_4[(m + 4)]? = some (mI 0 67 kf) := by rw [ew_4, List.getElem?_set_ne (by omega)]; exact hf3__m___4_
      have hf4__m___5_ : w_4[(m + 5)]? = some (mI 0 536 pf) := by rw [ew_4, List.getElem?_set_ne (by omega)]; exact hf3__m___5_
      have hf4__m___6_ : w_4[(m + 6)]? = some (mI 0 60 (upd tx tn x)) := by rw [ew_4, List.getElem?_set_ne (by omega)]; exact hf3__m___6_
      have hf4__m___7_ : w_4[(m + 7)]? = some (mI 0 40 lf) := by rw [ew_4, List.getElem?_set_ne (by omega)]; exact hf3__m___7_
      have hf4__m___8_ : w_4[(m + 8)]? = some (mI 0 8 lt) := by rw [ew_4, List.getElem?_set_ne (by omega)]; exact hf3__m___8_
      have hf4__m___9_ : w_4[(m + 9)]? = some (mI 0 41 wdF) := by rw [ew_4, List.getElem?_set_ne (by omega)]; exact hf3__m___9_
      have hf4__m___10_ : w_4[(m + 10)]? = some (mI 0 9 waF) := by rw [ew_4, List.getElem?_set_ne (by omega)]; exact hf3__m___10_
      have hF_4 : Fr m w w_4 := by rw [ew_4]; exact (Fr.set hF_3 (by omega) (by omega))
      refine r_aload_n hC dX9_append_62 rfl (j := 0) rfl ?_
      refine r_get hC gX9_append_63 hf4_m (v := .int (nI (tn + 1))) rfl ?_
      refine r_iret hC hE hR dX9_append_66 (by omega) (by omega) (hF_4.1) ?_
      exact (Or.inl ⟨⟨bI_ne.mp c9, by omega⟩, rfl, ⟨⟨_, _, _, _, _, _, _, _, _, hf4_m, hf4__m___1_, hf4__m___2_, hf4__m___3_, hf4__m___4_, hf4__m___5_, hf4__m___6_, hf4__m___7_, hf4__m___8_, hf4__m___9_, hf4__m___10_, hpo, hso⟩, hF_4⟩⟩)
    · refine r_iconst hC dX9_append_25 (v := 2) (by decide) ?_
      refine r_goto hC dX9_append_26 (tgt := 30) (by decide) ?_
      refine r_put' hC pX9_append_30 hm (Nat.le_of_ble_eq_true rfl) (fun _ => rfl) (fun _ => rfl) (fun w_5 ew_5 => ?_)
      replace ew_5 : w_5 = (w).set (m) (mO 10 [.int 2, .int (nI l.length), .int ea, .int fa, .int (bI so.isSome), .ref (m + 1), .ref (m + 2), .ref (m + 3), .ref (m + 4), .ref (m + 5), .ref (m + 6), .ref (m + 7), .ref (m + 8), .ref (m + 9), .ref (m + 10), .int (nI tn), .int he, .int en, .int (nI ln), .int iw, .int id0]) := ew_5
      have hf5_m : w_5[m]? = some (mO 10 [.int 2, .int (nI l.length), .int ea, .int fa, .int (bI so.isSome), .ref (m + 1), .ref (m + 2), .ref (m + 3), .ref (m + 4), .ref (m + 5), .ref (m + 6), .ref (m + 7), .ref (m + 8), .ref (m + 9), .ref (m + 10), .int (nI tn), .int he, .int en, .int (nI ln), .int iw, .int id0]) := by rw [ew_5]; exact List.getElem?_set_self (lt_of_get hm)
      have hf5__m___1_ : w_5[(m + 1)]? = some (mI 0 67 (enc ((f, g, sl, op, lo), hd, rs, np, tp, av, lg, pl, tk))) := by rw [ew_5, List.getElem?_set_ne (by omega)]; exact hv
      have hf5__m___2_ : w_5[(m + 2)]? = some (mI 0 67 bf) := by rw [ew_5, List.getElem?_set_ne (by omega)]; exact hbf
      have hf5__m___3_ : w_5[(m + 3)]? = some (mI 0 67 sf) := by rw [ew_5, List.getElem?_set_ne (by omega)]; exact hsf
      have hf5__m___4_ : w_5[(m + 4)]? = some (mI 0 67 kf) := by rw [ew_5, List.getElem?_set_ne (by omega)]; exact hkf
      have hf5__m___5_ : w_5[(m + 5)]? = some (mI 0 536 pf) := by rw [ew_5, List.getElem?_set_ne (by omega)]; exact hpf
      have hf5__m___6_ : w_5[(m + 6)]? = some (mI 0 60 tx) := by rw [ew_5, List.getElem?_set_ne (by omega)]; exact htx
      have hf5__m___7_ : w_5[(m + 7)]? = some (mI 0 40 lf) := by rw [ew_5, List.getElem?_set_ne (by omega)]; exact hlf
      have hf5__m___8_ : w_5[(m + 8)]? = some (mI 0 8 lt) := by rw [ew_5, List.getElem?_set_ne (by omega)]; exact hlt
      have hf5__m___9_ : w_5[(m + 9)]? = some (mI 0 41 wdF) := by rw [ew_5, List.getElem?_set_ne (by omega)]; exact hwd
      have hf5__m___10_ : w_5[(m + 10)]? = some (mI 0 9 waF) := by rw [ew_5, List.getElem?_set_ne (by omega)]; exact hwa
      have hF_5 : Fr m w w_5 := by rw [ew_5]; exact (Fr.set hF0 (by omega) (by omega))
      refine r_aload_n hC dX9_append_33 rfl (j := 0) rfl ?_
      refine r_get hC gX9_append_34 hf5_m (v := .int 2) rfl ?_
      refine r_if_eq hC dX9_append_37 (tgt := 42) (by decide) (fun h => absurd h (by decide)) (fun _ => ?_)
      refine r_iconst hC dX9_append_40 (v := 0) (by decide) ?_
      refine r_iret hC hE hR dX9_append_41 (by omega) (by omega) (hF_5.1) ?_
      exact (Or.inr (Or.inl ⟨⟨bI_ne.mp c9, (lit_eq (N := 60) rfl (by omega) (by decide)).mp c22⟩, rfl, ⟨⟨_, _, _, _, _, _, _, _, _, hf5_m, hf5__m___1_, hf5__m___2_, hf5__m___3_, hf5__m___4_, hf5__m___5_, hf5__m___6_, hf5__m___7_, hf5__m___8_, hf5__m___9_, hf5__m___10_, hpo, hso⟩, hF_5⟩⟩))
  · refine r_iconst hC dX9_append_12 (v := 1) (by decide) ?_
    refine r_goto hC dX9_append_13 (tgt := 30) (by decide) ?_
    refine r_put' hC pX9_append_30 hm (Nat.le_of_ble_eq_true rfl) (fun _ => rfl) (fun _ => rfl) (fun w_6 ew_6 => ?_)
    replace ew_6 : w_6 = (w).set (m) (mO 10 [.int 1, .int (nI l.length), .int ea, .int fa, .int (bI so.isSome), .ref (m + 1), .ref (m + 2), .ref (m + 3), .ref (m + 4), .ref (m + 5), .ref (m + 6), .ref (m + 7), .ref (m + 8), .ref (m + 9), .ref (m + 10), .int (nI tn), .int he, .int en, .int (nI ln), .int iw, .int id0]) := ew_6
    have hf6_m : w_6[m]? = some (mO 10 [.int 1, .int (nI l.length), .int ea, .int fa, .int (bI so.isSome), .ref (m + 1), .ref (m + 2), .ref (m + 3), .ref (m + 4), .ref (m + 5), .ref (m + 6), .ref (m + 7), .ref (m + 8), .ref (m + 9), .ref (m + 10), .int (nI tn), .int he, .int en, .int (nI ln), .int iw, .int id0]) := by rw [ew_6]; exact List.getElem?_set_self (lt_of_get hm)
    have hf6__m___1_ : w_6[(m + 1)]? = some (mI 0 67 (enc ((f, g, sl, op, lo), hd, rs, np, tp, av, lg, pl, tk))) := by rw [ew_6, List.getElem?_set_ne (by omega)]; exact hv
    have hf6__m___2_ : w_6[(m + 2)]? = some (mI 0 67 bf) := by rw [ew_6, List.getElem?_set_ne (by omega)]; exact hbf
    have hf6__m___3_ : w_6[(m + 3)]? = some (mI 0 67 sf) := by rw [ew_6, List.getElem?_set_ne (by omega)]; exact hsf
    have hf6__m___4_ : w_6[(m + 4)]? = some (mI 0 67 kf) := by rw [ew_6, List.getElem?_set_ne (by omega)]; exact hkf
    have hf6__m___5_ : w_6[(m + 5)]? = some (mI 0 536 pf) := by rw [ew_6, List.getElem?_set_ne (by omega)]; exact hpf
    have hf6__m___6_ : w_6[(m + 6)]? = some (mI 0 60 tx) := by rw [ew_6, List.getElem?_set_ne (by omega)]; exact htx
    have hf6__m___7_ : w_6[(m + 7)]? = some (mI 0 40 lf) := by rw [ew_6, List.getElem?_set_ne (by omega)]; exact hlf
    have hf6__m___8_ : w_6[(m + 8)]? = some (mI 0 8 lt) := by rw [ew_6, List.getElem?_set_ne (by omega)]; exact hlt
    have hf6__m___9_ : w_6[(m + 9)]? = some (mI 0 41 wdF) := by rw [ew_6, List.getElem?_set_ne (by omega)]; exact hwd
    have hf6__m___10_ : w_6[(m + 10)]? = some (mI 0 9 waF) := by rw [ew_6, List.getElem?_set_ne (by omega)]; exact hwa
    have hF_6 : Fr m w w_6 := by rw [ew_6]; exact (Fr.set hF0 (by omega) (by omega))
    refine r_aload_n hC dX9_append_33 rfl (j := 0) rfl ?_
    refine r_get hC gX9_append_34 hf6_m (v := .int 1) rfl ?_
    refine r_if_eq hC dX9_append_37 (tgt := 42) (by decide) (fun h => absurd h (by decide)) (fun _ => ?_)
    refine r_iconst hC dX9_append_40 (v := 0) (by decide) ?_
    refine r_iret hC hE hR dX9_append_41 (by omega) (by omega) (hF_6.1) ?_
    exact (Or.inr (Or.inr ⟨(bI_0.mp c9), rfl, ⟨⟨_, _, _, _, _, _, _, _, _, hf6_m, hf6__m___1_, hf6__m___2_, hf6__m___3_, hf6__m___4_, hf6__m___5_, hf6__m___6_, hf6__m___7_, hf6__m___8_, hf6__m___9_, hf6__m___10_, hpo, hso⟩, hF_6⟩⟩))
set_option maxRecDepth 100000 in
set_option maxHeartbeats 4000000 in
theorem sm_save {d : Nat} {w : mW} {m : Nat} {th : Int32} {f g : Nat → Int32} {sl op lo : Int32} {hd rs : Nat → Int32} {np : Nat} {tp av lg pl tk : Int32} {l : List sv} {ea fa : Int32} {so : Option sv} {tx : Nat → Int32} {tn : Nat} {lf : Nat → Int32} {ln : Nat} (H : MdAt w m th ((f, g, sl, op, lo), hd, rs, np, tp, av, lg, pl, tk) l ea fa so tx tn lf ln)  : Sp (d + 1) yX9_save cX9_save 1 (some .int) [.ref m] w 0 0 (fun v w' => (v = some (.int (hSum f 25)) ∧ MdTo w w' m 0 ((f, g, sl, op, lo), hd, rs, np, tp, av, lg, pl, tk) l ea fa (some ((f, g, sl, op, lo), hd, rs, np, tp, av, lg, pl, tk)) tx tn lf ln)) noX := by
  refine Sp.of (by decide +kernel) (Nat.le_of_ble_eq_true rfl) (fun X hC hnl hE hR hN => ?_)
  have hC : Cx X RX9 cX9_save (d + 1) 0 0 := hC
  show Wp X 0 0 w [(0, .ref m)] [] 0
  obtain ⟨he, en, iw, id0, bf, sf, kf, pf, lt, hm, hv, hbf, hsf, hkf, hpf, htx, hlf, hlt, hwd, hwa, hpo, hso⟩ := H
  have hF0 : Fr m w w := Fr.rfl
  refine r_aload_n hC dX9_save_0 rfl (j := 0) rfl ?_
  refine r_iconst hC dX9_save_1 (v := 0) (by decide) ?_
  refine r_put' hC pX9_save_2 hm (Nat.le_of_ble_eq_true rfl) (fun _ => rfl) (fun _ => rfl) (fun w_1 ew_1 => ?_)
  replace ew_1 : w_1 = (w).set (m) (mO 10 [.int 0, .int (nI l.length), .int ea, .int fa, .int (bI so.isSome), .ref (m + 1), .ref (m + 2), .ref (m + 3), .ref (m + 4), .ref (m + 5), .ref (m + 6), .ref (m + 7), .ref (m + 8), .ref (m + 9), .ref (m + 10), .int (nI tn), .int he, .int en, .int (nI ln), .int iw, .int id0]) := ew_1
  have hf1_m : w_1[m]? = some (mO 10 [.int 0, .int (nI l.length), .int ea, .int fa, .int (bI so.isSome), .ref (m + 1), .ref (m + 2), .ref (m + 3), .ref (m + 4), .ref (m + 5), .ref (m + 6), .ref (m + 7), .ref (m + 8), .ref (m + 9), .ref (m + 10), .int (nI tn), .int he, .int en, .int (nI ln), .int iw, .int id0]) := by rw [ew_1]; exact List.getElem?_set_self (lt_of_get hm)
  have hf1__m___1_ : w_1[(m + 1)]? = some (mI 0 67 (enc ((f, g, sl, op, lo), hd, rs, np, tp, av, lg, pl, tk))) := by rw [ew_1, List.getElem?_set_ne (by omega)]; exact hv
  have hf1__m___2_ : w_1[(m + 2)]? = some (mI 0 67 bf) := by rw [ew_1, List.getElem?_set_ne (by omega)]; exact hbf
  have hf1__m___3_ : w_1[(m + 3)]? = some (mI 0 67 sf) := by rw [ew_1, List.getElem?_set_ne (by omega)]; exact hsf
  have hf1__m___4_ : w_1[(m + 4)]? = some (mI 0 67 kf) := by rw [ew_1, List.getElem?_set_ne (by omega)]; exact hkf
  have hf1__m___5_ : w_1[(m + 5)]? = some (mI 0 536 pf) := by rw [ew_1, List.getElem?_set_ne (by omega)]; exact hpf
  have hf1__m___6_ : w_1[(m + 6)]? = some (mI 0 60 tx) := by rw [ew_1, List.getElem?_set_ne (by omega)]; exact htx
  have hf1__m___7_ : w_1[(m + 7)]? = some (mI 0 40 lf) := by rw [ew_1, List.getElem?_set_ne (by omega)]; exact hlf
  have hf1__m___8_ : w_1[(m + 8)]? = some (mI 0 8 lt) := by rw [ew_1, List.getElem?_set_ne (by omega)]; exact hlt
  have hf1__m___9_ : w_1[(m + 9)]? = some (mI 0 41 wdF) := by rw [ew_1, List.getElem?_set_ne (by omega)]; exact hwd
  have hf1__m___10_ : w_1[(m + 10)]? = some (mI 0 9 waF) := by rw [ew_1, List.getElem?_set_ne (by omega)]; exact hwa
  have hF_1 : Fr m w w_1 := by rw [ew_1]; exact (Fr.set hF0 (by omega) (by omega))
  refine r_aload_n hC dX9_save_5 rfl (j := 0) rfl ?_
  refine r_get hC gX9_save_6 hf1_m (v := .ref (m + 3)) rfl ?_
  refine r_aload_n hC dX9_save_9 rfl (j := 0) rfl ?_
  refine r_get hC gX9_save_10 hf1_m (v := .ref (m + 1)) rfl ?_
  refine r_callS hC (vs := [.ref (m + 3), .ref (m + 1)]) vX9_save_13 (sm_lays (d := d) hf1__m___3_ hf1__m___1_ (by omega)) rfl (by omega) (by omega) (by omega) (Nat.le_of_ble_eq_true rfl) (fun v_2 w_2 hP_2 hlen_2 => ?_) (fun _ _ h => h.elim)
  obtain ⟨hv_2, ew_2⟩ := hP_2
  rw [hv_2]
  have hf2_m : w_2[m]? = some (mO 10 [.int 0, .int (nI l.length), .int ea, .int fa, .int (bI so.isSome), .ref (m + 1), .ref (m + 2), .ref (m + 3), .ref (m + 4), .ref (m + 5), .ref (m + 6), .ref (m + 7), .ref (m + 8), .ref (m + 9), .ref (m + 10), .int (nI tn), .int he, .int en, .int (nI ln), .int iw, .int id0]) := by rw [ew_2, List.getElem?_set_ne (by omega)]; exact hf1_m
  have hf2__m___1_ : w_2[(m + 1)]? = some (mI 0 67 (enc ((f, g, sl, op, lo), hd, rs, np, tp, av, lg, pl, tk))) := by rw [ew_2, List.getElem?_set_ne (by omega)]; exact hf1__m___1_
  have hf2__m___2_ : w_2[(m + 2)]? = some (mI 0 67 bf) := by rw [ew_2, List.getElem?_set_ne (by omega)]; exact hf1__m___2_
  have hf2__m___3_ : w_2[(m + 3)]? = some (mI 0 67 (enc ((f, g, sl, op, lo), hd, rs, np, tp, av, lg, pl, tk))) := by rw [ew_2]; exact List.getElem?_set_self (lt_of_get hf1__m___3_)
  have hf2__m___4_ : w_2[(m + 4)]? = some (mI 0 67 kf) := by rw [ew_2, List.getElem?_set_ne (by omega)]; exact hf1__m___4_
  have hf2__m___5_ : w_2[(m + 5)]? = some (mI 0 536 pf) := by rw [ew_2, List.getElem?_set_ne (by omega)]; exact hf1__m___5_
  have hf2__m___6_ : w_2[(m + 6)]? = some (mI 0 60 tx) := by rw [ew_2, List.getElem?_set_ne (by omega)]; exact hf1__m___6_
  have hf2__m___7_ : w_2[(m + 7)]? = some (mI 0 40 lf) := by rw [ew_2, List.getElem?_set_ne (by omega)]; exact hf1__m___7_
  have hf2__m___8_ : w_2[(m + 8)]? = some (mI 0 8 lt) := by rw [ew_2, List.getElem?_set_ne (by omega)]; exact hf1__m___8_
  have hf2__m___9_ : w_2[(m + 9)]? = some (mI 0 41 wdF) := by rw [ew_2, List.getElem?_set_ne (by omega)]; exact hf1__m___9_
  have hf2__m___10_ : w_2[(m + 10)]? = some (mI 0 9 waF) := by rw [ew_2, List.getElem?_set_ne (by omega)]; exact hf1__m___10_
  have hF_2 : Fr m w w_2 := by rw [ew_2]; exact (Fr.set hF_1 (by omega) (by omega))
  show Wp X 0 0 w_2 [(0, .ref m)] [] 16
  refine r_aload_n hC dX9_save_16 rfl (j := 0) rfl ?_
  refine r_iconst hC dX9_save_17 (v := 1) (by decide) ?_
  refine r_put' hC pX9_save_18 hf2_m (Nat.le_of_ble_eq_true rfl) (fun _ => rfl) (fun _ => rfl) (fun w_3 ew_3 => ?_)
  replace ew_3 : w_3 = (w_2).set (m) (mO 10 [.int 0, .int (nI l.length), .int ea, .int fa, .int 1, .ref (m + 1), .ref (m + 2), .ref (m + 3), .ref (m + 4), .ref (m + 5), .ref (m + 6), .ref (m + 7), .ref (m + 8), .ref (m + 9), .ref (m + 10), .int (nI tn), .int he, .int en, .int (nI ln), .int iw, .int id0]) := ew_3
  have hf3_m : w_3[m]? = some (mO 10 [.int 0, .int (nI l.length), .int ea, .int fa, .int 1, .ref (m + 1), .ref (m + 2), .ref (m + 3), .ref (m + 4), .ref (m + 5), .ref (m + 6), .ref (m + 7), .ref (m + 8), .ref (m + 9), .ref (m + 10), .int (nI tn), .int he, .int en, .int (nI ln), .int iw, .int id0]) := by rw [ew_3]; exact List.getElem?_set_self (lt_of_get hf2_m)
  have hf3__m___1_ : w_3[(m + 1)]? = some (mI 0 67 (enc ((f, g, sl, op, lo), hd, rs, np, tp, av, lg, pl, tk))) := by rw [ew_3, List.getElem?_set_ne (by omega)]; exact hf2__m___1_
  have hf3__m___2_ : w_3[(m + 2)]? = some (mI 0 67 bf) := by rw [ew_3, List.getElem?_set_ne (by omega)]; exact hf2__m___2_
  have hf3__m___3_ : w_3[(m + 3)]? = some (mI 0 67 (enc ((f, g, sl, op, lo), hd, rs, np, tp, av, lg, pl, tk))) := by rw [ew_3, List.getElem?_set_ne (by omega)]; exact hf2__m___3_
  have hf3__m___4_ : w_3[(m + 4)]? = some (mI 0 67 kf) := by rw [ew_3, List.getElem?_set_ne (by omega)]; exact hf2__m___4_
  have hf3__m___5_ : w_3[(m + 5)]? = some (mI 0 536 pf) := by rw [ew_3, List.getElem?_set_ne (by omega)]; exact hf2__m___5_
  have hf3__m___6_ : w_3[(m + 6)]? = some (mI 0 60 tx) := by rw [ew_3, List.getElem?_set_ne (by omega)]; exact hf2__m___6_
  have hf3__m___7_ : w_3[(m + 7)]? = some (mI 0 40 lf) := by rw [ew_3, List.getElem?_set_ne (by omega)]; exact hf2__m___7_
  have hf3__m___8_ : w_3[(m + 8)]? = some (mI 0 8 lt) := by rw [ew_3, List.getElem?_set_ne (by omega)]; exact hf2__m___8_
  have hf3__m___9_ : w_3[(m + 9)]? = some (mI 0 41 wdF) := by rw [ew_3, List.getElem?_set_ne (by omega)]; exact hf2__m___9_
  have hf3__m___10_ : w_3[(m + 10)]? = some (mI 0 9 waF) := by rw [ew_3, List.getElem?_set_ne (by omega)]; exact hf2__m___10_
  have hF_3 : Fr m w w_3 := by rw [ew_3]; exact (Fr.set hF_2 (by omega) (by omega))
  refine r_aload_n hC dX9_save_21 rfl (j := 0) rfl ?_
  refine r_callV hC (vs := []) vX9_save_22 (sm_stones (d := d) hf3_m hf3__m___1_) hf3_m rfl rfl (by omega) (by omega) (by omega) (Nat.le_of_ble_eq_true rfl) (fun v_4 w_4 hP_4 hlen_4 => ?_) (fun _ _ h => h.elim)
  rw [hP_4.1, hP_4.2]
  show Wp X 0 0 w_3 [(0, .ref m)] [.int (hSum f 25)] 25
  refine r_iret hC hE hR dX9_save_25 (by omega) (by omega) (hF_3.1) ?_
  exact ⟨rfl, ⟨⟨_, _, _, _, _, _, _, _, _, hf3_m, hf3__m___1_, hf3__m___2_, hf3__m___3_, hf3__m___4_, hf3__m___5_, hf3__m___6_, hf3__m___7_, hf3__m___8_, hf3__m___9_, hf3__m___10_, hpo, (fun ys z => by cases z; rfl)⟩, hF_3⟩⟩
set_option maxRecDepth 100000 in
set_option maxHeartbeats 4000000 in
theorem sm_restore1 {d : Nat} {f2 g2 : Nat → Int32} {sl2 op2 lo2 : Int32} {hd2 rs2 : Nat → Int32} {np2 : Nat} {tp2 av2 lg2 pl2 tk2 : Int32} {w : mW} {m : Nat} {th : Int32} {f g : Nat → Int32} {sl op lo : Int32} {hd rs : Nat → Int32} {np : Nat} {tp av lg pl tk : Int32} {l : List sv} {ea fa : Int32} {so : Option sv} {tx : Nat → Int32} {tn : Nat} {lf : Nat → Int32} {ln : Nat} (H : MdAt w m th ((f, g, sl, op, lo), hd, rs, np, tp, av, lg, pl, tk) l ea fa so tx tn lf ln) (hs9 : so = some ((f2, g2, sl2, op2, lo2), hd2, rs2, np2, tp2, av2, lg2, pl2, tk2)) : Sp (d + 1) yX9_restore cX9_restore 1 (some .int) [.ref m] w 0 0 (fun v w' => (v = some (.int (hSum f2 25)) ∧ MdTo w w' m 0 ((f2, g2, sl2, op2, lo2), hd2, rs2, np2, tp2, av2, lg2, pl2, tk2) ([] : List sv) ea fa so tx tn lf ln)) noX := by
  refine Sp.of (by decide +kernel) (Nat.le_of_ble_eq_true rfl) (fun X hC hnl hE hR hN => ?_)
  have hC : Cx X RX9 cX9_restore (d + 1) 0 0 := hC
  show Wp X 0 0 w [(0, .ref m)] [] 0
  obtain ⟨he, en, iw, id0, bf, sf, kf, pf, lt, hm, hv, hbf, hsf, hkf, hpf, htx, hlf, hlt, hwd, hwa, hpo, hso⟩ := H
  have hF0 : Fr m w w := Fr.rfl
  have hso2 := hso _ hs9
  refine r_aload_n hC dX9_restore_0 rfl (j := 0) rfl ?_
  refine r_aload_n hC dX9_restore_1 rfl (j := 0) rfl ?_
  refine r_get hC gX9_restore_2 hm (v := .int (bI so.isSome)) rfl ?_
  rw [show bI so.isSome = 1 by rw [hs9]; rfl]
  refine r_if_eq hC dX9_restore_5 (tgt := 12) (by decide) (fun h => absurd h (by decide)) (fun _ => ?_)
  refine r_iconst hC dX9_restore_8 (v := 0) (by decide) ?_
  refine r_goto hC dX9_restore_9 (tgt := 13) (by decide) ?_
  refine r_put' hC pX9_restore_13 hm (Nat.le_of_ble_eq_true rfl) (fun _ => rfl) (fun _ => rfl) (fun w_1 ew_1 => ?_)
  replace ew_1 : w_1 = (w).set (m) (mO 10 [.int 0, .int (nI l.length), .int ea, .int fa, .int (bI so.isSome), .ref (m + 1), .ref (m + 2), .ref (m + 3), .ref (m + 4), .ref (m + 5), .ref (m + 6), .ref (m + 7), .ref (m + 8), .ref (m + 9), .ref (m + 10), .int (nI tn), .int he, .int en, .int (nI ln), .int iw, .int id0]) := ew_1
  have hf1_m : w_1[m]? = some (mO 10 [.int 0, .int (nI l.length), .int ea, .int fa, .int (bI so.isSome), .ref (m + 1), .ref (m + 2), .ref (m + 3), .ref (m + 4), .ref (m + 5), .ref (m + 6), .ref (m + 7), .ref (m + 8), .ref (m + 9), .ref (m + 10), .int (nI tn), .int he, .int en, .int (nI ln), .int iw, .int id0]) := by rw [ew_1]; exact List.getElem?_set_self (lt_of_get hm)
  have hf1__m___1_ : w_1[(m + 1)]? = some (mI 0 67 (enc ((f, g, sl, op, lo), hd, rs, np, tp, av, lg, pl, tk))) := by rw [ew_1, List.getElem?_set_ne (by omega)]; exact hv
  have hf1__m___2_ : w_1[(m + 2)]? = some (mI 0 67 bf) := by rw [ew_1, List.getElem?_set_ne (by omega)]; exact hbf
  have hf1__m___3_ : w_1[(m + 3)]? = some (mI 0 67 sf) := by rw [ew_1, List.getElem?_set_ne (by omega)]; exact hsf
  have hf1__m___4_ : w_1[(m + 4)]? = some (mI 0 67 kf) := by rw [ew_1, List.getElem?_set_ne (by omega)]; exact hkf
  have hf1__m___5_ : w_1[(m + 5)]? = some (mI 0 536 pf) := by rw [ew_1, List.getElem?_set_ne (by omega)]; exact hpf
  have hf1__m___6_ : w_1[(m + 6)]? = some (mI 0 60 tx) := by rw [ew_1, List.getElem?_set_ne (by omega)]; exact htx
  have hf1__m___7_ : w_1[(m + 7)]? = some (mI 0 40 lf) := by rw [ew_1, List.getElem?_set_ne (by omega)]; exact hlf
  have hf1__m___8_ : w_1[(m + 8)]? = some (mI 0 8 lt) := by rw [ew_1, List.getElem?_set_ne (by omega)]; exact hlt
  have hf1__m___9_ : w_1[(m + 9)]? = some (mI 0 41 wdF) := by rw [ew_1, List.getElem?_set_ne (by omega)]; exact hwd
  have hf1__m___10_ : w_1[(m + 10)]? = some (mI 0 9 waF) := by rw [ew_1, List.getElem?_set_ne (by omega)]; exact hwa
  have hF_1 : Fr m w w_1 := by rw [ew_1]; exact (Fr.set hF0 (by omega) (by omega))
  refine r_aload_n hC dX9_restore_16 rfl (j := 0) rfl ?_
  refine r_get hC gX9_restore_17 hf1_m (v := .int 0) rfl ?_
  refine r_if_eq hC dX9_restore_20 (tgt := 25) (by decide) (fun _ => ?_) (fun h => absurd (by decide) h)
  refine r_aload_n hC dX9_restore_25 rfl (j := 0) rfl ?_
  refine r_get hC gX9_restore_26 hf1_m (v := .ref (m + 1)) rfl ?_
  refine r_aload_n hC dX9_restore_29 rfl (j := 0) rfl ?_
  refine r_get hC gX9_restore_30 hf1_m (v := .ref (m + 3)) rfl ?_
  refine r_callS hC (vs := [.ref (m + 1), .ref (m + 3)]) vX9_restore_33 (sm_lays (d := d) hf1__m___1_ (fb := enc ((f2, g2, sl2, op2, lo2), hd2, rs2, np2, tp2, av2, lg2, pl2, tk2)) (by rw [← hso2]; exact hf1__m___3_) (by omega)) rfl (by omega) (by omega) (by omega) (Nat.le_of_ble_eq_true rfl) (fun v_2 w_2 hP_2 hlen_2 => ?_) (fun _ _ h => h.elim)
  obtain ⟨hv_2, ew_2⟩ := hP_2
  rw [hv_2]
  have hf2_m : w_2[m]? = some (mO 10 [.int 0, .int (nI l.length), .int ea, .int fa, .int (bI so.isSome), .ref (m + 1), .ref (m + 2), .ref (m + 3), .ref (m + 4), .ref (m + 5), .ref (m + 6), .ref (m + 7), .ref (m + 8), .ref (m + 9), .ref (m + 10), .int (nI tn), .int he, .int en, .int (nI ln), .int iw, .int id0]) := by rw [ew_2, List.getElem?_set_ne (by omega)]; exact hf1_m
  have hf2__m___1_ : w_2[(m + 1)]? = some (mI 0 67 (enc ((f2, g2, sl2, op2, lo2), hd2, rs2, np2, tp2, av2, lg2, pl2, tk2))) := by rw [ew_2]; exact List.getElem?_set_self (lt_of_get hf1__m___1_)
  have hf2__m___2_ : w_2[(m + 2)]? = some (mI 0 67 bf) := by rw [ew_2, List.getElem?_set_ne (by omega)]; exact hf1__m___2_
  have hf2__m___3_ : w_2[(m + 3)]? = some (mI 0 67 sf) := by rw [ew_2, List.getElem?_set_ne (by omega)]; exact hf1__m___3_
  have hf2__m___4_ : w_2[(m + 4)]? = some (mI 0 67 kf) := by rw [ew_2, List.getElem?_set_ne (by omega)]; exact hf1__m___4_
  have hf2__m___5_ : w_2[(m + 5)]? = some (mI 0 536 pf) := by rw [ew_2, List.getElem?_set_ne (by omega)]; exact hf1__m___5_
  have hf2__m___6_ : w_2[(m + 6)]? = some (mI 0 60 tx) := by rw [ew_2, List.getElem?_set_ne (by omega)]; exact hf1__m___6_
  have hf2__m___7_ : w_2[(m + 7)]? = some (mI 0 40 lf) := by rw [ew_2, List.getElem?_set_ne (by omega)]; exact hf1__m___7_
  have hf2__m___8_ : w_2[(m + 8)]? = some (mI 0 8 lt) := by rw [ew_2, List.getElem?_set_ne (by omega)]; exact hf1__m___8_
  have hf2__m___9_ : w_2[(m + 9)]? = some (mI 0 41 wdF) := by rw [ew_2, List.getElem?_set_ne (by omega)]; exact hf1__m___9_
  have hf2__m___10_ : w_2[(m + 10)]? = some (mI 0 9 waF) := by rw [ew_2, List.getElem?_set_ne (by omega)]; exact hf1__m___10_
  have hF_2 : Fr m w w_2 := by rw [ew_2]; exact (Fr.set hF_1 (by omega) (by omega))
  show Wp X 0 0 w_2 [(0, .ref m)] [] 36
  refine r_aload_n hC dX9_restore_36 rfl (j := 0) rfl ?_
  refine r_iconst hC dX9_restore_37 (v := 0) (by decide) ?_
  refine r_put' hC pX9_restore_38 hf2_m (Nat.le_of_ble_eq_true rfl) (fun _ => rfl) (fun _ => rfl) (fun w_3 ew_3 => ?_)
  replace ew_3 : w_3 = (w_2).set (m) (mO 10 [.int 0, .int 0, .int ea, .int fa, .int (bI so.isSome), .ref (m + 1), .ref (m + 2), .ref (m + 3), .ref (m + 4), .ref (m + 5), .ref (m + 6), .ref (m + 7), .ref (m + 8), .ref (m + 9), .ref (m + 10), .int (nI tn), .int he, .int en, .int (nI ln), .int iw, .int id0]) := ew_3
  have hf3_m : w_3[m]? = some (mO 10 [.int 0, .int 0, .int ea, .int fa, .int (bI so.isSome), .ref (m + 1), .ref (m + 2), .ref (m + 3), .ref (m + 4), .ref (m + 5), .ref (m + 6), .ref (m + 7), .ref (m + 8), .ref (m + 9), .ref (m + 10), .int (nI tn), .int he, .int en, .int (nI ln), .int iw, .int id0]) := by rw [ew_3]; exact List.getElem?_set_self (lt_of_get hf2_m)
  have hf3__m___1_ : w_3[(m + 1)]? = some (mI 0 67 (enc ((f2, g2, sl2, op2, lo2), hd2, rs2, np2, tp2, av2, lg2, pl2, tk2))) := by rw [ew_3, List.getElem?_set_ne (by omega)]; exact hf2__m___1_
  have hf3__m___2_ : w_3[(m + 2)]? = some (mI 0 67 bf) := by rw [ew_3, List.getElem?_set_ne (by omega)]; exact hf2__m___2_
  have hf3__m___3_ : w_3[(m + 3)]? = some (mI 0 67 sf) := by rw [ew_3, List.getElem?_set_ne (by omega)]; exact hf2__m___3_
  have hf3__m___4_ : w_3[(m + 4)]? = some (mI 0 67 kf) := by rw [ew_3, List.getElem?_set_ne (by omega)]; exact hf2__m___4_
  have hf3__m___5_ : w_3[(m + 5)]? = some (mI 0 536 pf) := by rw [ew_3, List.getElem?_set_ne (by omega)]; exact hf2__m___5_
  have hf3__m___6_ : w_3[(m + 6)]? = some (mI 0 60 tx) := by rw [ew_3, List.getElem?_set_ne (by omega)]; exact hf2__m___6_
  have hf3__m___7_ : w_3[(m + 7)]? = some (mI 0 40 lf) := by rw [ew_3, List.getElem?_set_ne (by omega)]; exact hf2__m___7_
  have hf3__m___8_ : w_3[(m + 8)]? = some (mI 0 8 lt) := by rw [ew_3, List.getElem?_set_ne (by omega)]; exact hf2__m___8_
  have hf3__m___9_ : w_3[(m + 9)]? = some (mI 0 41 wdF) := by rw [ew_3, List.getElem?_set_ne (by omega)]; exact hf2__m___9_
  have hf3__m___10_ : w_3[(m + 10)]? = some (mI 0 9 waF) := by rw [ew_3, List.getElem?_set_ne (by omega)]; exact hf2__m___10_
  have hF_3 : Fr m w w_3 := by rw [ew_3]; exact (Fr.set hF_2 (by omega) (by omega))
  refine r_aload_n hC dX9_restore_41 rfl (j := 0) rfl ?_
  refine r_callV hC (vs := []) vX9_restore_42 (sm_stones (d := d) hf3_m hf3__m___1_) hf3_m rfl rfl (by omega) (by omega) (by omega) (Nat.le_of_ble_eq_true rfl) (fun v_4 w_4 hP_4 hlen_4 => ?_) (fun _ _ h => h.elim)
  rw [hP_4.1, hP_4.2]
  show Wp X 0 0 w_3 [(0, .ref m)] [.int (hSum f2 25)] 45
  refine r_iret hC hE hR dX9_restore_45 (by omega) (by omega) (hF_3.1) ?_
  exact ⟨rfl, ⟨⟨_, _, _, _, _, _, _, _, _, hf3_m, hf3__m___1_, hf3__m___2_, hf3__m___3_, hf3__m___4_, hf3__m___5_, hf3__m___6_, hf3__m___7_, hf3__m___8_, hf3__m___9_, hf3__m___10_, ⟨Nat.zero_le 8, fun i y h => by simp at h⟩, hso⟩, hF_3⟩⟩
set_option maxRecDepth 100000 in
set_option maxHeartbeats 4000000 in
theorem sm_restore0 {d : Nat} {w : mW} {m : Nat} {th : Int32} {f g : Nat → Int32} {sl op lo : Int32} {hd rs : Nat → Int32} {np : Nat} {tp av lg pl tk : Int32} {l : List sv} {ea fa : Int32} {so : Option sv} {tx : Nat → Int32} {tn : Nat} {lf : Nat → Int32} {ln : Nat} (H : MdAt w m th ((f, g, sl, op, lo), hd, rs, np, tp, av, lg, pl, tk) l ea fa so tx tn lf ln) (hs9 : so = none) : Sp (d + 1) yX9_restore cX9_restore 1 (some .int) [.ref m] w 0 0 (fun v w' => (v = some (.int 0) ∧ MdTo w w' m 1 ((f, g, sl, op, lo), hd, rs, np, tp, av, lg, pl, tk) l ea fa so tx tn lf ln)) noX := by
  refine Sp.of (by decide +kernel) (Nat.le_of_ble_eq_true rfl) (fun X hC hnl hE hR hN => ?_)
  have hC : Cx X RX9 cX9_restore (d + 1) 0 0 := hC
  show Wp X 0 0 w [(0, .ref m)] [] 0
  obtain ⟨he, en, iw, id0, bf, sf, kf, pf, lt, hm, hv, hbf, hsf, hkf, hpf, htx, hlf, hlt, hwd, hwa, hpo, hso⟩ := H
  have hF0 : Fr m w w := Fr.rfl
  refine r_aload_n hC dX9_restore_0 rfl (j := 0) rfl ?_
  refine r_aload_n hC dX9_restore_1 rfl (j := 0) rfl ?_
  refine r_get hC gX9_restore_2 hm (v := .int (bI so.isSome)) rfl ?_
  rw [show bI so.isSome = 0 by rw [hs9]; rfl]
  refine r_if_eq hC dX9_restore_5 (tgt := 12) (by decide) (fun _ => ?_) (fun h => absurd (by decide) h)
  refine r_iconst hC dX9_restore_12 (v := 1) (by decide) ?_
  refine r_put' hC pX9_restore_13 hm (Nat.le_of_ble_eq_true rfl) (fun _ => rfl) (fun _ => rfl) (fun w_1 ew_1 => ?_)
  replace ew_1 : w_1 = (w).set (m) (mO 10 [.int 1, .int (nI l.length), .int ea, .int fa, .int (bI so.isSome), .ref (m + 1), .ref (m + 2), .ref (m + 3), .ref (m + 4), .ref (m + 5), .ref (m + 6), .ref (m + 7), .ref (m + 8), .ref (m + 9), .ref (m + 10), .int (nI tn), .int he, .int en, .int (nI ln), .int iw, .int id0]) := ew_1
  have hf1_m : w_1[m]? = some (mO 10 [.int 1, .int (nI l.length), .int ea, .int fa, .int (bI so.isSome), .ref (m + 1), .ref (m + 2), .ref (m + 3), .ref (m + 4), .ref (m + 5), .ref (m + 6), .ref (m + 7), .ref (m + 8), .ref (m + 9), .ref (m + 10), .int (nI tn), .int he, .int en, .int (nI ln), .int iw, .int id0]) := by rw [ew_1]; exact List.getElem?_set_self (lt_of_get hm)
  have hf1__m___1_ : w_1[(m + 1)]? = some (mI 0 67 (enc ((f, g, sl, op, lo), hd, rs, np, tp, av, lg, pl, tk))) := by rw [ew_1, List.getElem?_set_ne (by omega)]; exact hv
  have hf1__m___2_ : w_1[(m + 2)]? = some (mI 0 67 bf) := by rw [ew_1, List.getElem?_set_ne (by omega)]; exact hbf
  have hf1__m___3_ : w_1[(m + 3)]? = some (mI 0 67 sf) := by rw [ew_1, List.getElem?_set_ne (by omega)]; exact hsf
  have hf1__m___4_ : w_1[(m + 4)]? = some (mI 0 67 kf) := by rw [ew_1, List.getElem?_set_ne (by omega)]; exact hkf
  have hf1__m___5_ : w_1[(m + 5)]? = some (mI 0 536 pf) := by rw [ew_1, List.getElem?_set_ne (by omega)]; exact hpf
  have hf1__m___6_ : w_1[(m + 6)]? = some (mI 0 60 tx) := by rw [ew_1, List.getElem?_set_ne (by omega)]; exact htx
  have hf1__m___7_ : w_1[(m + 7)]? = some (mI 0 40 lf) := by rw [ew_1, List.getElem?_set_ne (by omega)]; exact hlf
  have hf1__m___8_ : w_1[(m + 8)]? = some (mI 0 8 lt) := by rw [ew_1, List.getElem?_set_ne (by omega)]; exact hlt
  have hf1__m___9_ : w_1[(m + 9)]? = some (mI 0 41 wdF) := by rw [ew_1, List.getElem?_set_ne (by omega)]; exact hwd
  have hf1__m___10_ : w_1[(m + 10)]? = some (mI 0 9 waF) := by rw [ew_1, List.getElem?_set_ne (by omega)]; exact hwa
  have hF_1 : Fr m w w_1 := by rw [ew_1]; exact (Fr.set hF0 (by omega) (by omega))
  refine r_aload_n hC dX9_restore_16 rfl (j := 0) rfl ?_
  refine r_get hC gX9_restore_17 hf1_m (v := .int 1) rfl ?_
  refine r_if_eq hC dX9_restore_20 (tgt := 25) (by decide) (fun h => absurd h (by decide)) (fun _ => ?_)
  refine r_iconst hC dX9_restore_23 (v := 0) (by decide) ?_
  refine r_iret hC hE hR dX9_restore_24 (by omega) (by omega) (hF_1.1) ?_
  exact ⟨rfl, ⟨⟨_, _, _, _, _, _, _, _, _, hf1_m, hf1__m___1_, hf1__m___2_, hf1__m___3_, hf1__m___4_, hf1__m___5_, hf1__m___6_, hf1__m___7_, hf1__m___8_, hf1__m___9_, hf1__m___10_, hpo, hso⟩, hF_1⟩⟩
theorem past_get {q : Nat → Int32} {l : List sv} {y : sv} (h : PastOK q (l ++ [y])) {k : Nat} (hk : k < 67) : q (l.length * 67 + k) = enc y k := h.2 l.length y (by simp) k hk
theorem past_drop {q : Nat → Int32} {l : List sv} {y : sv} (h : PastOK q (l ++ [y])) : PastOK q l := ⟨by have := h.1; rw [List.length_append] at this; simp at this; omega, fun i z hi k hk => h.2 i z (by rw [List.getElem?_append_left (List.getElem?_eq_some_iff.mp hi).1]; exact hi) k hk⟩
set_option maxRecDepth 100000 in
set_option maxHeartbeats 4000000 in
theorem un_it {X : mC} {d : Nat} {w : mW} {c : Nat} {m n8 : Nat} {th ea fa sv0 tn he en ln iw id0 : Int32} {q F b : Nat → Int32} (hC : Cx X RX9 cX9_undo d 0 0) (hnl : mNL X = 2) (hv : w[m + 1]? = some (mI 0 67 (cpTo F b c))) (hm : w[m]? = some (mO 10 [.int th, .int (nI n8), .int ea, .int fa, .int sv0, .ref (m + 1), .ref (m + 2), .ref (m + 3), .ref (m + 4), .ref (m + 5), .ref (m + 6), .ref (m + 7), .ref (m + 8), .ref (m + 9), .ref (m + 10), .int tn, .int he, .int en, .int ln, .int iw, .int id0])) (hp : w[m + 5]? = some (mI 0 536 q)) (h8 : n8 < 8) (hq : ∀ k, k < 67 → q (n8 * 67 + k) = b k) (hc : c < 67) (kk : ∀ w', w' = w.set (m + 1) (mI 0 67 (cpTo F b (c + 1))) → Wp X 0 0 w' [(1, .int (nI (c + 1))), (0, .ref m)] [] 37) : Wp X 0 0 w [(1, .int (nI c)), (0, .ref m)] [] 37 := by
  refine r_iload_n hC dX9_undo_37 rfl (j := 0) rfl ?_
  refine r_bipush hC dX9_undo_38 (v := 67) (by decide) ?_
  refine r_icmp_ge hC dX9_undo_40 (tgt := 69) (by decide) (fun h => absurd h (lit_ge rfl hc (by decide))) (fun _ => ?_)
  refine r_aload_n hC dX9_undo_43 rfl (j := 1) rfl ?_
  refine r_get hC gX9_undo_44 hm (v := .ref (m + 1)) rfl ?_
  refine r_iload_n hC dX9_undo_47 rfl (j := 0) rfl ?_
  refine r_aload_n hC dX9_undo_48 rfl (j := 1) rfl ?_
  refine r_get hC gX9_undo_49 hm (v := .ref (m + 5)) rfl ?_
  refine r_aload_n hC dX9_undo_52 rfl (j := 1) rfl ?_
  refine r_get hC gX9_undo_53 hm (v := .int (nI n8)) rfl ?_
  refine r_bipush hC dX9_undo_56 (v := 67) (by decide) ?_
  refine r_imul hC dX9_undo_58 ?_
  refine r_iload_n hC dX9_undo_59 rfl (j := 0) rfl ?_
  refine r_iadd hC dX9_undo_60 ?_
  refine r_iald hC dX9_undo_61 (j := (n8 * 67 + c)) hp (ix67 h8 (by omega)) ?_
  rw [hq c hc]
  refine r_iast' hC dX9_undo_62 (j := c) hv (mIx_nI (by omega) (by decide)) (fun w_1 ew_1 => ?_)
  have hf1_m : w_1[m]? = some (mO 10 [.int th, .int (nI n8), .int ea, .int fa, .int sv0, .ref (m + 1), .ref (m + 2), .ref (m + 3), .ref (m + 4), .ref (m + 5), .ref (m + 6), .ref (m + 7), .ref (m + 8), .ref (m + 9), .ref (m + 10), .int tn, .int he, .int en, .int ln, .int iw, .int id0]) := by rw [ew_1, List.getElem?_set_ne (by omega)]; exact hm
  have hf1__m___1_ : w_1[(m + 1)]? = some (mI 0 67 (upd (cpTo F b c) c (b c))) := by rw [ew_1]; exact List.getElem?_set_self (lt_of_get hv)
  have hf1__m___5_ : w_1[(m + 5)]? = some (mI 0 536 q) := by rw [ew_1, List.getElem?_set_ne (by omega)]; exact hp
  refine r_iinc hC dX9_undo_63 (j := 0) rfl (v := nI (c + 1)) (nI_succ c).symm (by rw [hnl]; decide) (L' := [(1, .int (nI (c + 1))), (0, .ref m)]) rfl ?_
  refine r_goto hC dX9_undo_66 (tgt := 37) (by decide) ?_
  exact kk _ (by rw [ew_1, cpTo_upd])
set_option maxRecDepth 100000 in
theorem un_all {X : mC} {d : Nat} {w0 : mW} {m n8 : Nat} {th ea fa sv0 tn he en ln iw id0 : Int32} {q F b : Nat → Int32} (hC : Cx X RX9 cX9_undo d 0 0) (hnl : mNL X = 2) (hl0 : m + 1 < w0.length) (hm0 : w0[m]? = some (mO 10 [.int th, .int (nI n8), .int ea, .int fa, .int sv0, .ref (m + 1), .ref (m + 2), .ref (m + 3), .ref (m + 4), .ref (m + 5), .ref (m + 6), .ref (m + 7), .ref (m + 8), .ref (m + 9), .ref (m + 10), .int tn, .int he, .int en, .int ln, .int iw, .int id0])) (hp0 : w0[m + 5]? = some (mI 0 536 q)) (h8 : n8 < 8) (hq : ∀ k, k < 67 → q (n8 * 67 + k) = b k) (kk : ∀ w', w' = w0.set (m + 1) (mI 0 67 (cpTo F b 67)) → Wp X 0 0 w' [(1, .int (nI 67)), (0, .ref m)] [] 37) : ∀ (n c : Nat) (w : mW), c + n = 67 → w = w0.set (m + 1) (mI 0 67 (cpTo F b c)) → Wp X 0 0 w [(1, .int (nI c)), (0, .ref m)] [] 37 := by
  intro n
  induction n with
  | zero =>
    intro c w h9 e9
    obtain rfl : c = 67 := by omega
    exact kk w e9
  | succ n ih =>
    intro c w h9 e9
    refine un_it hC hnl (by rw [e9]; exact List.getElem?_set_self hl0) (by rw [e9, List.getElem?_set_ne (by omega)]; exact hm0) (by rw [e9, List.getElem?_set_ne (by omega)]; exact hp0) h8 hq (by omega) (fun w2 e2 => ih (c + 1) w2 (by omega) (by rw [e2, e9, List.set_set]))
set_option maxRecDepth 100000 in
set_option maxHeartbeats 4000000 in
theorem sm_undo0 {d : Nat} {w : mW} {m : Nat} {th : Int32} {f g : Nat → Int32} {sl op lo : Int32} {hd rs : Nat → Int32} {np : Nat} {tp av lg pl tk : Int32} {l : List sv} {ea fa : Int32} {so : Option sv} {tx : Nat → Int32} {tn : Nat} {lf : Nat → Int32} {ln : Nat} (H : MdAt w m th ((f, g, sl, op, lo), hd, rs, np, tp, av, lg, pl, tk) l ea fa so tx tn lf ln) (hl9 : l = []) : Sp d yX9_undo cX9_undo 2 (some .int) [.ref m] w 0 0 (fun v w' => (v = some (.int 0) ∧ MdTo w w' m 1 ((f, g, sl, op, lo), hd, rs, np, tp, av, lg, pl, tk) l ea fa so tx tn lf ln)) noX := by
  refine Sp.of (by decide +kernel) (Nat.le_of_ble_eq_true rfl) (fun X hC hnl hE hR hN => ?_)
  have hC : Cx X RX9 cX9_undo d 0 0 := hC
  show Wp X 0 0 w [(0, .ref m)] [] 0
  obtain ⟨he, en, iw, id0, bf, sf, kf, pf, lt, hm, hv, hbf, hsf, hkf, hpf, htx, hlf, hlt, hwd, hwa, hpo, hso⟩ := H
  have hF0 : Fr m w w := Fr.rfl
  refine r_aload_n hC dX9_undo_0 rfl (j := 0) rfl ?_
  refine r_aload_n hC dX9_undo_1 rfl (j := 0) rfl ?_
  refine r_get hC gX9_undo_2 hm (v := .int (nI l.length)) rfl ?_
  rw [show nI l.length = 0 by rw [hl9]; rfl]
  refine r_if_ne hC dX9_undo_5 (tgt := 12) (by decide) (fun h => absurd (by decide) h) (fun _ => ?_)
  refine r_iconst hC dX9_undo_8 (v := 1) (by decide) ?_
  refine r_goto hC dX9_undo_9 (tgt := 13) (by decide) ?_
  refine r_put' hC pX9_undo_13 hm (Nat.le_of_ble_eq_true rfl) (fun _ => rfl) (fun _ => rfl) (fun w_1 ew_1 => ?_)
  replace ew_1 : w_1 = (w).set (m) (mO 10 [.int 1, .int (nI l.length), .int ea, .int fa, .int (bI so.isSome), .ref (m + 1), .ref (m + 2), .ref (m + 3), .ref (m + 4), .ref (m + 5), .ref (m + 6), .ref (m + 7), .ref (m + 8), .ref (m + 9), .ref (m + 10), .int (nI tn), .int he, .int en, .int (nI ln), .int iw, .int id0]) := ew_1
  have hf1_m : w_1[m]? = some (mO 10 [.int 1, .int (nI l.length), .int ea, .int fa, .int (bI so.isSome), .ref (m + 1), .ref (m + 2), .ref (m + 3), .ref (m + 4), .ref (m + 5), .ref (m + 6), .ref (m + 7), .ref (m + 8), .ref (m + 9), .ref (m + 10), .int (nI tn), .int he, .int en, .int (nI ln), .int iw, .int id0]) := by rw [ew_1]; exact List.getElem?_set_self (lt_of_get hm)
  have hf1__m___1_ : w_1[(m + 1)]? = some (mI 0 67 (enc ((f, g, sl, op, lo), hd, rs, np, tp, av, lg, pl, tk))) := by rw [ew_1, List.getElem?_set_ne (by omega)]; exact hv
  have hf1__m___2_ : w_1[(m + 2)]? = some (mI 0 67 bf) := by rw [ew_1, List.getElem?_set_ne (by omega)]; exact hbf
  have hf1__m___3_ : w_1[(m + 3)]? = some (mI 0 67 sf) := by rw [ew_1, List.getElem?_set_ne (by omega)]; exact hsf
  have hf1__m___4_ : w_1[(m + 4)]? = some (mI 0 67 kf) := by rw [ew_1, List.getElem?_set_ne (by omega)]; exact hkf
  have hf1__m___5_ : w_1[(m + 5)]? = some (mI 0 536 pf) := by rw [ew_1, List.getElem?_set_ne (by omega)]; exact hpf
  have hf1__m___6_ : w_1[(m + 6)]? = some (mI 0 60 tx) := by rw [ew_1, List.getElem?_set_ne (by omega)]; exact htx
  have hf1__m___7_ : w_1[(m + 7)]? = some (mI 0 40 lf) := by rw [ew_1, List.getElem?_set_ne (by omega)]; exact hlf
  have hf1__m___8_ : w_1[(m + 8)]? = some (mI 0 8 lt) := by rw [ew_1, List.getElem?_set_ne (by omega)]; exact hlt
  have hf1__m___9_ : w_1[(m + 9)]? = some (mI 0 41 wdF) := by rw [ew_1, List.getElem?_set_ne (by omega)]; exact hwd
  have hf1__m___10_ : w_1[(m + 10)]? = some (mI 0 9 waF) := by rw [ew_1, List.getElem?_set_ne (by omega)]; exact hwa
  have hF_1 : Fr m w w_1 := by rw [ew_1]; exact (Fr.set hF0 (by omega) (by omega))
  refine r_aload_n hC dX9_undo_16 rfl (j := 0) rfl ?_
  refine r_get hC gX9_undo_17 hf1_m (v := .int 1) rfl ?_
  refine r_if_eq hC dX9_undo_20 (tgt := 25) (by decide) (fun h => absurd h (by decide)) (fun _ => ?_)
  refine r_iconst hC dX9_undo_23 (v := 0) (by decide) ?_
  refine r_iret hC hE hR dX9_undo_24 (by omega) (by omega) (hF_1.1) ?_
  exact ⟨rfl, ⟨⟨_, _, _, _, _, _, _, _, _, hf1_m, hf1__m___1_, hf1__m___2_, hf1__m___3_, hf1__m___4_, hf1__m___5_, hf1__m___6_, hf1__m___7_, hf1__m___8_, hf1__m___9_, hf1__m___10_, hpo, hso⟩, hF_1⟩⟩
set_option maxRecDepth 100000 in
set_option maxHeartbeats 4000000 in
theorem sm_undo1 {d : Nat} {w : mW} {m : Nat} {th : Int32} {f g : Nat → Int32} {sl op lo : Int32} {hd rs : Nat → Int32} {np : Nat} {tp av lg pl tk : Int32} {l : List sv} {ea fa : Int32} {so : Option sv} {tx : Nat → Int32} {tn : Nat} {lf : Nat → Int32} {ln : Nat} {f2 g2 : Nat → Int32} {sl2 op2 lo2 : Int32} {hd2 rs2 : Nat → Int32} {np2 : Nat} {tp2 av2 lg2 pl2 tk2 : Int32}  {l2 : List sv} (H : MdAt w m th ((f, g, sl, op, lo), hd, rs, np, tp, av, lg, pl, tk) l ea fa so tx tn lf ln) (hl9 : l = l2 ++ [((f2, g2, sl2, op2, lo2), hd2, rs2, np2, tp2, av2, lg2, pl2, tk2)]) : Sp d yX9_undo cX9_undo 2 (some .int) [.ref m] w 0 0 (fun v w' => v = some (.int (nI l2.length)) ∧ MdTo w w' m 0 ((f2, g2, sl2, op2, lo2), hd2, rs2, np2, tp2, av2, lg2, pl2, tk2) l2 ea fa so tx tn lf ln) noX := by
  refine Sp.of (by decide +kernel) (Nat.le_of_ble_eq_true rfl) (fun X hC hnl hE hR hN => ?_)
  have hC : Cx X RX9 cX9_undo d 0 0 := hC
  show Wp X 0 0 w [(0, .ref m)] [] 0
  obtain ⟨he, en, iw, id0, bf, sf, kf, pf, lt, hm, hv, hbf, hsf, hkf, hpf, htx, hlf, hlt, hwd, hwa, hpo, hso⟩ := H
  have hF0 : Fr m w w := Fr.rfl
  subst hl9
  have hle : l2.length < 8 := by have := hpo.1; rw [List.length_append] at this; simp at this; omega
  have hn1 : nI (l2 ++ [((f2, g2, sl2, op2, lo2), hd2, rs2, np2, tp2, av2, lg2, pl2, tk2)]).length = nI (l2.length + 1) := by rw [List.length_append]; rfl
  have hn2 : nI (l2.length + 1) - 1 = nI l2.length := by rw [nI_succ, Int32.add_sub_cancel]
  refine r_aload_n hC dX9_undo_0 rfl (j := 0) rfl ?_
  refine r_aload_n hC dX9_undo_1 rfl (j := 0) rfl ?_
  refine r_get hC gX9_undo_2 hm (v := .int (nI (l2 ++ [((f2, g2, sl2, op2, lo2), hd2, rs2, np2, tp2, av2, lg2, pl2, tk2)]).length)) rfl ?_
  rw [hn1]
  refine r_if_ne hC dX9_undo_5 (tgt := 12) (by decide) (fun _ => ?_) (fun h => absurd h (fun z => absurd ((nI_eq (b := 0) (by omega) (by decide)).mp z) (by omega)))
  refine r_iconst hC dX9_undo_12 (v := 0) (by decide) ?_
  refine r_put' hC pX9_undo_13 hm (Nat.le_of_ble_eq_true rfl) (fun _ => rfl) (fun _ => rfl) (fun w_1 ew_1 => ?_)
  replace ew_1 : w_1 = (w).set (m) (mO 10 [.int 0, .int (nI (l2 ++ [((f2, g2, sl2, op2, lo2), hd2, rs2, np2, tp2, av2, lg2, pl2, tk2)]).length), .int ea, .int fa, .int (bI so.isSome), .ref (m + 1), .ref (m + 2), .ref (m + 3), .ref (m + 4), .ref (m + 5), .ref (m + 6), .ref (m + 7), .ref (m + 8), .ref (m + 9), .ref (m + 10), .int (nI tn), .int he, .int en, .int (nI ln), .int iw, .int id0]) := ew_1
  have hf1_m : w_1[m]? = some (mO 10 [.int 0, .int (nI (l2 ++ [((f2, g2, sl2, op2, lo2), hd2, rs2, np2, tp2, av2, lg2, pl2, tk2)]).length), .int ea, .int fa, .int (bI so.isSome), .ref (m + 1), .ref (m + 2), .ref (m + 3), .ref (m + 4), .ref (m + 5), .ref (m + 6), .ref (m + 7), .ref (m + 8), .ref (m + 9), .ref (m + 10), .int (nI tn), .int he, .int en, .int (nI ln), .int iw, .int id0]) := by rw [ew_1]; exact List.getElem?_set_self (lt_of_get hm)
  have hf1__m___1_ : w_1[(m + 1)]? = some (mI 0 67 (enc ((f, g, sl, op, lo), hd, rs, np, tp, av, lg, pl, tk))) := by rw [ew_1, List.getElem?_set_ne (by omega)]; exact hv
  have hf1__m___2_ : w_1[(m + 2)]? = some (mI 0 67 bf) := by rw [ew_1, List.getElem?_set_ne (by omega)]; exact hbf
  have hf1__m___3_ : w_1[(m + 3)]? = some (mI 0 67 sf) := by rw [ew_1, List.getElem?_set_ne (by omega)]; exact hsf
  have hf1__m___4_ : w_1[(m + 4)]? = some (mI 0 67 kf) := by rw [ew_1, List.getElem?_set_ne (by omega)]; exact hkf
  have hf1__m___5_ : w_1[(m + 5)]? = some (mI 0 536 pf) := by rw [ew_1, List.getElem?_set_ne (by omega)]; exact hpf
  have hf1__m___6_ : w_1[(m + 6)]? = some (mI 0 60 tx) := by rw [ew_1, List.getElem?_set_ne (by omega)]; exact htx
  have hf1__m___7_ : w_1[(m + 7)]? = some (mI 0 40 lf) := by rw [ew_1, List.getElem?_set_ne (by omega)]; exact hlf
  have hf1__m___8_ : w_1[(m + 8)]? = some (mI 0 8 lt) := by rw [ew_1, List.getElem?_set_ne (by omega)]; exact hlt
  have hf1__m___9_ : w_1[(m + 9)]? = some (mI 0 41 wdF) := by rw [ew_1, List.getElem?_set_ne (by omega)]; exact hwd
  have hf1__m___10_ : w_1[(m + 10)]? = some (mI 0 9 waF) := by rw [ew_1, List.getElem?_set_ne (by omega)]; exact hwa
  have hF_1 : Fr m w w_1 := by rw [ew_1]; exact (Fr.set hF0 (by omega) (by omega))
  refine r_aload_n hC dX9_undo_16 rfl (j := 0) rfl ?_
  refine r_get hC gX9_undo_17 hf1_m (v := .int 0) rfl ?_
  refine r_if_eq hC dX9_undo_20 (tgt := 25) (by decide) (fun _ => ?_) (fun h => absurd (by decide) h)
  refine r_aload_n hC dX9_undo_25 rfl (j := 0) rfl ?_
  refine r_dup hC dX9_undo_26 rfl ?_
  refine r_get hC gX9_undo_27 hf1_m (v := .int (nI (l2 ++ [((f2, g2, sl2, op2, lo2), hd2, rs2, np2, tp2, av2, lg2, pl2, tk2)]).length)) rfl ?_
  rw [hn1]
  refine r_iconst hC dX9_undo_30 (v := 1) (by decide) ?_
  refine r_isub hC dX9_undo_31 ?_
  rw [hn2]
  refine r_put' hC pX9_undo_32 hf1_m (Nat.le_of_ble_eq_true rfl) (fun _ => rfl) (fun _ => rfl) (fun w_2 ew_2 => ?_)
  replace ew_2 : w_2 = (w_1).set (m) (mO 10 [.int 0, .int (nI l2.length), .int ea, .int fa, .int (bI so.isSome), .ref (m + 1), .ref (m + 2), .ref (m + 3), .ref (m + 4), .ref (m + 5), .ref (m + 6), .ref (m + 7), .ref (m + 8), .ref (m + 9), .ref (m + 10), .int (nI tn), .int he, .int en, .int (nI ln), .int iw, .int id0]) := ew_2
  have hf2_m : w_2[m]? = some (mO 10 [.int 0, .int (nI l2.length), .int ea, .int fa, .int (bI so.isSome), .ref (m + 1), .ref (m + 2), .ref (m + 3), .ref (m + 4), .ref (m + 5), .ref (m + 6), .ref (m + 7), .ref (m + 8), .ref (m + 9), .ref (m + 10), .int (nI tn), .int he, .int en, .int (nI ln), .int iw, .int id0]) := by rw [ew_2]; exact List.getElem?_set_self (lt_of_get hf1_m)
  have hf2__m___1_ : w_2[(m + 1)]? = some (mI 0 67 (enc ((f, g, sl, op, lo), hd, rs, np, tp, av, lg, pl, tk))) := by rw [ew_2, List.getElem?_set_ne (by omega)]; exact hf1__m___1_
  have hf2__m___2_ : w_2[(m + 2)]? = some (mI 0 67 bf) := by rw [ew_2, List.getElem?_set_ne (by omega)]; exact hf1__m___2_
  have hf2__m___3_ : w_2[(m + 3)]? = some (mI 0 67 sf) := by rw [ew_2, List.getElem?_set_ne (by omega)]; exact hf1__m___3_
  have hf2__m___4_ : w_2[(m + 4)]? = some (mI 0 67 kf) := by rw [ew_2, List.getElem?_set_ne (by omega)]; exact hf1__m___4_
  have hf2__m___5_ : w_2[(m + 5)]? = some (mI 0 536 pf) := by rw [ew_2, List.getElem?_set_ne (by omega)]; exact hf1__m___5_
  have hf2__m___6_ : w_2[(m + 6)]? = some (mI 0 60 tx) := by rw [ew_2, List.getElem?_set_ne (by omega)]; exact hf1__m___6_
  have hf2__m___7_ : w_2[(m + 7)]? = some (mI 0 40 lf) := by rw [ew_2, List.getElem?_set_ne (by omega)]; exact hf1__m___7_
  have hf2__m___8_ : w_2[(m + 8)]? = some (mI 0 8 lt) := by rw [ew_2, List.getElem?_set_ne (by omega)]; exact hf1__m___8_
  have hf2__m___9_ : w_2[(m + 9)]? = some (mI 0 41 wdF) := by rw [ew_2, List.getElem?_set_ne (by omega)]; exact hf1__m___9_
  have hf2__m___10_ : w_2[(m + 10)]? = some (mI 0 9 waF) := by rw [ew_2, List.getElem?_set_ne (by omega)]; exact hf1__m___10_
  have hF_2 : Fr m w w_2 := by rw [ew_2]; exact (Fr.set hF_1 (by omega) (by omega))
  refine r_iconst hC dX9_undo_35 (v := 0) (by decide) ?_
  refine r_istore_n hC dX9_undo_36 rfl (by rw [hnl]; decide) (L' := [(1, .int 0), (0, .ref m)]) rfl ?_
  refine un_all (n8 := l2.length) (q := pf) (F := enc ((f, g, sl, op, lo), hd, rs, np, tp, av, lg, pl, tk)) (b := enc ((f2, g2, sl2, op2, lo2), hd2, rs2, np2, tp2, av2, lg2, pl2, tk2)) (w0 := w_2) hC hnl (lt_of_get hf2__m___1_) hf2_m hf2__m___5_ hle (fun k hk => past_get hpo hk) (fun w9 e9 => ?_) 67 0 w_2 rfl (set_same (by rw [show cpTo (enc ((f, g, sl, op, lo), hd, rs, np, tp, av, lg, pl, tk)) (enc ((f2, g2, sl2, op2, lo2), hd2, rs2, np2, tp2, av2, lg2, pl2, tk2)) 0 = enc ((f, g, sl, op, lo), hd, rs, np, tp, av, lg, pl, tk) from funext (fun j => if_neg (Nat.not_lt_zero j))]; exact hf2__m___1_)).symm
  refine r_arrEq (t := 0) (a := m + 1) (N := 67) (f := cpTo (enc ((f, g, sl, op, lo), hd, rs, np, tp, av, lg, pl, tk)) (enc ((f2, g2, sl2, op2, lo2), hd2, rs2, np2, tp2, av2, lg2, pl2, tk2)) 67) (f' := enc ((f2, g2, sl2, op2, lo2), hd2, rs2, np2, tp2, av2, lg2, pl2, tk2)) (by rw [e9]; exact List.getElem?_set_self (lt_of_get hf2__m___1_)) (fun j hj => (if_pos hj).symm) ?_
  rw [e9, List.set_set]
  obtain ⟨w_90, ew_90⟩ : ∃ w_90, w_90 = w_2.set (m + 1) (mI 0 67 (enc ((f2, g2, sl2, op2, lo2), hd2, rs2, np2, tp2, av2, lg2, pl2, tk2))) := ⟨_, rfl⟩
  rw [← ew_90]
  have hf90_m : w_90[m]? = some (mO 10 [.int 0, .int (nI l2.length), .int ea, .int fa, .int (bI so.isSome), .ref (m + 1), .ref (m + 2), .ref (m + 3), .ref (m + 4), .ref (m + 5), .ref (m + 6), .ref (m + 7), .ref (m + 8), .ref (m + 9), .ref (m + 10), .int (nI tn), .int he, .int en, .int (nI ln), .int iw, .int id0]) := by rw [ew_90, List.getElem?_set_ne (by omega)]; exact hf2_m
  have hf90__m___1_ : w_90[(m + 1)]? = some (mI 0 67 (enc ((f2, g2, sl2, op2, lo2), hd2, rs2, np2, tp2, av2, lg2, pl2, tk2))) := by rw [ew_90]; exact List.getElem?_set_self (lt_of_get hf2__m___1_)
  have hf90__m___2_ : w_90[(m + 2)]? = some (mI 0 67 bf) := by rw [ew_90, List.getElem?_set_ne (by omega)]; exact hf2__m___2_
  have hf90__m___3_ : w_90[(m + 3)]? = some (mI 0 67 sf) := by rw [ew_90, List.getElem?_set_ne (by omega)]; exact hf2__m___3_
  have hf90__m___4_ : w_90[(m + 4)]? = some (mI 0 67 kf) := by rw [ew_90, List.getElem?_set_ne (by omega)]; exact hf2__m___4_
  have hf90__m___5_ : w_90[(m + 5)]? = some (mI 0 536 pf) := by rw [ew_90, List.getElem?_set_ne (by omega)]; exact hf2__m___5_
  have hf90__m___6_ : w_90[(m + 6)]? = some (mI 0 60 tx) := by rw [ew_90, List.getElem?_set_ne (by omega)]; exact hf2__m___6_
  have hf90__m___7_ : w_90[(m + 7)]? = some (mI 0 40 lf) := by rw [ew_90, List.getElem?_set_ne (by omega)]; exact hf2__m___7_
  have hf90__m___8_ : w_90[(m + 8)]? = some (mI 0 8 lt) := by rw [ew_90, List.getElem?_set_ne (by omega)]; exact hf2__m___8_
  have hf90__m___9_ : w_90[(m + 9)]? = some (mI 0 41 wdF) := by rw [ew_90, List.getElem?_set_ne (by omega)]; exact hf2__m___9_
  have hf90__m___10_ : w_90[(m + 10)]? = some (mI 0 9 waF) := by rw [ew_90, List.getElem?_set_ne (by omega)]; exact hf2__m___10_
  have hF_90 : Fr m w w_90 := by rw [ew_90]; exact (Fr.set hF_2 (by omega) (by omega))
  refine r_iload_n hC dX9_undo_37 rfl (j := 0) rfl ?_
  refine r_bipush hC dX9_undo_38 (v := 67) (by decide) ?_
  refine r_icmp_ge hC dX9_undo_40 (tgt := 69) (by decide) (fun _ => ?_) (fun h => absurd (lit_le rfl (Nat.le_refl 67) (by decide)) h)
  refine r_aload_n hC dX9_undo_69 rfl (j := 1) rfl ?_
  refine r_get hC gX9_undo_70 hf90_m (v := .int (nI l2.length)) rfl ?_
  refine r_iret hC hE hR dX9_undo_73 (by omega) (by omega) (hF_90.1) ?_
  exact ⟨rfl, ⟨⟨_, _, _, _, _, _, _, _, _, hf90_m, hf90__m___1_, hf90__m___2_, hf90__m___3_, hf90__m___4_, hf90__m___5_, hf90__m___6_, hf90__m___7_, hf90__m___8_, hf90__m___9_, hf90__m___10_, (past_drop hpo), hso⟩, hF_90⟩⟩
end MD13
