section MD11
set_option maxRecDepth 100000 in
set_option maxHeartbeats 4000000 in
theorem sm_isTop0 {d : Nat} {w : mW} {m : Nat} {th ch ea fa sv0 tn he en ln iw id0 : Int32} {f g : Nat → Int32} {sl op lo : Int32} {hd rs : Nat → Int32} {np : Nat} {tp av lg pl tk : Int32} (hm : w[m]? = some (mO 10 [.int th, .int ch, .int ea, .int fa, .int sv0, .ref (m + 1), .ref (m + 2), .ref (m + 3), .ref (m + 4), .ref (m + 5), .ref (m + 6), .ref (m + 7), .ref (m + 8), .ref (m + 9), .ref (m + 10), .int tn, .int he, .int en, .int ln, .int iw, .int id0])) (hv : w[m + 1]? = some (mI 0 67 (enc ((f, g, sl, op, lo), hd, rs, np, tp, av, lg, pl, tk)))) (h25 : f 25 = 0) (hpos : ∀ j, j < 25 → ¬ f j < 0) : Sp d yX9_isTop cX9_isTop 4 (some .boolean) [.ref m, .int 0] w 0 0 (fun v w' => v = some (.int (bI (hPeak f 0))) ∧ w' = w) noX := by
  refine Sp.of (by decide +kernel) (Nat.le_of_ble_eq_true rfl) (fun X hC hnl hE hR hN => ?_)
  have hC : Cx X RX9 cX9_isTop d 0 0 := hC
  show Wp X 0 0 w [(0, .ref m), (1, .int 0)] [] 0
  refine r_aload_n hC dX9_isTop_0 rfl (j := 0) rfl ?_
  refine r_get hC gX9_isTop_1 hm (v := .ref (m + 1)) rfl ?_
  refine r_bipush hC dX9_isTop_4 (v := 17) (by decide) ?_
  refine r_iload_n hC dX9_isTop_6 rfl (j := 1) rfl ?_
  refine r_iadd hC dX9_isTop_7 ?_
  rw [show (17 + 0 : Int32) = 17 from by decide]
  refine r_iald hC dX9_isTop_8 (j := 17) hv ⟨by decide, by decide, by decide⟩ ?_
  rw [show enc ((f, g, sl, op, lo), hd, rs, np, tp, av, lg, pl, tk) 17 = f 0 from enc_hi (c := 0) (by decide)]
  refine r_istore_n hC dX9_isTop_9 rfl (by rw [hnl]; decide) (L' := [(2, .int (f 0)), (0, .ref m), (1, .int 0)]) rfl ?_
  refine r_iload_n hC dX9_isTop_10 rfl (j := 0) rfl ?_
  refine r_if_le hC dX9_isTop_11 (tgt := 59) (by decide) (fun c11 => ?_) (fun c11 => ?_)
  · refine r_iconst hC dX9_isTop_59 (v := 0) (by decide) ?_
    refine r_istore_n hC dX9_isTop_60 rfl (by rw [hnl]; decide) (L' := [(3, .int 0), (2, .int (f 0)), (0, .ref m), (1, .int 0)]) rfl ?_
    refine r_iload_n hC dX9_isTop_61 rfl (j := 0) rfl ?_
    refine r_if_eq hC dX9_isTop_62 (tgt := 112) (by decide) (fun _ => ?_) (fun h => absurd (by decide) h)
    refine r_iconst hC dX9_isTop_112 (v := 0) (by decide) ?_
    refine r_nret hC hE hR dX9_isTop_113 (by decide) (by omega) (by omega) (rfl) ?_
    have z1 : f 0 = 0 := Int32.le_antisymm c11 (Int32.not_lt.mp (hpos 0 (by decide)))
    have e9 : hPeak f 0 = false := by
      unfold hPeak
      rw [z1]
      rfl
    exact ⟨by rw [e9]; rfl, rfl⟩
  · refine r_iload_n hC dX9_isTop_14 rfl (j := 2) rfl ?_
    refine r_iconst hC dX9_isTop_15 (v := 5) (by decide) ?_
    refine r_icmp_lt hC dX9_isTop_16 (tgt := 34) (by decide) (fun _ => ?_) (fun h => absurd (by decide) h)
    refine r_iload_n hC dX9_isTop_34 rfl (j := 2) rfl ?_
    refine r_bipush hC dX9_isTop_35 (v := 20) (by decide) ?_
    refine r_icmp_ge hC dX9_isTop_37 (tgt := 55) (by decide) (fun h => absurd h (by decide)) (fun _ => ?_)
    refine r_iload_n hC dX9_isTop_40 rfl (j := 0) rfl ?_
    refine r_aload_n hC dX9_isTop_41 rfl (j := 1) rfl ?_
    refine r_get hC gX9_isTop_42 hm (v := .ref (m + 1)) rfl ?_
    refine r_bipush hC dX9_isTop_45 (v := 17) (by decide) ?_
    refine r_iload_n hC dX9_isTop_47 rfl (j := 2) rfl ?_
    refine r_iadd hC dX9_isTop_48 ?_
    rw [show (17 + 0 : Int32) = 17 from by decide]
    refine r_iconst hC dX9_isTop_49 (v := 5) (by decide) ?_
    refine r_iadd hC dX9_isTop_50 ?_
    rw [show (17 + 5 : Int32) = 22 from by decide]
    refine r_iald hC dX9_isTop_51 (j := 22) hv ⟨by decide, by decide, by decide⟩ ?_
    rw [show enc ((f, g, sl, op, lo), hd, rs, np, tp, av, lg, pl, tk) 22 = f 5 from enc_hi (c := 5) (by decide)]
    refine r_icmp_le hC dX9_isTop_52 (tgt := 59) (by decide) (fun c52 => ?_) (fun c52 => ?_)
    · refine r_iconst hC dX9_isTop_59 (v := 0) (by decide) ?_
      refine r_istore_n hC dX9_isTop_60 rfl (by rw [hnl]; decide) (L' := [(3, .int 0), (2, .int (f 0)), (0, .ref m), (1, .int 0)]) rfl ?_
      refine r_iload_n hC dX9_isTop_61 rfl (j := 0) rfl ?_
      refine r_if_eq hC dX9_isTop_62 (tgt := 112) (by decide) (fun _ => ?_) (fun h => absurd (by decide) h)
      refine r_iconst hC dX9_isTop_112 (v := 0) (by decide) ?_
      refine r_nret hC hE hR dX9_isTop_113 (by decide) (by omega) (by omega) (rfl) ?_
      have z0 : 0 < f 0 := Int32.not_le.mp c11
      have z1 : ¬ f 5 < f 0 := Int32.not_lt.mpr c52
      have e9 : hPeak f 0 = false := by
        unfold hPeak
        rw [show hNb 0 1 = 5 from by decide, decide_eq_false z1]
        simp
      exact ⟨by rw [e9]; rfl, rfl⟩
    · refine r_iconst hC dX9_isTop_55 (v := 1) (by decide) ?_
      refine r_goto hC dX9_isTop_56 (tgt := 60) (by decide) ?_
      refine r_istore_n hC dX9_isTop_60 rfl (by rw [hnl]; decide) (L' := [(3, .int 1), (2, .int (f 0)), (0, .ref m), (1, .int 0)]) rfl ?_
      refine r_iload_n hC dX9_isTop_61 rfl (j := 0) rfl ?_
      refine r_if_eq hC dX9_isTop_62 (tgt := 112) (by decide) (fun h => absurd h (by decide)) (fun _ => ?_)
      refine r_iload_n hC dX9_isTop_65 rfl (j := 3) rfl ?_
      refine r_iconst hC dX9_isTop_66 (v := 5) (by decide) ?_
      refine r_irem hC dX9_isTop_67 (by decide) ?_
      rw [show (0 - 0 / 5 * 5 : Int32) = 0 from by decide]
      refine r_if_eq hC dX9_isTop_68 (tgt := 86) (by decide) (fun _ => ?_) (fun h => absurd (by decide) h)
      refine r_iload_n hC dX9_isTop_86 rfl (j := 3) rfl ?_
      refine r_iconst hC dX9_isTop_87 (v := 5) (by decide) ?_
      refine r_irem hC dX9_isTop_88 (by decide) ?_
      rw [show (0 - 0 / 5 * 5 : Int32) = 0 from by decide]
      refine r_iconst hC dX9_isTop_89 (v := 4) (by decide) ?_
      refine r_icmp_eq hC dX9_isTop_90 (tgt := 108) (by decide) (fun h => absurd h (by decide)) (fun _ => ?_)
      refine r_iload_n hC dX9_isTop_93 rfl (j := 1) rfl ?_
      refine r_aload_n hC dX9_isTop_94 rfl (j := 2) rfl ?_
      refine r_get hC gX9_isTop_95 hm (v := .ref (m + 1)) rfl ?_
      refine r_bipush hC dX9_isTop_98 (v := 17) (by decide) ?_
      refine r_iload_n hC dX9_isTop_100 rfl (j := 3) rfl ?_
      refine r_iadd hC dX9_isTop_101 ?_
      rw [show (17 + 0 : Int32) = 17 from by decide]
      refine r_iconst hC dX9_isTop_102 (v := 1) (by decide) ?_
      refine r_iadd hC dX9_isTop_103 ?_
      rw [show (17 + 1 : Int32) = 18 from by decide]
      refine r_iald hC dX9_isTop_104 (j := 18) hv ⟨by decide, by decide, by decide⟩ ?_
      rw [show enc ((f, g, sl, op, lo), hd, rs, np, tp, av, lg, pl, tk) 18 = f 1 from enc_hi (c := 1) (by decide)]
      refine r_icmp_le hC dX9_isTop_105 (tgt := 112) (by decide) (fun c105 => ?_) (fun c105 => ?_)
      · refine r_iconst hC dX9_isTop_112 (v := 0) (by decide) ?_
        refine r_nret hC hE hR dX9_isTop_113 (by decide) (by omega) (by omega) (rfl) ?_
        have z0 : 0 < f 0 := Int32.not_le.mp c11
        have z1 : ¬ f 1 < f 0 := Int32.not_lt.mpr c105
        have e9 : hPeak f 0 = false := by
          unfold hPeak
          rw [show hNb 0 0 = 1 from by decide, decide_eq_false z1]
          simp
        exact ⟨by rw [e9]; rfl, rfl⟩
      · refine r_iconst hC dX9_isTop_108 (v := 1) (by decide) ?_
        refine r_goto hC dX9_isTop_109 (tgt := 113) (by decide) ?_
        refine r_nret hC hE hR dX9_isTop_113 (by decide) (by omega) (by omega) (rfl) ?_
        have z0 : 0 < f 0 := Int32.not_le.mp c11
        have y5 : f 5 < f 0 := Int32.not_le.mp c52
        have y1 : f 1 < f 0 := Int32.not_le.mp c105
        have z2 : ¬ f 0 = 0 := fun z => Int32.ne_of_lt z0 z.symm
        have y25 : f 25 < f 0 := by rw [h25]; exact z0
        have e9 : hPeak f 0 = true := by
          unfold hPeak
          rw [show hNb 0 0 = 1 from by decide, show hNb 0 1 = 5 from by decide, show hNb 0 2 = 25 from by decide, show hNb 0 3 = 25 from by decide, decide_eq_true z2, decide_eq_true y1, decide_eq_true y5, decide_eq_true y25]
          rfl
        exact ⟨by rw [e9]; rfl, rfl⟩
set_option maxRecDepth 100000 in
set_option maxHeartbeats 4000000 in
theorem sm_isTop1 {d : Nat} {w : mW} {m : Nat} {th ch ea fa sv0 tn he en ln iw id0 : Int32} {f g : Nat → Int32} {sl op lo : Int32} {hd rs : Nat → Int32} {np : Nat} {tp av lg pl tk : Int32} (hm : w[m]? = some (mO 10 [.int th, .int ch, .int ea, .int fa, .int sv0, .ref (m + 1), .ref (m + 2), .ref (m + 3), .ref (m + 4), .ref (m + 5), .ref (m + 6), .ref (m + 7), .ref (m + 8), .ref (m + 9), .ref (m + 10), .int tn, .int he, .int en, .int ln, .int iw, .int id0])) (hv : w[m + 1]? = some (mI 0 67 (enc ((f, g, sl, op, lo), hd, rs, np, tp, av, lg, pl, tk)))) (h25 : f 25 = 0) (hpos : ∀ j, j < 25 → ¬ f j < 0) : Sp d yX9_isTop cX9_isTop 4 (some .boolean) [.ref m, .int 1] w 0 0 (fun v w' => v = some (.int (bI (hPeak f 1))) ∧ w' = w) noX := by
  refine Sp.of (by decide +kernel) (Nat.le_of_ble_eq_true rfl) (fun X hC hnl hE hR hN => ?_)
  have hC : Cx X RX9 cX9_isTop d 0 0 := hC
  show Wp X 0 0 w [(0, .ref m), (1, .int 1)] [] 0
  refine r_aload_n hC dX9_isTop_0 rfl (j := 0) rfl ?_
  refine r_get hC gX9_isTop_1 hm (v := .ref (m + 1)) rfl ?_
  refine r_bipush hC dX9_isTop_4 (v := 17) (by decide) ?_
  refine r_iload_n hC dX9_isTop_6 rfl (j := 1) rfl ?_
  refine r_iadd hC dX9_isTop_7 ?_
  rw [show (17 + 1 : Int32) = 18 from by decide]
  refine r_iald hC dX9_isTop_8 (j := 18) hv ⟨by decide, by decide, by decide⟩ ?_
  rw [show enc ((f, g, sl, op, lo), hd, rs, np, tp, av, lg, pl, tk) 18 = f 1 from enc_hi (c := 1) (by decide)]
  refine r_istore_n hC dX9_isTop_9 rfl (by rw [hnl]; decide) (L' := [(2, .int (f 1)), (0, .ref m), (1, .int 1)]) rfl ?_
  refine r_iload_n hC dX9_isTop_10 rfl (j := 0) rfl ?_
  refine r_if_le hC dX9_isTop_11 (tgt := 59) (by decide) (fun c11 => ?_) (fun c11 => ?_)
  · refine r_iconst hC dX9_isTop_59 (v := 0) (by decide) ?_
    refine r_istore_n hC dX9_isTop_60 rfl (by rw [hnl]; decide) (L' := [(3, .int 0), (2, .int (f 1)), (0, .ref m), (1, .int 1)]) rfl ?_
    refine r_iload_n hC dX9_isTop_61 rfl (j := 0) rfl ?_
    refine r_if_eq hC dX9_isTop_62 (tgt := 112) (by decide) (fun _ => ?_) (fun h => absurd (by decide) h)
    refine r_iconst hC dX9_isTop_112 (v := 0) (by decide) ?_
    refine r_nret hC hE hR dX9_isTop_113 (by decide) (by omega) (by omega) (rfl) ?_
    have z1 : f 1 = 0 := Int32.le_antisymm c11 (Int32.not_lt.mp (hpos 1 (by decide)))
    have e9 : hPeak f 1 = false := by
      unfold hPeak
      rw [z1]
      rfl
    exact ⟨by rw [e9]; rfl, rfl⟩
  · refine r_iload_n hC dX9_isTop_14 rfl (j := 2) rfl ?_
    refine r_iconst hC dX9_isTop_15 (v := 5) (by decide) ?_
    refine r_icmp_lt hC dX9_isTop_16 (tgt := 34) (by decide) (fun _ => ?_) (fun h => absurd (by decide) h)
    refine r_iload_n hC dX9_isTop_34 rfl (j := 2) rfl ?_
    refine r_bipush hC dX9_isTop_35 (v := 20) (by decide) ?_
    refine r_icmp_ge hC dX9_isTop_37 (tgt := 55) (by decide) (fun h => absurd h (by decide)) (fun _ => ?_)
    refine r_iload_n hC dX9_isTop_40 rfl (j := 0) rfl ?_
    refine r_aload_n hC dX9_isTop_41 rfl (j := 1) rfl ?_
    refine r_get hC gX9_isTop_42 hm (v := .ref (m + 1)) rfl ?_
    refine r_bipush hC dX9_isTop_45 (v := 17) (by decide) ?_
    refine r_iload_n hC dX9_isTop_47 rfl (j := 2) rfl ?_
    refine r_iadd hC dX9_isTop_48 ?_
    rw [show (17 + 1 : Int32) = 18 from by decide]
    refine r_iconst hC dX9_isTop_49 (v := 5) (by decide) ?_
    refine r_iadd hC dX9_isTop_50 ?_
    rw [show (18 + 5 : Int32) = 23 from by decide]
    refine r_iald hC dX9_isTop_51 (j := 23) hv ⟨by decide, by decide, by decide⟩ ?_
    rw [show enc ((f, g, sl, op, lo), hd, rs, np, tp, av, lg, pl, tk) 23 = f 6 from enc_hi (c := 6) (by decide)]
    refine r_icmp_le hC dX9_isTop_52 (tgt := 59) (by decide) (fun c52 => ?_) (fun c52 => ?_)
    · refine r_iconst hC dX9_isTop_59 (v := 0) (by decide) ?_
      refine r_istore_n hC dX9_isTop_60 rfl (by rw [hnl]; decide) (L' := [(3, .int 0), (2, .int (f 1)), (0, .ref m), (1, .int 1)]) rfl ?_
      refine r_iload_n hC dX9_isTop_61 rfl (j := 0) rfl ?_
      refine r_if_eq hC dX9_isTop_62 (tgt := 112) (by decide) (fun _ => ?_) (fun h => absurd (by decide) h)
      refine r_iconst hC dX9_isTop_112 (v := 0) (by decide) ?_
      refine r_nret hC hE hR dX9_isTop_113 (by decide) (by omega) (by omega) (rfl) ?_
      have z0 : 0 < f 1 := Int32.not_le.mp c11
      have z1 : ¬ f 6 < f 1 := Int32.not_lt.mpr c52
      have e9 : hPeak f 1 = false := by
        unfold hPeak
        rw [show hNb 1 2 = 6 from by decide, decide_eq_false z1]
        simp
      exact ⟨by rw [e9]; rfl, rfl⟩
    · refine r_iconst hC dX9_isTop_55 (v := 1) (by decide) ?_
      refine r_goto hC dX9_isTop_56 (tgt := 60) (by decide) ?_
      refine r_istore_n hC dX9_isTop_60 rfl (by rw [hnl]; decide) (L' := [(3, .int 1), (2, .int (f 1)), (0, .ref m), (1, .int 1)]) rfl ?_
      refine r_iload_n hC dX9_isTop_61 rfl (j := 0) rfl ?_
      refine r_if_eq hC dX9_isTop_62 (tgt := 112) (by decide) (fun h => absurd h (by decide)) (fun _ => ?_)
      refine r_iload_n hC dX9_isTop_65 rfl (j := 3) rfl ?_
      refine r_iconst hC dX9_isTop_66 (v := 5) (by decide) ?_
      refine r_irem hC dX9_isTop_67 (by decide) ?_
      rw [show (1 - 1 / 5 * 5 : Int32) = 1 from by decide]
      refine r_if_eq hC dX9_isTop_68 (tgt := 86) (by decide) (fun h => absurd h (by decide)) (fun _ => ?_)
      refine r_iload_n hC dX9_isTop_71 rfl (j := 1) rfl ?_
      refine r_aload_n hC dX9_isTop_72 rfl (j := 2) rfl ?_
      refine r_get hC gX9_isTop_73 hm (v := .ref (m + 1)) rfl ?_
      refine r_bipush hC dX9_isTop_76 (v := 17) (by decide) ?_
      refine r_iload_n hC dX9_isTop_78 rfl (j := 3) rfl ?_
      refine r_iadd hC dX9_isTop_79 ?_
      rw [show (17 + 1 : Int32) = 18 from by decide]
      refine r_iconst hC dX9_isTop_80 (v := 1) (by decide) ?_
      refine r_isub hC dX9_isTop_81 ?_
      rw [show (18 - 1 : Int32) = 17 from by decide]
      refine r_iald hC dX9_isTop_82 (j := 17) hv ⟨by decide, by decide, by decide⟩ ?_
      rw [show enc ((f, g, sl, op, lo), hd, rs, np, tp, av, lg, pl, tk) 17 = f 0 from enc_hi (c := 0) (by decide)]
      refine r_icmp_le hC dX9_isTop_83 (tgt := 112) (by decide) (fun c83 => ?_) (fun c83 => ?_)
      · refine r_iconst hC dX9_isTop_112 (v := 0) (by decide) ?_
        refine r_nret hC hE hR dX9_isTop_113 (by decide) (by omega) (by omega) (rfl) ?_
        have z0 : 0 < f 1 := Int32.not_le.mp c11
        have z1 : ¬ f 0 < f 1 := Int32.not_lt.mpr c83
        have e9 : hPeak f 1 = false := by
          unfold hPeak
          rw [show hNb 1 0 = 0 from by decide, decide_eq_false z1]
          simp
        exact ⟨by rw [e9]; rfl, rfl⟩
      · refine r_iload_n hC dX9_isTop_86 rfl (j := 3) rfl ?_
        refine r_iconst hC dX9_isTop_87 (v := 5) (by decide) ?_
        refine r_irem hC dX9_isTop_88 (by decide) ?_
        rw [show (1 - 1 / 5 * 5 : Int32) = 1 from by decide]
        refine r_iconst hC dX9_isTop_89 (v := 4) (by decide) ?_
        refine r_icmp_eq hC dX9_isTop_90 (tgt := 108) (by decide) (fun h => absurd h (by decide)) (fun _ => ?_)
        refine r_iload_n hC dX9_isTop_93 rfl (j := 1) rfl ?_
        refine r_aload_n hC dX9_isTop_94 rfl (j := 2) rfl ?_
        refine r_get hC gX9_isTop_95 hm (v := .ref (m + 1)) rfl ?_
        refine r_bipush hC dX9_isTop_98 (v := 17) (by decide) ?_
        refine r_iload_n hC dX9_isTop_100 rfl (j := 3) rfl ?_
        refine r_iadd hC dX9_isTop_101 ?_
        rw [show (17 + 1 : Int32) = 18 from by decide]
        refine r_iconst hC dX9_isTop_102 (v := 1) (by decide) ?_
        refine r_iadd hC dX9_isTop_103 ?_
        rw [show (18 + 1 : Int32) = 19 from by decide]
        refine r_iald hC dX9_isTop_104 (j := 19) hv ⟨by decide, by decide, by decide⟩ ?_
        rw [show enc ((f, g, sl, op, lo), hd, rs, np, tp, av, lg, pl, tk) 19 = f 2 from enc_hi (c := 2) (by decide)]
        refine r_icmp_le hC dX9_isTop_105 (tgt := 112) (by decide) (fun c105 => ?_) (fun c105 => ?_)
        · refine r_iconst hC dX9_isTop_112 (v := 0) (by decide) ?_
          refine r_nret hC hE hR dX9_isTop_113 (by decide) (by omega) (by omega) (rfl) ?_
          have z0 : 0 < f 1 := Int32.not_le.mp c11
          have z1 : ¬ f 2 < f 1 := Int32.not_lt.mpr c105
          have e9 : hPeak f 1 = false := by
            unfold hPeak
            rw [show hNb 1 1 = 2 from by decide, decide_eq_false z1]
            simp
          exact ⟨by rw [e9]; rfl, rfl⟩
        · refine r_iconst hC dX9_isTop_108 (v := 1) (by decide) ?_
          refine r_goto hC dX9_isTop_109 (tgt := 113) (by decide) ?_
          refine r_nret hC hE hR dX9_isTop_113 (by decide) (by omega) (by omega) (rfl) ?_
          have z0 : 0 < f 1 := Int32.not_le.mp c11
          have y6 : f 6 < f 1 := Int32.not_le.mp c52
          have y0 : f 0 < f 1 := Int32.not_le.mp c83
          have y2 : f 2 < f 1 := Int32.not_le.mp c105
          have z2 : ¬ f 1 = 0 := fun z => Int32.ne_of_lt z0 z.symm
          have y25 : f 25 < f 1 := by rw [h25]; exact z0
          have e9 : hPeak f 1 = true := by
            unfold hPeak
            rw [show hNb 1 0 = 0 from by decide, show hNb 1 1 = 2 from by decide, show hNb 1 2 = 6 from by decide, show hNb 1 3 = 25 from by decide, decide_eq_true z2, decide_eq_true y0, decide_eq_true y2, decide_eq_true y6, decide_eq_true y25]
            rfl
          exact ⟨by rw [e9]; rfl, rfl⟩
set_option maxRecDepth 100000 in
set_option maxHeartbeats 4000000 in
theorem sm_isTop2 {d : Nat} {w : mW} {m : Nat} {th ch ea fa sv0 tn he en ln iw id0 : Int32} {f g : Nat → Int32} {sl op lo : Int32} {hd rs : Nat → Int32} {np : Nat} {tp av lg pl tk : Int32} (hm : w[m]? = some (mO 10 [.int th, .int ch, .int ea, .int fa, .int sv0, .ref (m + 1), .ref (m + 2), .ref (m + 3), .ref (m + 4), .ref (m + 5), .ref (m + 6), .ref (m + 7), .ref (m + 8), .ref (m + 9), .ref (m + 10), .int tn, .int he, .int en, .int ln, .int iw, .int id0])) (hv : w[m + 1]? = some (mI 0 67 (enc ((f, g, sl, op, lo), hd, rs, np, tp, av, lg, pl, tk)))) (h25 : f 25 = 0) (hpos : ∀ j, j < 25 → ¬ f j < 0) : Sp d yX9_isTop cX9_isTop 4 (some .boolean) [.ref m, .int 2] w 0 0 (fun v w' => v = some (.int (bI (hPeak f 2))) ∧ w' = w) noX := by
  refine Sp.of (by decide +kernel) (Nat.le_of_ble_eq_true rfl) (fun X hC hnl hE hR hN => ?_)
  have hC : Cx X RX9 cX9_isTop d 0 0 := hC
  show Wp X 0 0 w [(0, .ref m), (1, .int 2)] [] 0
  refine r_aload_n hC dX9_isTop_0 rfl (j := 0) rfl ?_
  refine r_get hC gX9_isTop_1 hm (v := .ref (m + 1)) rfl ?_
  refine r_bipush hC dX9_isTop_4 (v := 17) (by decide) ?_
  refine r_iload_n hC dX9_isTop_6 rfl (j := 1) rfl ?_
  refine r_iadd hC dX9_isTop_7 ?_
  rw [show (17 + 2 : Int32) = 19 from by decide]
  refine r_iald hC dX9_isTop_8 (j := 19) hv ⟨by decide, by decide, by decide⟩ ?_
  rw [show enc ((f, g, sl, op, lo), hd, rs, np, tp, av, lg, pl, tk) 19 = f 2 from enc_hi (c := 2) (by decide)]
  refine r_istore_n hC dX9_isTop_9 rfl (by rw [hnl]; decide) (L' := [(2, .int (f 2)), (0, .ref m), (1, .int 2)]) rfl ?_
  refine r_iload_n hC dX9_isTop_10 rfl (j := 0) rfl ?_
  refine r_if_le hC dX9_isTop_11 (tgt := 59) (by decide) (fun c11 => ?_) (fun c11 => ?_)
  · refine r_iconst hC dX9_isTop_59 (v := 0) (by decide) ?_
    refine r_istore_n hC dX9_isTop_60 rfl (by rw [hnl]; decide) (L' := [(3, .int 0), (2, .int (f 2)), (0, .ref m), (1, .int 2)]) rfl ?_
    refine r_iload_n hC dX9_isTop_61 rfl (j := 0) rfl ?_
    refine r_if_eq hC dX9_isTop_62 (tgt := 112) (by decide) (fun _ => ?_) (fun h => absurd (by decide) h)
    refine r_iconst hC dX9_isTop_112 (v := 0) (by decide) ?_
    refine r_nret hC hE hR dX9_isTop_113 (by decide) (by omega) (by omega) (rfl) ?_
    have z1 : f 2 = 0 := Int32.le_antisymm c11 (Int32.not_lt.mp (hpos 2 (by decide)))
    have e9 : hPeak f 2 = false := by
      unfold hPeak
      rw [z1]
      rfl
    exact ⟨by rw [e9]; rfl, rfl⟩
  · refine r_iload_n hC dX9_isTop_14 rfl (j := 2) rfl ?_
    refine r_iconst hC dX9_isTop_15 (v := 5) (by decide) ?_
    refine r_icmp_lt hC dX9_isTop_16 (tgt := 34) (by decide) (fun _ => ?_) (fun h => absurd (by decide) h)
    refine r_iload_n hC dX9_isTop_34 rfl (j := 2) rfl ?_
    refine r_bipush hC dX9_isTop_35 (v := 20) (by decide) ?_
    refine r_icmp_ge hC dX9_isTop_37 (tgt := 55) (by decide) (fun h => absurd h (by decide)) (fun _ => ?_)
    refine r_iload_n hC dX9_isTop_40 rfl (j := 0) rfl ?_
    refine r_aload_n hC dX9_isTop_41 rfl (j := 1) rfl ?_
    refine r_get hC gX9_isTop_42 hm (v := .ref (m + 1)) rfl ?_
    refine r_bipush hC dX9_isTop_45 (v := 17) (by decide) ?_
    refine r_iload_n hC dX9_isTop_47 rfl (j := 2) rfl ?_
    refine r_iadd hC dX9_isTop_48 ?_
    rw [show (17 + 2 : Int32) = 19 from by decide]
    refine r_iconst hC dX9_isTop_49 (v := 5) (by decide) ?_
    refine r_iadd hC dX9_isTop_50 ?_
    rw [show (19 + 5 : Int32) = 24 from by decide]
    refine r_iald hC dX9_isTop_51 (j := 24) hv ⟨by decide, by decide, by decide⟩ ?_
    rw [show enc ((f, g, sl, op, lo), hd, rs, np, tp, av, lg, pl, tk) 24 = f 7 from enc_hi (c := 7) (by decide)]
    refine r_icmp_le hC dX9_isTop_52 (tgt := 59) (by decide) (fun c52 => ?_) (fun c52 => ?_)
    · refine r_iconst hC dX9_isTop_59 (v := 0) (by decide) ?_
      refine r_istore_n hC dX9_isTop_60 rfl (by rw [hnl]; decide) (L' := [(3, .int 0), (2, .int (f 2)), (0, .ref m), (1, .int 2)]) rfl ?_
      refine r_iload_n hC dX9_isTop_61 rfl (j := 0) rfl ?_
      refine r_if_eq hC dX9_isTop_62 (tgt := 112) (by decide) (fun _ => ?_) (fun h => absurd (by decide) h)
      refine r_iconst hC dX9_isTop_112 (v := 0) (by decide) ?_
      refine r_nret hC hE hR dX9_isTop_113 (by decide) (by omega) (by omega) (rfl) ?_
      have z0 : 0 < f 2 := Int32.not_le.mp c11
      have z1 : ¬ f 7 < f 2 := Int32.not_lt.mpr c52
      have e9 : hPeak f 2 = false := by
        unfold hPeak
        rw [show hNb 2 2 = 7 from by decide, decide_eq_false z1]
        simp
      exact ⟨by rw [e9]; rfl, rfl⟩
    · refine r_iconst hC dX9_isTop_55 (v := 1) (by decide) ?_
      refine r_goto hC dX9_isTop_56 (tgt := 60) (by decide) ?_
      refine r_istore_n hC dX9_isTop_60 rfl (by rw [hnl]; decide) (L' := [(3, .int 1), (2, .int (f 2)), (0, .ref m), (1, .int 2)]) rfl ?_
      refine r_iload_n hC dX9_isTop_61 rfl (j := 0) rfl ?_
      refine r_if_eq hC dX9_isTop_62 (tgt := 112) (by decide) (fun h => absurd h (by decide)) (fun _ => ?_)
      refine r_iload_n hC dX9_isTop_65 rfl (j := 3) rfl ?_
      refine r_iconst hC dX9_isTop_66 (v := 5) (by decide) ?_
      refine r_irem hC dX9_isTop_67 (by decide) ?_
      rw [show (2 - 2 / 5 * 5 : Int32) = 2 from by decide]
      refine r_if_eq hC dX9_isTop_68 (tgt := 86) (by decide) (fun h => absurd h (by decide)) (fun _ => ?_)
      refine r_iload_n hC dX9_isTop_71 rfl (j := 1) rfl ?_
      refine r_aload_n hC dX9_isTop_72 rfl (j := 2) rfl ?_
      refine r_get hC gX9_isTop_73 hm (v := .ref (m + 1)) rfl ?_
      refine r_bipush hC dX9_isTop_76 (v := 17) (by decide) ?_
      refine r_iload_n hC dX9_isTop_78 rfl (j := 3) rfl ?_
      refine r_iadd hC dX9_isTop_79 ?_
      rw [show (17 + 2 : Int32) = 19 from by decide]
      refine r_iconst hC dX9_isTop_80 (v := 1) (by decide) ?_
      refine r_isub hC dX9_isTop_81 ?_
      rw [show (19 - 1 : Int32) = 18 from by decide]
      refine r_iald hC dX9_isTop_82 (j := 18) hv ⟨by decide, by decide, by decide⟩ ?_
      rw [show enc ((f, g, sl, op, lo), hd, rs, np, tp, av, lg, pl, tk) 18 = f 1 from enc_hi (c := 1) (by decide)]
      refine r_icmp_le hC dX9_isTop_83 (tgt := 112) (by decide) (fun c83 => ?_) (fun c83 => ?_)
      · refine r_iconst hC dX9_isTop_112 (v := 0) (by decide) ?_
        refine r_nret hC hE hR dX9_isTop_113 (by decide) (by omega) (by omega) (rfl) ?_
        have z0 : 0 < f 2 := Int32.not_le.mp c11
        have z1 : ¬ f 1 < f 2 := Int32.not_lt.mpr c83
        have e9 : hPeak f 2 = false := by
          unfold hPeak
          rw [show hNb 2 0 = 1 from by decide, decide_eq_false z1]
          simp
        exact ⟨by rw [e9]; rfl, rfl⟩
      · refine r_iload_n hC dX9_isTop_86 rfl (j := 3) rfl ?_
        refine r_iconst hC dX9_isTop_87 (v := 5) (by decide) ?_
        refine r_irem hC dX9_isTop_88 (by decide) ?_
        rw [show (2 - 2 / 5 * 5 : Int32) = 2 from by decide]
        refine r_iconst hC dX9_isTop_89 (v := 4) (by decide) ?_
        refine r_icmp_eq hC dX9_isTop_90 (tgt := 108) (by decide) (fun h => absurd h (by decide)) (fun _ => ?_)
        refine r_iload_n hC dX9_isTop_93 rfl (j := 1) rfl ?_
        refine r_aload_n hC dX9_isTop_94 rfl (j := 2) rfl ?_
        refine r_get hC gX9_isTop_95 hm (v := .ref (m + 1)) rfl ?_
        refine r_bipush hC dX9_isTop_98 (v := 17) (by decide) ?_
        refine r_iload_n hC dX9_isTop_100 rfl (j := 3) rfl ?_
        refine r_iadd hC dX9_isTop_101 ?_
        rw [show (17 + 2 : Int32) = 19 from by decide]
        refine r_iconst hC dX9_isTop_102 (v := 1) (by decide) ?_
        refine r_iadd hC dX9_isTop_103 ?_
        rw [show (19 + 1 : Int32) = 20 from by decide]
        refine r_iald hC dX9_isTop_104 (j := 20) hv ⟨by decide, by decide, by decide⟩ ?_
        rw [show enc ((f, g, sl, op, lo), hd, rs, np, tp, av, lg, pl, tk) 20 = f 3 from enc_hi (c := 3) (by decide)]
        refine r_icmp_le hC dX9_isTop_105 (tgt := 112) (by decide) (fun c105 => ?_) (fun c105 => ?_)
        · refine r_iconst hC dX9_isTop_112 (v := 0) (by decide) ?_
          refine r_nret hC hE hR dX9_isTop_113 (by decide) (by omega) (by omega) (rfl) ?_
          have z0 : 0 < f 2 := Int32.not_le.mp c11
          have z1 : ¬ f 3 < f 2 := Int32.not_lt.mpr c105
          have e9 : hPeak f 2 = false := by
            unfold hPeak
            rw [show hNb 2 1 = 3 from by decide, decide_eq_false z1]
            simp
          exact ⟨by rw [e9]; rfl, rfl⟩
        · refine r_iconst hC dX9_isTop_108 (v := 1) (by decide) ?_
          refine r_goto hC dX9_isTop_109 (tgt := 113) (by decide) ?_
          refine r_nret hC hE hR dX9_isTop_113 (by decide) (by omega) (by omega) (rfl) ?_
          have z0 : 0 < f 2 := Int32.not_le.mp c11
          have y7 : f 7 < f 2 := Int32.not_le.mp c52
          have y1 : f 1 < f 2 := Int32.not_le.mp c83
          have y3 : f 3 < f 2 := Int32.not_le.mp c105
          have z2 : ¬ f 2 = 0 := fun z => Int32.ne_of_lt z0 z.symm
          have y25 : f 25 < f 2 := by rw [h25]; exact z0
          have e9 : hPeak f 2 = true := by
            unfold hPeak
            rw [show hNb 2 0 = 1 from by decide, show hNb 2 1 = 3 from by decide, show hNb 2 2 = 7 from by decide, show hNb 2 3 = 25 from by decide, decide_eq_true z2, decide_eq_true y1, decide_eq_true y3, decide_eq_true y7, decide_eq_true y25]
            rfl
          exact ⟨by rw [e9]; rfl, rfl⟩
set_option maxRecDepth 100000 in
set_option maxHeartbeats 4000000 in
theorem sm_isTop3 {d : Nat} {w : mW} {m : Nat} {th ch ea fa sv0 tn he en ln iw id0 : Int32} {f g : Nat → Int32} {sl op lo : Int32} {hd rs : Nat → Int32} {np : Nat} {tp av lg pl tk : Int32} (hm : w[m]? = some (mO 10 [.int th, .int ch, .int ea, .int fa, .int sv0, .ref (m + 1), .ref (m + 2), .ref (m + 3), .ref (m + 4), .ref (m + 5), .ref (m + 6), .ref (m + 7), .ref (m + 8), .ref (m + 9), .ref (m + 10), .int tn, .int he, .int en, .int ln, .int iw, .int id0])) (hv : w[m + 1]? = some (mI 0 67 (enc ((f, g, sl, op, lo), hd, rs, np, tp, av, lg, pl, tk)))) (h25 : f 25 = 0) (hpos : ∀ j, j < 25 → ¬ f j < 0) : Sp d yX9_isTop cX9_isTop 4 (some .boolean) [.ref m, .int 3] w 0 0 (fun v w' => v = some (.int (bI (hPeak f 3))) ∧ w' = w) noX := by
  refine Sp.of (by decide +kernel) (Nat.le_of_ble_eq_true rfl) (fun X hC hnl hE hR hN => ?_)
  have hC : Cx X RX9 cX9_isTop d 0 0 := hC
  show Wp X 0 0 w [(0, .ref m), (1, .int 3)] [] 0
  refine r_aload_n hC dX9_isTop_0 rfl (j := 0) rfl ?_
  refine r_get hC gX9_isTop_1 hm (v := .ref (m + 1)) rfl ?_
  refine r_bipush hC dX9_isTop_4 (v := 17) (by decide) ?_
  refine r_iload_n hC dX9_isTop_6 rfl (j := 1) rfl ?_
  refine r_iadd hC dX9_isTop_7 ?_
  rw [show (17 + 3 : Int32) = 20 from by decide]
  refine r_iald hC dX9_isTop_8 (j := 20) hv ⟨by decide, by decide, by decide⟩ ?_
  rw [show enc ((f, g, sl, op, lo), hd, rs, np, tp, av, lg, pl, tk) 20 = f 3 from enc_hi (c := 3) (by decide)]
  refine r_istore_n hC dX9_isTop_9 rfl (by rw [hnl]; decide) (L' := [(2, .int (f 3)), (0, .ref m), (1, .int 3)]) rfl ?_
  refine r_iload_n hC dX9_isTop_10 rfl (j := 0) rfl ?_
  refine r_if_le hC dX9_isTop_11 (tgt := 59) (by decide) (fun c11 => ?_) (fun c11 => ?_)
  · refine r_iconst hC dX9_isTop_59 (v := 0) (by decide) ?_
    refine r_istore_n hC dX9_isTop_60 rfl (by rw [hnl]; decide) (L' := [(3, .int 0), (2, .int (f 3)), (0, .ref m), (1, .int 3)]) rfl ?_
    refine r_iload_n hC dX9_isTop_61 rfl (j := 0) rfl ?_
    refine r_if_eq hC dX9_isTop_62 (tgt := 112) (by decide) (fun _ => ?_) (fun h => absurd (by decide) h)
    refine r_iconst hC dX9_isTop_112 (v := 0) (by decide) ?_
    refine r_nret hC hE hR dX9_isTop_113 (by decide) (by omega) (by omega) (rfl) ?_
    have z1 : f 3 = 0 := Int32.le_antisymm c11 (Int32.not_lt.mp (hpos 3 (by decide)))
    have e9 : hPeak f 3 = false := by
      unfold hPeak
      rw [z1]
      rfl
    exact ⟨by rw [e9]; rfl, rfl⟩
  · refine r_iload_n hC dX9_isTop_14 rfl (j := 2) rfl ?_
    refine r_iconst hC dX9_isTop_15 (v := 5) (by decide) ?_
    refine r_icmp_lt hC dX9_isTop_16 (tgt := 34) (by decide) (fun _ => ?_) (fun h => absurd (by decide) h)
    refine r_iload_n hC dX9_isTop_34 rfl (j := 2) rfl ?_
    refine r_bipush hC dX9_isTop_35 (v := 20) (by decide) ?_
    refine r_icmp_ge hC dX9_isTop_37 (tgt := 55) (by decide) (fun h => absurd h (by decide)) (fun _ => ?_)
    refine r_iload_n hC dX9_isTop_40 rfl (j := 0) rfl ?_
    refine r_aload_n hC dX9_isTop_41 rfl (j := 1) rfl ?_
    refine r_get hC gX9_isTop_42 hm (v := .ref (m + 1)) rfl ?_
    refine r_bipush hC dX9_isTop_45 (v := 17) (by decide) ?_
    refine r_iload_n hC dX9_isTop_47 rfl (j := 2) rfl ?_
    refine r_iadd hC dX9_isTop_48 ?_
    rw [show (17 + 3 : Int32) = 20 from by decide]
    refine r_iconst hC dX9_isTop_49 (v := 5) (by decide) ?_
    refine r_iadd hC dX9_isTop_50 ?_
    rw [show (20 + 5 : Int32) = 25 from by decide]
    refine r_iald hC dX9_isTop_51 (j := 25) hv ⟨by decide, by decide, by decide⟩ ?_
    rw [show enc ((f, g, sl, op, lo), hd, rs, np, tp, av, lg, pl, tk) 25 = f 8 from enc_hi (c := 8) (by decide)]
    refine r_icmp_le hC dX9_isTop_52 (tgt := 59) (by decide) (fun c52 => ?_) (fun c52 => ?_)
    · refine r_iconst hC dX9_isTop_59 (v := 0) (by decide) ?_
      refine r_istore_n hC dX9_isTop_60 rfl (by rw [hnl]; decide) (L' := [(3, .int 0), (2, .int (f 3)), (0, .ref m), (1, .int 3)]) rfl ?_
      refine r_iload_n hC dX9_isTop_61 rfl (j := 0) rfl ?_
      refine r_if_eq hC dX9_isTop_62 (tgt := 112) (by decide) (fun _ => ?_) (fun h => absurd (by decide) h)
      refine r_iconst hC dX9_isTop_112 (v := 0) (by decide) ?_
      refine r_nret hC hE hR dX9_isTop_113 (by decide) (by omega) (by omega) (rfl) ?_
      have z0 : 0 < f 3 := Int32.not_le.mp c11
      have z1 : ¬ f 8 < f 3 := Int32.not_lt.mpr c52
      have e9 : hPeak f 3 = false := by
        unfold hPeak
        rw [show hNb 3 2 = 8 from by decide, decide_eq_false z1]
        simp
      exact ⟨by rw [e9]; rfl, rfl⟩
    · refine r_iconst hC dX9_isTop_55 (v := 1) (by decide) ?_
      refine r_goto hC dX9_isTop_56 (tgt := 60) (by decide) ?_
      refine r_istore_n hC dX9_isTop_60 rfl (by rw [hnl]; decide) (L' := [(3, .int 1), (2, .int (f 3)), (0, .ref m), (1, .int 3)]) rfl ?_
      refine r_iload_n hC dX9_isTop_61 rfl (j := 0) rfl ?_
      refine r_if_eq hC dX9_isTop_62 (tgt := 112) (by decide) (fun h => absurd h (by decide)) (fun _ => ?_)
      refine r_iload_n hC dX9_isTop_65 rfl (j := 3) rfl ?_
      refine r_iconst hC dX9_isTop_66 (v := 5) (by decide) ?_
      refine r_irem hC dX9_isTop_67 (by decide) ?_
      rw [show (3 - 3 / 5 * 5 : Int32) = 3 from by decide]
      refine r_if_eq hC dX9_isTop_68 (tgt := 86) (by decide) (fun h => absurd h (by decide)) (fun _ => ?_)
      refine r_iload_n hC dX9_isTop_71 rfl (j := 1) rfl ?_
      refine r_aload_n hC dX9_isTop_72 rfl (j := 2) rfl ?_
      refine r_get hC gX9_isTop_73 hm (v := .ref (m + 1)) rfl ?_
      refine r_bipush hC dX9_isTop_76 (v := 17) (by decide) ?_
      refine r_iload_n hC dX9_isTop_78 rfl (j := 3) rfl ?_
      refine r_iadd hC dX9_isTop_79 ?_
      rw [show (17 + 3 : Int32) = 20 from by decide]
      refine r_iconst hC dX9_isTop_80 (v := 1) (by decide) ?_
      refine r_isub hC dX9_isTop_81 ?_
      rw [show (20 - 1 : Int32) = 19 from by decide]
      refine r_iald hC dX9_isTop_82 (j := 19) hv ⟨by decide, by decide, by decide⟩ ?_
      rw [show enc ((f, g, sl, op, lo), hd, rs, np, tp, av, lg, pl, tk) 19 = f 2 from enc_hi (c := 2) (by decide)]
      refine r_icmp_le hC dX9_isTop_83 (tgt := 112) (by decide) (fun c83 => ?_) (fun c83 => ?_)
      · refine r_iconst hC dX9_isTop_112 (v := 0) (by decide) ?_
        refine r_nret hC hE hR dX9_isTop_113 (by decide) (by omega) (by omega) (rfl) ?_
        have z0 : 0 < f 3 := Int32.not_le.mp c11
        have z1 : ¬ f 2 < f 3 := Int32.not_lt.mpr c83
        have e9 : hPeak f 3 = false := by
          unfold hPeak
          rw [show hNb 3 0 = 2 from by decide, decide_eq_false z1]
          simp
        exact ⟨by rw [e9]; rfl, rfl⟩
      · refine r_iload_n hC dX9_isTop_86 rfl (j := 3) rfl ?_
        refine r_iconst hC dX9_isTop_87 (v := 5) (by decide) ?_
        refine r_irem hC dX9_isTop_88 (by decide) ?_
        rw [show (3 - 3 / 5 * 5 : Int32) = 3 from by decide]
        refine r_iconst hC dX9_isTop_89 (v := 4) (by decide) ?_
        refine r_icmp_eq hC dX9_isTop_90 (tgt := 108) (by decide) (fun h => absurd h (by decide)) (fun _ => ?_)
        refine r_iload_n hC dX9_isTop_93 rfl (j := 1) rfl ?_
        refine r_aload_n hC dX9_isTop_94 rfl (j := 2) rfl ?_
        refine r_get hC gX9_isTop_95 hm (v := .ref (m + 1)) rfl ?_
        refine r_bipush hC dX9_isTop_98 (v := 17) (by decide) ?_
        refine r_iload_n hC dX9_isTop_100 rfl (j := 3) rfl ?_
        refine r_iadd hC dX9_isTop_101 ?_
        rw [show (17 + 3 : Int32) = 20 from by decide]
        refine r_iconst hC dX9_isTop_102 (v := 1) (by decide) ?_
        refine r_iadd hC dX9_isTop_103 ?_
        rw [show (20 + 1 : Int32) = 21 from by decide]
        refine r_iald hC dX9_isTop_104 (j := 21) hv ⟨by decide, by decide, by decide⟩ ?_
        rw [show enc ((f, g, sl, op, lo), hd, rs, np, tp, av, lg, pl, tk) 21 = f 4 from enc_hi (c := 4) (by decide)]
        refine r_icmp_le hC dX9_isTop_105 (tgt := 112) (by decide) (fun c105 => ?_) (fun c105 => ?_)
        · refine r_iconst hC dX9_isTop_112 (v := 0) (by decide) ?_
          refine r_nret hC hE hR dX9_isTop_113 (by decide) (by omega) (by omega) (rfl) ?_
          have z0 : 0 < f 3 := Int32.not_le.mp c11
          have z1 : ¬ f 4 < f 3 := Int32.not_lt.mpr c105
          have e9 : hPeak f 3 = false := by
            unfold hPeak
            rw [show hNb 3 1 = 4 from by decide, decide_eq_false z1]
            simp
          exact ⟨by rw [e9]; rfl, rfl⟩
        · refine r_iconst hC dX9_isTop_108 (v := 1) (by decide) ?_
          refine r_goto hC dX9_isTop_109 (tgt := 113) (by decide) ?_
          refine r_nret hC hE hR dX9_isTop_113 (by decide) (by omega) (by omega) (rfl) ?_
          have z0 : 0 < f 3 := Int32.not_le.mp c11
          have y8 : f 8 < f 3 := Int32.not_le.mp c52
          have y2 : f 2 < f 3 := Int32.not_le.mp c83
          have y4 : f 4 < f 3 := Int32.not_le.mp c105
          have z2 : ¬ f 3 = 0 := fun z => Int32.ne_of_lt z0 z.symm
          have y25 : f 25 < f 3 := by rw [h25]; exact z0
          have e9 : hPeak f 3 = true := by
            unfold hPeak
            rw [show hNb 3 0 = 2 from by decide, show hNb 3 1 = 4 from by decide, show hNb 3 2 = 8 from by decide, show hNb 3 3 = 25 from by decide, decide_eq_true z2, decide_eq_true y2, decide_eq_true y4, decide_eq_true y8, decide_eq_true y25]
            rfl
          exact ⟨by rw [e9]; rfl, rfl⟩
set_option maxRecDepth 100000 in
set_option maxHeartbeats 4000000 in
theorem sm_isTop4 {d : Nat} {w : mW} {m : Nat} {th ch ea fa sv0 tn he en ln iw id0 : Int32} {f g : Nat → Int32} {sl op lo : Int32} {hd rs : Nat → Int32} {np : Nat} {tp av lg pl tk : Int32} (hm : w[m]? = some (mO 10 [.int th, .int ch, .int ea, .int fa, .int sv0, .ref (m + 1), .ref (m + 2), .ref (m + 3), .ref (m + 4), .ref (m + 5), .ref (m + 6), .ref (m + 7), .ref (m + 8), .ref (m + 9), .ref (m + 10), .int tn, .int he, .int en, .int ln, .int iw, .int id0])) (hv : w[m + 1]? = some (mI 0 67 (enc ((f, g, sl, op, lo), hd, rs, np, tp, av, lg, pl, tk)))) (h25 : f 25 = 0) (hpos : ∀ j, j < 25 → ¬ f j < 0) : Sp d yX9_isTop cX9_isTop 4 (some .boolean) [.ref m, .int 4] w 0 0 (fun v w' => v = some (.int (bI (hPeak f 4))) ∧ w' = w) noX := by
  refine Sp.of (by decide +kernel) (Nat.le_of_ble_eq_true rfl) (fun X hC hnl hE hR hN => ?_)
  have hC : Cx X RX9 cX9_isTop d 0 0 := hC
  show Wp X 0 0 w [(0, .ref m), (1, .int 4)] [] 0
  refine r_aload_n hC dX9_isTop_0 rfl (j := 0) rfl ?_
  refine r_get hC gX9_isTop_1 hm (v := .ref (m + 1)) rfl ?_
  refine r_bipush hC dX9_isTop_4 (v := 17) (by decide) ?_
  refine r_iload_n hC dX9_isTop_6 rfl (j := 1) rfl ?_
  refine r_iadd hC dX9_isTop_7 ?_
  rw [show (17 + 4 : Int32) = 21 from by decide]
  refine r_iald hC dX9_isTop_8 (j := 21) hv ⟨by decide, by decide, by decide⟩ ?_
  rw [show enc ((f, g, sl, op, lo), hd, rs, np, tp, av, lg, pl, tk) 21 = f 4 from enc_hi (c := 4) (by decide)]
  refine r_istore_n hC dX9_isTop_9 rfl (by rw [hnl]; decide) (L' := [(2, .int (f 4)), (0, .ref m), (1, .int 4)]) rfl ?_
  refine r_iload_n hC dX9_isTop_10 rfl (j := 0) rfl ?_
  refine r_if_le hC dX9_isTop_11 (tgt := 59) (by decide) (fun c11 => ?_) (fun c11 => ?_)
  · refine r_iconst hC dX9_isTop_59 (v := 0) (by decide) ?_
    refine r_istore_n hC dX9_isTop_60 rfl (by rw [hnl]; decide) (L' := [(3, .int 0), (2, .int (f 4)), (0, .ref m), (1, .int 4)]) rfl ?_
    refine r_iload_n hC dX9_isTop_61 rfl (j := 0) rfl ?_
    refine r_if_eq hC dX9_isTop_62 (tgt := 112) (by decide) (fun _ => ?_) (fun h => absurd (by decide) h)
    refine r_iconst hC dX9_isTop_112 (v := 0) (by decide) ?_
    refine r_nret hC hE hR dX9_isTop_113 (by decide) (by omega) (by omega) (rfl) ?_
    have z1 : f 4 = 0 := Int32.le_antisymm c11 (Int32.not_lt.mp (hpos 4 (by decide)))
    have e9 : hPeak f 4 = false := by
      unfold hPeak
      rw [z1]
      rfl
    exact ⟨by rw [e9]; rfl, rfl⟩
  · refine r_iload_n hC dX9_isTop_14 rfl (j := 2) rfl ?_
    refine r_iconst hC dX9_isTop_15 (v := 5) (by decide) ?_
    refine r_icmp_lt hC dX9_isTop_16 (tgt := 34) (by decide) (fun _ => ?_) (fun h => absurd (by decide) h)
    refine r_iload_n hC dX9_isTop_34 rfl (j := 2) rfl ?_
    refine r_bipush hC dX9_isTop_35 (v := 20) (by decide) ?_
    refine r_icmp_ge hC dX9_isTop_37 (tgt := 55) (by decide) (fun h => absurd h (by decide)) (fun _ => ?_)
    refine r_iload_n hC dX9_isTop_40 rfl (j := 0) rfl ?_
    refine r_aload_n hC dX9_isTop_41 rfl (j := 1) rfl ?_
    refine r_get hC gX9_isTop_42 hm (v := .ref (m + 1)) rfl ?_
    refine r_bipush hC dX9_isTop_45 (v := 17) (by decide) ?_
    refine r_iload_n hC dX9_isTop_47 rfl (j := 2) rfl ?_
    refine r_iadd hC dX9_isTop_48 ?_
    rw [show (17 + 4 : Int32) = 21 from by decide]
    refine r_iconst hC dX9_isTop_49 (v := 5) (by decide) ?_
    refine r_iadd hC dX9_isTop_50 ?_
    rw [show (21 + 5 : Int32) = 26 from by decide]
    refine r_iald hC dX9_isTop_51 (j := 26) hv ⟨by decide, by decide, by decide⟩ ?_
    rw [show enc ((f, g, sl, op, lo), hd, rs, np, tp, av, lg, pl, tk) 26 = f 9 from enc_hi (c := 9) (by decide)]
    refine r_icmp_le hC dX9_isTop_52 (tgt := 59) (by decide) (fun c52 => ?_) (fun c52 => ?_)
    · refine r_iconst hC dX9_isTop_59 (v := 0) (by decide) ?_
      refine r_istore_n hC dX9_isTop_60 rfl (by rw [hnl]; decide) (L' := [(3, .int 0), (2, .int (f 4)), (0, .ref m), (1, .int 4)]) rfl ?_
      refine r_iload_n hC dX9_isTop_61 rfl (j := 0) rfl ?_
      refine r_if_eq hC dX9_isTop_62 (tgt := 112) (by decide) (fun _ => ?_) (fun h => absurd (by decide) h)
      refine r_iconst hC dX9_isTop_112 (v := 0) (by decide) ?_
      refine r_nret hC hE hR dX9_isTop_113 (by decide) (by omega) (by omega) (rfl) ?_
      have z0 : 0 < f 4 := Int32.not_le.mp c11
      have z1 : ¬ f 9 < f 4 := Int32.not_lt.mpr c52
      have e9 : hPeak f 4 = false := by
        unfold hPeak
        rw [show hNb 4 1 = 9 from by decide, decide_eq_false z1]
        simp
      exact ⟨by rw [e9]; rfl, rfl⟩
    · refine r_iconst hC dX9_isTop_55 (v := 1) (by decide) ?_
      refine r_goto hC dX9_isTop_56 (tgt := 60) (by decide) ?_
      refine r_istore_n hC dX9_isTop_60 rfl (by rw [hnl]; decide) (L' := [(3, .int 1), (2, .int (f 4)), (0, .ref m), (1, .int 4)]) rfl ?_
      refine r_iload_n hC dX9_isTop_61 rfl (j := 0) rfl ?_
      refine r_if_eq hC dX9_isTop_62 (tgt := 112) (by decide) (fun h => absurd h (by decide)) (fun _ => ?_)
      refine r_iload_n hC dX9_isTop_65 rfl (j := 3) rfl ?_
      refine r_iconst hC dX9_isTop_66 (v := 5) (by decide) ?_
      refine r_irem hC dX9_isTop_67 (by decide) ?_
      rw [show (4 - 4 / 5 * 5 : Int32) = 4 from by decide]
      refine r_if_eq hC dX9_isTop_68 (tgt := 86) (by decide) (fun h => absurd h (by decide)) (fun _ => ?_)
      refine r_iload_n hC dX9_isTop_71 rfl (j := 1) rfl ?_
      refine r_aload_n hC dX9_isTop_72 rfl (j := 2) rfl ?_
      refine r_get hC gX9_isTop_73 hm (v := .ref (m + 1)) rfl ?_
      refine r_bipush hC dX9_isTop_76 (v := 17) (by decide) ?_
      refine r_iload_n hC dX9_isTop_78 rfl (j := 3) rfl ?_
      refine r_iadd hC dX9_isTop_79 ?_
      rw [show (17 + 4 : Int32) = 21 from by decide]
      refine r_iconst hC dX9_isTop_80 (v := 1) (by decide) ?_
      refine r_isub hC dX9_isTop_81 ?_
      rw [show (21 - 1 : Int32) = 20 from by decide]
      refine r_iald hC dX9_isTop_82 (j := 20) hv ⟨by decide, by decide, by decide⟩ ?_
      rw [show enc ((f, g, sl, op, lo), hd, rs, np, tp, av, lg, pl, tk) 20 = f 3 from enc_hi (c := 3) (by decide)]
      refine r_icmp_le hC dX9_isTop_83 (tgt := 112) (by decide) (fun c83 => ?_) (fun c83 => ?_)
      · refine r_iconst hC dX9_isTop_112 (v := 0) (by decide) ?_
        refine r_nret hC hE hR dX9_isTop_113 (by decide) (by omega) (by omega) (rfl) ?_
        have z0 : 0 < f 4 := Int32.not_le.mp c11
        have z1 : ¬ f 3 < f 4 := Int32.not_lt.mpr c83
        have e9 : hPeak f 4 = false := by
          unfold hPeak
          rw [show hNb 4 0 = 3 from by decide, decide_eq_false z1]
          simp
        exact ⟨by rw [e9]; rfl, rfl⟩
      · refine r_iload_n hC dX9_isTop_86 rfl (j := 3) rfl ?_
        refine r_iconst hC dX9_isTop_87 (v := 5) (by decide) ?_
        refine r_irem hC dX9_isTop_88 (by decide) ?_
        rw [show (4 - 4 / 5 * 5 : Int32) = 4 from by decide]
        refine r_iconst hC dX9_isTop_89 (v := 4) (by decide) ?_
        refine r_icmp_eq hC dX9_isTop_90 (tgt := 108) (by decide) (fun _ => ?_) (fun h => absurd (by decide) h)
        refine r_iconst hC dX9_isTop_108 (v := 1) (by decide) ?_
        refine r_goto hC dX9_isTop_109 (tgt := 113) (by decide) ?_
        refine r_nret hC hE hR dX9_isTop_113 (by decide) (by omega) (by omega) (rfl) ?_
        have z0 : 0 < f 4 := Int32.not_le.mp c11
        have y9 : f 9 < f 4 := Int32.not_le.mp c52
        have y3 : f 3 < f 4 := Int32.not_le.mp c83
        have z2 : ¬ f 4 = 0 := fun z => Int32.ne_of_lt z0 z.symm
        have y25 : f 25 < f 4 := by rw [h25]; exact z0
        have e9 : hPeak f 4 = true := by
          unfold hPeak
          rw [show hNb 4 0 = 3 from by decide, show hNb 4 1 = 9 from by decide, show hNb 4 2 = 25 from by decide, show hNb 4 3 = 25 from by decide, decide_eq_true z2, decide_eq_true y3, decide_eq_true y9, decide_eq_true y25]
          rfl
        exact ⟨by rw [e9]; rfl, rfl⟩
set_option maxRecDepth 100000 in
set_option maxHeartbeats 4000000 in
theorem sm_isTop5 {d : Nat} {w : mW} {m : Nat} {th ch ea fa sv0 tn he en ln iw id0 : Int32} {f g : Nat → Int32} {sl op lo : Int32} {hd rs : Nat → Int32} {np : Nat} {tp av lg pl tk : Int32} (hm : w[m]? = some (mO 10 [.int th, .int ch, .int ea, .int fa, .int sv0, .ref (m + 1), .ref (m + 2), .ref (m + 3), .ref (m + 4), .ref (m + 5), .ref (m + 6), .ref (m + 7), .ref (m + 8), .ref (m + 9), .ref (m + 10), .int tn, .int he, .int en, .int ln, .int iw, .int id0])) (hv : w[m + 1]? = some (mI 0 67 (enc ((f, g, sl, op, lo), hd, rs, np, tp, av, lg, pl, tk)))) (h25 : f 25 = 0) (hpos : ∀ j, j < 25 → ¬ f j < 0) : Sp d yX9_isTop cX9_isTop 4 (some .boolean) [.ref m, .int 5] w 0 0 (fun v w' => v = some (.int (bI (hPeak f 5))) ∧ w' = w) noX := by
  refine Sp.of (by decide +kernel) (Nat.le_of_ble_eq_true rfl) (fun X hC hnl hE hR hN => ?_)
  have hC : Cx X RX9 cX9_isTop d 0 0 := hC
  show Wp X 0 0 w [(0, .ref m), (1, .int 5)] [] 0
  refine r_aload_n hC dX9_isTop_0 rfl (j := 0) rfl ?_
  refine r_get hC gX9_isTop_1 hm (v := .ref (m + 1)) rfl ?_
  refine r_bipush hC dX9_isTop_4 (v := 17) (by decide) ?_
  refine r_iload_n hC dX9_isTop_6 rfl (j := 1) rfl ?_
  refine r_iadd hC dX9_isTop_7 ?_
  rw [show (17 + 5 : Int32) = 22 from by decide]
  refine r_iald hC dX9_isTop_8 (j := 22) hv ⟨by decide, by decide, by decide⟩ ?_
  rw [show enc ((f, g, sl, op, lo), hd, rs, np, tp, av, lg, pl, tk) 22 = f 5 from enc_hi (c := 5) (by decide)]
  refine r_istore_n hC dX9_isTop_9 rfl (by rw [hnl]; decide) (L' := [(2, .int (f 5)), (0, .ref m), (1, .int 5)]) rfl ?_
  refine r_iload_n hC dX9_isTop_10 rfl (j := 0) rfl ?_
  refine r_if_le hC dX9_isTop_11 (tgt := 59) (by decide) (fun c11 => ?_) (fun c11 => ?_)
  · refine r_iconst hC dX9_isTop_59 (v := 0) (by decide) ?_
    refine r_istore_n hC dX9_isTop_60 rfl (by rw [hnl]; decide) (L' := [(3, .int 0), (2, .int (f 5)), (0, .ref m), (1, .int 5)]) rfl ?_
    refine r_iload_n hC dX9_isTop_61 rfl (j := 0) rfl ?_
    refine r_if_eq hC dX9_isTop_62 (tgt := 112) (by decide) (fun _ => ?_) (fun h => absurd (by decide) h)
    refine r_iconst hC dX9_isTop_112 (v := 0) (by decide) ?_
    refine r_nret hC hE hR dX9_isTop_113 (by decide) (by omega) (by omega) (rfl) ?_
    have z1 : f 5 = 0 := Int32.le_antisymm c11 (Int32.not_lt.mp (hpos 5 (by decide)))
    have e9 : hPeak f 5 = false := by
      unfold hPeak
      rw [z1]
      rfl
    exact ⟨by rw [e9]; rfl, rfl⟩
  · refine r_iload_n hC dX9_isTop_14 rfl (j := 2) rfl ?_
    refine r_iconst hC dX9_isTop_15 (v := 5) (by decide) ?_
    refine r_icmp_lt hC dX9_isTop_16 (tgt := 34) (by decide) (fun h => absurd h (by decide)) (fun _ => ?_)
    refine r_iload_n hC dX9_isTop_19 rfl (j := 0) rfl ?_
    refine r_aload_n hC dX9_isTop_20 rfl (j := 1) rfl ?_
    refine r_get hC gX9_isTop_21 hm (v := .ref (m + 1)) rfl ?_
    refine r_bipush hC dX9_isTop_24 (v := 17) (by decide) ?_
    refine r_iload_n hC dX9_isTop_26 rfl (j := 2) rfl ?_
    refine r_iadd hC dX9_isTop_27 ?_
    rw [show (17 + 5 : Int32) = 22 from by decide]
    refine r_iconst hC dX9_isTop_28 (v := 5) (by decide) ?_
    refine r_isub hC dX9_isTop_29 ?_
    rw [show (22 - 5 : Int32) = 17 from by decide]
    refine r_iald hC dX9_isTop_30 (j := 17) hv ⟨by decide, by decide, by decide⟩ ?_
    rw [show enc ((f, g, sl, op, lo), hd, rs, np, tp, av, lg, pl, tk) 17 = f 0 from enc_hi (c := 0) (by decide)]
    refine r_icmp_le hC dX9_isTop_31 (tgt := 59) (by decide) (fun c31 => ?_) (fun c31 => ?_)
    · refine r_iconst hC dX9_isTop_59 (v := 0) (by decide) ?_
      refine r_istore_n hC dX9_isTop_60 rfl (by rw [hnl]; decide) (L' := [(3, .int 0), (2, .int (f 5)), (0, .ref m), (1, .int 5)]) rfl ?_
      refine r_iload_n hC dX9_isTop_61 rfl (j := 0) rfl ?_
      refine r_if_eq hC dX9_isTop_62 (tgt := 112) (by decide) (fun _ => ?_) (fun h => absurd (by decide) h)
      refine r_iconst hC dX9_isTop_112 (v := 0) (by decide) ?_
      refine r_nret hC hE hR dX9_isTop_113 (by decide) (by omega) (by omega) (rfl) ?_
      have z0 : 0 < f 5 := Int32.not_le.mp c11
      have z1 : ¬ f 0 < f 5 := Int32.not_lt.mpr c31
      have e9 : hPeak f 5 = false := by
        unfold hPeak
        rw [show hNb 5 0 = 0 from by decide, decide_eq_false z1]
        simp
      exact ⟨by rw [e9]; rfl, rfl⟩
    · refine r_iload_n hC dX9_isTop_34 rfl (j := 2) rfl ?_
      refine r_bipush hC dX9_isTop_35 (v := 20) (by decide) ?_
      refine r_icmp_ge hC dX9_isTop_37 (tgt := 55) (by decide) (fun h => absurd h (by decide)) (fun _ => ?_)
      refine r_iload_n hC dX9_isTop_40 rfl (j := 0) rfl ?_
      refine r_aload_n hC dX9_isTop_41 rfl (j := 1) rfl ?_
      refine r_get hC gX9_isTop_42 hm (v := .ref (m + 1)) rfl ?_
      refine r_bipush hC dX9_isTop_45 (v := 17) (by decide) ?_
      refine r_iload_n hC dX9_isTop_47 rfl (j := 2) rfl ?_
      refine r_iadd hC dX9_isTop_48 ?_
      rw [show (17 + 5 : Int32) = 22 from by decide]
      refine r_iconst hC dX9_isTop_49 (v := 5) (by decide) ?_
      refine r_iadd hC dX9_isTop_50 ?_
      rw [show (22 + 5 : Int32) = 27 from by decide]
      refine r_iald hC dX9_isTop_51 (j := 27) hv ⟨by decide, by decide, by decide⟩ ?_
      rw [show enc ((f, g, sl, op, lo), hd, rs, np, tp, av, lg, pl, tk) 27 = f 10 from enc_hi (c := 10) (by decide)]
      refine r_icmp_le hC dX9_isTop_52 (tgt := 59) (by decide) (fun c52 => ?_) (fun c52 => ?_)
      · refine r_iconst hC dX9_isTop_59 (v := 0) (by decide) ?_
        refine r_istore_n hC dX9_isTop_60 rfl (by rw [hnl]; decide) (L' := [(3, .int 0), (2, .int (f 5)), (0, .ref m), (1, .int 5)]) rfl ?_
        refine r_iload_n hC dX9_isTop_61 rfl (j := 0) rfl ?_
        refine r_if_eq hC dX9_isTop_62 (tgt := 112) (by decide) (fun _ => ?_) (fun h => absurd (by decide) h)
        refine r_iconst hC dX9_isTop_112 (v := 0) (by decide) ?_
        refine r_nret hC hE hR dX9_isTop_113 (by decide) (by omega) (by omega) (rfl) ?_
        have z0 : 0 < f 5 := Int32.not_le.mp c11
        have z1 : ¬ f 10 < f 5 := Int32.not_lt.mpr c52
        have e9 : hPeak f 5 = false := by
          unfold hPeak
          rw [show hNb 5 2 = 10 from by decide, decide_eq_false z1]
          simp
        exact ⟨by rw [e9]; rfl, rfl⟩
      · refine r_iconst hC dX9_isTop_55 (v := 1) (by decide) ?_
        refine r_goto hC dX9_isTop_56 (tgt := 60) (by decide) ?_
        refine r_istore_n hC dX9_isTop_60 rfl (by rw [hnl]; decide) (L' := [(3, .int 1), (2, .int (f 5)), (0, .ref m), (1, .int 5)]) rfl ?_
        refine r_iload_n hC dX9_isTop_61 rfl (j := 0) rfl ?_
        refine r_if_eq hC dX9_isTop_62 (tgt := 112) (by decide) (fun h => absurd h (by decide)) (fun _ => ?_)
        refine r_iload_n hC dX9_isTop_65 rfl (j := 3) rfl ?_
        refine r_iconst hC dX9_isTop_66 (v := 5) (by decide) ?_
        refine r_irem hC dX9_isTop_67 (by decide) ?_
        rw [show (5 - 5 / 5 * 5 : Int32) = 0 from by decide]
        refine r_if_eq hC dX9_isTop_68 (tgt := 86) (by decide) (fun _ => ?_) (fun h => absurd (by decide) h)
        refine r_iload_n hC dX9_isTop_86 rfl (j := 3) rfl ?_
        refine r_iconst hC dX9_isTop_87 (v := 5) (by decide) ?_
        refine r_irem hC dX9_isTop_88 (by decide) ?_
        rw [show (5 - 5 / 5 * 5 : Int32) = 0 from by decide]
        refine r_iconst hC dX9_isTop_89 (v := 4) (by decide) ?_
        refine r_icmp_eq hC dX9_isTop_90 (tgt := 108) (by decide) (fun h => absurd h (by decide)) (fun _ => ?_)
        refine r_iload_n hC dX9_isTop_93 rfl (j := 1) rfl ?_
        refine r_aload_n hC dX9_isTop_94 rfl (j := 2) rfl ?_
        refine r_get hC gX9_isTop_95 hm (v := .ref (m + 1)) rfl ?_
        refine r_bipush hC dX9_isTop_98 (v := 17) (by decide) ?_
        refine r_iload_n hC dX9_isTop_100 rfl (j := 3) rfl ?_
        refine r_iadd hC dX9_isTop_101 ?_
        rw [show (17 + 5 : Int32) = 22 from by decide]
        refine r_iconst hC dX9_isTop_102 (v := 1) (by decide) ?_
        refine r_iadd hC dX9_isTop_103 ?_
        rw [show (22 + 1 : Int32) = 23 from by decide]
        refine r_iald hC dX9_isTop_104 (j := 23) hv ⟨by decide, by decide, by decide⟩ ?_
        rw [show enc ((f, g, sl, op, lo), hd, rs, np, tp, av, lg, pl, tk) 23 = f 6 from enc_hi (c := 6) (by decide)]
        refine r_icmp_le hC dX9_isTop_105 (tgt := 112) (by decide) (fun c105 => ?_) (fun c105 => ?_)
        · refine r_iconst hC dX9_isTop_112 (v := 0) (by decide) ?_
          refine r_nret hC hE hR dX9_isTop_113 (by decide) (by omega) (by omega) (rfl) ?_
          have z0 : 0 < f 5 := Int32.not_le.mp c11
          have z1 : ¬ f 6 < f 5 := Int32.not_lt.mpr c105
          have e9 : hPeak f 5 = false := by
            unfold hPeak
            rw [show hNb 5 1 = 6 from by decide, decide_eq_false z1]
            simp
          exact ⟨by rw [e9]; rfl, rfl⟩
        · refine r_iconst hC dX9_isTop_108 (v := 1) (by decide) ?_
          refine r_goto hC dX9_isTop_109 (tgt := 113) (by decide) ?_
          refine r_nret hC hE hR dX9_isTop_113 (by decide) (by omega) (by omega) (rfl) ?_
          have z0 : 0 < f 5 := Int32.not_le.mp c11
          have y0 : f 0 < f 5 := Int32.not_le.mp c31
          have y10 : f 10 < f 5 := Int32.not_le.mp c52
          have y6 : f 6 < f 5 := Int32.not_le.mp c105
          have z2 : ¬ f 5 = 0 := fun z => Int32.ne_of_lt z0 z.symm
          have y25 : f 25 < f 5 := by rw [h25]; exact z0
          have e9 : hPeak f 5 = true := by
            unfold hPeak
            rw [show hNb 5 0 = 0 from by decide, show hNb 5 1 = 6 from by decide, show hNb 5 2 = 10 from by decide, show hNb 5 3 = 25 from by decide, decide_eq_true z2, decide_eq_true y0, decide_eq_true y6, decide_eq_true y10, decide_eq_true y25]
            rfl
          exact ⟨by rw [e9]; rfl, rfl⟩
set_option maxRecDepth 100000 in
set_option maxHeartbeats 4000000 in
theorem sm_isTop6 {d : Nat} {w : mW} {m : Nat} {th ch ea fa sv0 tn he en ln iw id0 : Int32} {f g : Nat → Int32} {sl op lo : Int32} {hd rs : Nat → Int32} {np : Nat} {tp av lg pl tk : Int32} (hm : w[m]? = some (mO 10 [.int th, .int ch, .int ea, .int fa, .int sv0, .ref (m + 1), .ref (m + 2), .ref (m + 3), .ref (m + 4), .ref (m + 5), .ref (m + 6), .ref (m + 7), .ref (m + 8), .ref (m + 9), .ref (m + 10), .int tn, .int he, .int en, .int ln, .int iw, .int id0])) (hv : w[m + 1]? = some (mI 0 67 (enc ((f, g, sl, op, lo), hd, rs, np, tp, av, lg, pl, tk)))) (h25 : f 25 = 0) (hpos : ∀ j, j < 25 → ¬ f j < 0) : Sp d yX9_isTop cX9_isTop 4 (some .boolean) [.ref m, .int 6] w 0 0 (fun v w' => v = some (.int (bI (hPeak f 6))) ∧ w' = w) noX := by
  refine Sp.of (by decide +kernel) (Nat.le_of_ble_eq_true rfl) (fun X hC hnl hE hR hN => ?_)
  have hC : Cx X RX9 cX9_isTop d 0 0 := hC
  show Wp X 0 0 w [(0, .ref m), (1, .int 6)] [] 0
  refine r_aload_n hC dX9_isTop_0 rfl (j := 0) rfl ?_
  refine r_get hC gX9_isTop_1 hm (v := .ref (m + 1)) rfl ?_
  refine r_bipush hC dX9_isTop_4 (v := 17) (by decide) ?_
  refine r_iload_n hC dX9_isTop_6 rfl (j := 1) rfl ?_
  refine r_iadd hC dX9_isTop_7 ?_
  rw [show (17 + 6 : Int32) = 23 from by decide]
  refine r_iald hC dX9_isTop_8 (j := 23) hv ⟨by decide, by decide, by decide⟩ ?_
  rw [show enc ((f, g, sl, op, lo), hd, rs, np, tp, av, lg, pl, tk) 23 = f 6 from enc_hi (c := 6) (by decide)]
  refine r_istore_n hC dX9_isTop_9 rfl (by rw [hnl]; decide) (L' := [(2, .int (f 6)), (0, .ref m), (1, .int 6)]) rfl ?_
  refine r_iload_n hC dX9_isTop_10 rfl (j := 0) rfl ?_
  refine r_if_le hC dX9_isTop_11 (tgt := 59) (by decide) (fun c11 => ?_) (fun c11 => ?_)
  · refine r_iconst hC dX9_isTop_59 (v := 0) (by decide) ?_
    refine r_istore_n hC dX9_isTop_60 rfl (by rw [hnl]; decide) (L' := [(3, .int 0), (2, .int (f 6)), (0, .ref m), (1, .int 6)]) rfl ?_
    refine r_iload_n hC dX9_isTop_61 rfl (j := 0) rfl ?_
    refine r_if_eq hC dX9_isTop_62 (tgt := 112) (by decide) (fun _ => ?_) (fun h => absurd (by decide) h)
    refine r_iconst hC dX9_isTop_112 (v := 0) (by decide) ?_
    refine r_nret hC hE hR dX9_isTop_113 (by decide) (by omega) (by omega) (rfl) ?_
    have z1 : f 6 = 0 := Int32.le_antisymm c11 (Int32.not_lt.mp (hpos 6 (by decide)))
    have e9 : hPeak f 6 = false := by
      unfold hPeak
      rw [z1]
      rfl
    exact ⟨by rw [e9]; rfl, rfl⟩
  · refine r_iload_n hC dX9_isTop_14 rfl (j := 2) rfl ?_
    refine r_iconst hC dX9_isTop_15 (v := 5) (by decide) ?_
    refine r_icmp_lt hC dX9_isTop_16 (tgt := 34) (by decide) (fun h => absurd h (by decide)) (fun _ => ?_)
    refine r_iload_n hC dX9_isTop_19 rfl (j := 0) rfl ?_
    refine r_aload_n hC dX9_isTop_20 rfl (j := 1) rfl ?_
    refine r_get hC gX9_isTop_21 hm (v := .ref (m + 1)) rfl ?_
    refine r_bipush hC dX9_isTop_24 (v := 17) (by decide) ?_
    refine r_iload_n hC dX9_isTop_26 rfl (j := 2) rfl ?_
    refine r_iadd hC dX9_isTop_27 ?_
    rw [show (17 + 6 : Int32) = 23 from by decide]
    refine r_iconst hC dX9_isTop_28 (v := 5) (by decide) ?_
    refine r_isub hC dX9_isTop_29 ?_
    rw [show (23 - 5 : Int32) = 18 from by decide]
    refine r_iald hC dX9_isTop_30 (j := 18) hv ⟨by decide, by decide, by decide⟩ ?_
    rw [show enc ((f, g, sl, op, lo), hd, rs, np, tp, av, lg, pl, tk) 18 = f 1 from enc_hi (c := 1) (by decide)]
    refine r_icmp_le hC dX9_isTop_31 (tgt := 59) (by decide) (fun c31 => ?_) (fun c31 => ?_)
    · refine r_iconst hC dX9_isTop_59 (v := 0) (by decide) ?_
      refine r_istore_n hC dX9_isTop_60 rfl (by rw [hnl]; decide) (L' := [(3, .int 0), (2, .int (f 6)), (0, .ref m), (1, .int 6)]) rfl ?_
      refine r_iload_n hC dX9_isTop_61 rfl (j := 0) rfl ?_
      refine r_if_eq hC dX9_isTop_62 (tgt := 112) (by decide) (fun _ => ?_) (fun h => absurd (by decide) h)
      refine r_iconst hC dX9_isTop_112 (v := 0) (by decide) ?_
      refine r_nret hC hE hR dX9_isTop_113 (by decide) (by omega) (by omega) (rfl) ?_
      have z0 : 0 < f 6 := Int32.not_le.mp c11
      have z1 : ¬ f 1 < f 6 := Int32.not_lt.mpr c31
      have e9 : hPeak f 6 = false := by
        unfold hPeak
        rw [show hNb 6 0 = 1 from by decide, decide_eq_false z1]
        simp
      exact ⟨by rw [e9]; rfl, rfl⟩
    · refine r_iload_n hC dX9_isTop_34 rfl (j := 2) rfl ?_
      refine r_bipush hC dX9_isTop_35 (v := 20) (by decide) ?_
      refine r_icmp_ge hC dX9_isTop_37 (tgt := 55) (by decide) (fun h => absurd h (by decide)) (fun _ => ?_)
      refine r_iload_n hC dX9_isTop_40 rfl (j := 0) rfl ?_
      refine r_aload_n hC dX9_isTop_41 rfl (j := 1) rfl ?_
      refine r_get hC gX9_isTop_42 hm (v := .ref (m + 1)) rfl ?_
      refine r_bipush hC dX9_isTop_45 (v := 17) (by decide) ?_
      refine r_iload_n hC dX9_isTop_47 rfl (j := 2) rfl ?_
      refine r_iadd hC dX9_isTop_48 ?_
      rw [show (17 + 6 : Int32) = 23 from by decide]
      refine r_iconst hC dX9_isTop_49 (v := 5) (by decide) ?_
      refine r_iadd hC dX9_isTop_50 ?_
      rw [show (23 + 5 : Int32) = 28 from by decide]
      refine r_iald hC dX9_isTop_51 (j := 28) hv ⟨by decide, by decide, by decide⟩ ?_
      rw [show enc ((f, g, sl, op, lo), hd, rs, np, tp, av, lg, pl, tk) 28 = f 11 from enc_hi (c := 11) (by decide)]
      refine r_icmp_le hC dX9_isTop_52 (tgt := 59) (by decide) (fun c52 => ?_) (fun c52 => ?_)
      · refine r_iconst hC dX9_isTop_59 (v := 0) (by decide) ?_
        refine r_istore_n hC dX9_isTop_60 rfl (by rw [hnl]; decide) (L' := [(3, .int 0), (2, .int (f 6)), (0, .ref m), (1, .int 6)]) rfl ?_
        refine r_iload_n hC dX9_isTop_61 rfl (j := 0) rfl ?_
        refine r_if_eq hC dX9_isTop_62 (tgt := 112) (by decide) (fun _ => ?_) (fun h => absurd (by decide) h)
        refine r_iconst hC dX9_isTop_112 (v := 0) (by decide) ?_
        refine r_nret hC hE hR dX9_isTop_113 (by decide) (by omega) (by omega) (rfl) ?_
        have z0 : 0 < f 6 := Int32.not_le.mp c11
        have z1 : ¬ f 11 < f 6 := Int32.not_lt.mpr c52
        have e9 : hPeak f 6 = false := by
          unfold hPeak
          rw [show hNb 6 3 = 11 from by decide, decide_eq_false z1]
          simp
        exact ⟨by rw [e9]; rfl, rfl⟩
      · refine r_iconst hC dX9_isTop_55 (v := 1) (by decide) ?_
        refine r_goto hC dX9_isTop_56 (tgt := 60) (by decide) ?_
        refine r_istore_n hC dX9_isTop_60 rfl (by rw [hnl]; decide) (L' := [(3, .int 1), (2, .int (f 6)), (0, .ref m), (1, .int 6)]) rfl ?_
        refine r_iload_n hC dX9_isTop_61 rfl (j := 0) rfl ?_
        refine r_if_eq hC dX9_isTop_62 (tgt := 112) (by decide) (fun h => absurd h (by decide)) (fun _ => ?_)
        refine r_iload_n hC dX9_isTop_65 rfl (j := 3) rfl ?_
        refine r_iconst hC dX9_isTop_66 (v := 5) (by decide) ?_
        refine r_irem hC dX9_isTop_67 (by decide) ?_
        rw [show (6 - 6 / 5 * 5 : Int32) = 1 from by decide]
        refine r_if_eq hC dX9_isTop_68 (tgt := 86) (by decide) (fun h => absurd h (by decide)) (fun _ => ?_)
        refine r_iload_n hC dX9_isTop_71 rfl (j := 1) rfl ?_
        refine r_aload_n hC dX9_isTop_72 rfl (j := 2) rfl ?_
        refine r_get hC gX9_isTop_73 hm (v := .ref (m + 1)) rfl ?_
        refine r_bipush hC dX9_isTop_76 (v := 17) (by decide) ?_
        refine r_iload_n hC dX9_isTop_78 rfl (j := 3) rfl ?_
        refine r_iadd hC dX9_isTop_79 ?_
        rw [show (17 + 6 : Int32) = 23 from by decide]
        refine r_iconst hC dX9_isTop_80 (v := 1) (by decide) ?_
        refine r_isub hC dX9_isTop_81 ?_
        rw [show (23 - 1 : Int32) = 22 from by decide]
        refine r_iald hC dX9_isTop_82 (j := 22) hv ⟨by decide, by decide, by decide⟩ ?_
        rw [show enc ((f, g, sl, op, lo), hd, rs, np, tp, av, lg, pl, tk) 22 = f 5 from enc_hi (c := 5) (by decide)]
        refine r_icmp_le hC dX9_isTop_83 (tgt := 112) (by decide) (fun c83 => ?_) (fun c83 => ?_)
        · refine r_iconst hC dX9_isTop_112 (v := 0) (by decide) ?_
          refine r_nret hC hE hR dX9_isTop_113 (by decide) (by omega) (by omega) (rfl) ?_
          have z0 : 0 < f 6 := Int32.not_le.mp c11
          have z1 : ¬ f 5 < f 6 := Int32.not_lt.mpr c83
          have e9 : hPeak f 6 = false := by
            unfold hPeak
            rw [show hNb 6 1 = 5 from by decide, decide_eq_false z1]
            simp
          exact ⟨by rw [e9]; rfl, rfl⟩
        · refine r_iload_n hC dX9_isTop_86 rfl (j := 3) rfl ?_
          refine r_iconst hC dX9_isTop_87 (v := 5) (by decide) ?_
          refine r_irem hC dX9_isTop_88 (by decide) ?_
          rw [show (6 - 6 / 5 * 5 : Int32) = 1 from by decide]
          refine r_iconst hC dX9_isTop_89 (v := 4) (by decide) ?_
          refine r_icmp_eq hC dX9_isTop_90 (tgt := 108) (by decide) (fun h => absurd h (by decide)) (fun _ => ?_)
          refine r_iload_n hC dX9_isTop_93 rfl (j := 1) rfl ?_
          refine r_aload_n hC dX9_isTop_94 rfl (j := 2) rfl ?_
          refine r_get hC gX9_isTop_95 hm (v := .ref (m + 1)) rfl ?_
          refine r_bipush hC dX9_isTop_98 (v := 17) (by decide) ?_
          refine r_iload_n hC dX9_isTop_100 rfl (j := 3) rfl ?_
          refine r_iadd hC dX9_isTop_101 ?_
          rw [show (17 + 6 : Int32) = 23 from by decide]
          refine r_iconst hC dX9_isTop_102 (v := 1) (by decide) ?_
          refine r_iadd hC dX9_isTop_103 ?_
          rw [show (23 + 1 : Int32) = 24 from by decide]
          refine r_iald hC dX9_isTop_104 (j := 24) hv ⟨by decide, by decide, by decide⟩ ?_
          rw [show enc ((f, g, sl, op, lo), hd, rs, np, tp, av, lg, pl, tk) 24 = f 7 from enc_hi (c := 7) (by decide)]
          refine r_icmp_le hC dX9_isTop_105 (tgt := 112) (by decide) (fun c105 => ?_) (fun c105 => ?_)
          · refine r_iconst hC dX9_isTop_112 (v := 0) (by decide) ?_
            refine r_nret hC hE hR dX9_isTop_113 (by decide) (by omega) (by omega) (rfl) ?_
            have z0 : 0 < f 6 := Int32.not_le.mp c11
            have z1 : ¬ f 7 < f 6 := Int32.not_lt.mpr c105
            have e9 : hPeak f 6 = false := by
              unfold hPeak
              rw [show hNb 6 2 = 7 from by decide, decide_eq_false z1]
              simp
            exact ⟨by rw [e9]; rfl, rfl⟩
          · refine r_iconst hC dX9_isTop_108 (v := 1) (by decide) ?_
            refine r_goto hC dX9_isTop_109 (tgt := 113) (by decide) ?_
            refine r_nret hC hE hR dX9_isTop_113 (by decide) (by omega) (by omega) (rfl) ?_
            have z0 : 0 < f 6 := Int32.not_le.mp c11
            have y1 : f 1 < f 6 := Int32.not_le.mp c31
            have y11 : f 11 < f 6 := Int32.not_le.mp c52
            have y5 : f 5 < f 6 := Int32.not_le.mp c83
            have y7 : f 7 < f 6 := Int32.not_le.mp c105
            have z2 : ¬ f 6 = 0 := fun z => Int32.ne_of_lt z0 z.symm
            have y25 : f 25 < f 6 := by rw [h25]; exact z0
            have e9 : hPeak f 6 = true := by
              unfold hPeak
              rw [show hNb 6 0 = 1 from by decide, show hNb 6 1 = 5 from by decide, show hNb 6 2 = 7 from by decide, show hNb 6 3 = 11 from by decide, decide_eq_true z2, decide_eq_true y1, decide_eq_true y5, decide_eq_true y7, decide_eq_true y11]
              rfl
            exact ⟨by rw [e9]; rfl, rfl⟩
set_option maxRecDepth 100000 in
set_option maxHeartbeats 4000000 in
theorem sm_isTop7 {d : Nat} {w : mW} {m : Nat} {th ch ea fa sv0 tn he en ln iw id0 : Int32} {f g : Nat → Int32} {sl op lo : Int32} {hd rs : Nat → Int32} {np : Nat} {tp av lg pl tk : Int32} (hm : w[m]? = some (mO 10 [.int th, .int ch, .int ea, .int fa, .int sv0, .ref (m + 1), .ref (m + 2), .ref (m + 3), .ref (m + 4), .ref (m + 5), .ref (m + 6), .ref (m + 7), .ref (m + 8), .ref (m + 9), .ref (m + 10), .int tn, .int he, .int en, .int ln, .int iw, .int id0])) (hv : w[m + 1]? = some (mI 0 67 (enc ((f, g, sl, op, lo), hd, rs, np, tp, av, lg, pl, tk)))) (h25 : f 25 = 0) (hpos : ∀ j, j < 25 → ¬ f j < 0) : Sp d yX9_isTop cX9_isTop 4 (some .boolean) [.ref m, .int 7] w 0 0 (fun v w' => v = some (.int (bI (hPeak f 7))) ∧ w' = w) noX := by
  refine Sp.of (by decide +kernel) (Nat.le_of_ble_eq_true rfl) (fun X hC hnl hE hR hN => ?_)
  have hC : Cx X RX9 cX9_isTop d 0 0 := hC
  show Wp X 0 0 w [(0, .ref m), (1, .int 7)] [] 0
  refine r_aload_n hC dX9_isTop_0 rfl (j := 0) rfl ?_
  refine r_get hC gX9_isTop_1 hm (v := .ref (m + 1)) rfl ?_
  refine r_bipush hC dX9_isTop_4 (v := 17) (by decide) ?_
  refine r_iload_n hC dX9_isTop_6 rfl (j := 1) rfl ?_
  refine r_iadd hC dX9_isTop_7 ?_
  rw [show (17 + 7 : Int32) = 24 from by decide]
  refine r_iald hC dX9_isTop_8 (j := 24) hv ⟨by decide, by decide, by decide⟩ ?_
  rw [show enc ((f, g, sl, op, lo), hd, rs, np, tp, av, lg, pl, tk) 24 = f 7 from enc_hi (c := 7) (by decide)]
  refine r_istore_n hC dX9_isTop_9 rfl (by rw [hnl]; decide) (L' := [(2, .int (f 7)), (0, .ref m), (1, .int 7)]) rfl ?_
  refine r_iload_n hC dX9_isTop_10 rfl (j := 0) rfl ?_
  refine r_if_le hC dX9_isTop_11 (tgt := 59) (by decide) (fun c11 => ?_) (fun c11 => ?_)
  · refine r_iconst hC dX9_isTop_59 (v := 0) (by decide) ?_
    refine r_istore_n hC dX9_isTop_60 rfl (by rw [hnl]; decide) (L' := [(3, .int 0), (2, .int (f 7)), (0, .ref m), (1, .int 7)]) rfl ?_
    refine r_iload_n hC dX9_isTop_61 rfl (j := 0) rfl ?_
    refine r_if_eq hC dX9_isTop_62 (tgt := 112) (by decide) (fun _ => ?_) (fun h => absurd (by decide) h)
    refine r_iconst hC dX9_isTop_112 (v := 0) (by decide) ?_
    refine r_nret hC hE hR dX9_isTop_113 (by decide) (by omega) (by omega) (rfl) ?_
    have z1 : f 7 = 0 := Int32.le_antisymm c11 (Int32.not_lt.mp (hpos 7 (by decide)))
    have e9 : hPeak f 7 = false := by
      unfold hPeak
      rw [z1]
      rfl
    exact ⟨by rw [e9]; rfl, rfl⟩
  · refine r_iload_n hC dX9_isTop_14 rfl (j := 2) rfl ?_
    refine r_iconst hC dX9_isTop_15 (v := 5) (by decide) ?_
    refine r_icmp_lt hC dX9_isTop_16 (tgt := 34) (by decide) (fun h => absurd h (by decide)) (fun _ => ?_)
    refine r_iload_n hC dX9_isTop_19 rfl (j := 0) rfl ?_
    refine r_aload_n hC dX9_isTop_20 rfl (j := 1) rfl ?_
    refine r_get hC gX9_isTop_21 hm (v := .ref (m + 1)) rfl ?_
    refine r_bipush hC dX9_isTop_24 (v := 17) (by decide) ?_
    refine r_iload_n hC dX9_isTop_26 rfl (j := 2) rfl ?_
    refine r_iadd hC dX9_isTop_27 ?_
    rw [show (17 + 7 : Int32) = 24 from by decide]
    refine r_iconst hC dX9_isTop_28 (v := 5) (by decide) ?_
    refine r_isub hC dX9_isTop_29 ?_
    rw [show (24 - 5 : Int32) = 19 from by decide]
    refine r_iald hC dX9_isTop_30 (j := 19) hv ⟨by decide, by decide, by decide⟩ ?_
    rw [show enc ((f, g, sl, op, lo), hd, rs, np, tp, av, lg, pl, tk) 19 = f 2 from enc_hi (c := 2) (by decide)]
    refine r_icmp_le hC dX9_isTop_31 (tgt := 59) (by decide) (fun c31 => ?_) (fun c31 => ?_)
    · refine r_iconst hC dX9_isTop_59 (v := 0) (by decide) ?_
      refine r_istore_n hC dX9_isTop_60 rfl (by rw [hnl]; decide) (L' := [(3, .int 0), (2, .int (f 7)), (0, .ref m), (1, .int 7)]) rfl ?_
      refine r_iload_n hC dX9_isTop_61 rfl (j := 0) rfl ?_
      refine r_if_eq hC dX9_isTop_62 (tgt := 112) (by decide) (fun _ => ?_) (fun h => absurd (by decide) h)
      refine r_iconst hC dX9_isTop_112 (v := 0) (by decide) ?_
      refine r_nret hC hE hR dX9_isTop_113 (by decide) (by omega) (by omega) (rfl) ?_
      have z0 : 0 < f 7 := Int32.not_le.mp c11
      have z1 : ¬ f 2 < f 7 := Int32.not_lt.mpr c31
      have e9 : hPeak f 7 = false := by
        unfold hPeak
        rw [show hNb 7 0 = 2 from by decide, decide_eq_false z1]
        simp
      exact ⟨by rw [e9]; rfl, rfl⟩
    · refine r_iload_n hC dX9_isTop_34 rfl (j := 2) rfl ?_
      refine r_bipush hC dX9_isTop_35 (v := 20) (by decide) ?_
      refine r_icmp_ge hC dX9_isTop_37 (tgt := 55) (by decide) (fun h => absurd h (by decide)) (fun _ => ?_)
      refine r_iload_n hC dX9_isTop_40 rfl (j := 0) rfl ?_
      refine r_aload_n hC dX9_isTop_41 rfl (j := 1) rfl ?_
      refine r_get hC gX9_isTop_42 hm (v := .ref (m + 1)) rfl ?_
      refine r_bipush hC dX9_isTop_45 (v := 17) (by decide) ?_
      refine r_iload_n hC dX9_isTop_47 rfl (j := 2) rfl ?_
      refine r_iadd hC dX9_isTop_48 ?_
      rw [show (17 + 7 : Int32) = 24 from by decide]
      refine r_iconst hC dX9_isTop_49 (v := 5) (by decide) ?_
      refine r_iadd hC dX9_isTop_50 ?_
      rw [show (24 + 5 : Int32) = 29 from by decide]
      refine r_iald hC dX9_isTop_51 (j := 29) hv ⟨by decide, by decide, by decide⟩ ?_
      rw [show enc ((f, g, sl, op, lo), hd, rs, np, tp, av, lg, pl, tk) 29 = f 12 from enc_hi (c := 12) (by decide)]
      refine r_icmp_le hC dX9_isTop_52 (tgt := 59) (by decide) (fun c52 => ?_) (fun c52 => ?_)
      · refine r_iconst hC dX9_isTop_59 (v := 0) (by decide) ?_
        refine r_istore_n hC dX9_isTop_60 rfl (by rw [hnl]; decide) (L' := [(3, .int 0), (2, .int (f 7)), (0, .ref m), (1, .int 7)]) rfl ?_
        refine r_iload_n hC dX9_isTop_61 rfl (j := 0) rfl ?_
        refine r_if_eq hC dX9_isTop_62 (tgt := 112) (by decide) (fun _ => ?_) (fun h => absurd (by decide) h)
        refine r_iconst hC dX9_isTop_112 (v := 0) (by decide) ?_
        refine r_nret hC hE hR dX9_isTop_113 (by decide) (by omega) (by omega) (rfl) ?_
        have z0 : 0 < f 7 := Int32.not_le.mp c11
        have z1 : ¬ f 12 < f 7 := Int32.not_lt.mpr c52
        have e9 : hPeak f 7 = false := by
          unfold hPeak
          rw [show hNb 7 3 = 12 from by decide, decide_eq_false z1]
          simp
        exact ⟨by rw [e9]; rfl, rfl⟩
      · refine r_iconst hC dX9_isTop_55 (v := 1) (by decide) ?_
        refine r_goto hC dX9_isTop_56 (tgt := 60) (by decide) ?_
        refine r_istore_n hC dX9_isTop_60 rfl (by rw [hnl]; decide) (L' := [(3, .int 1), (2, .int (f 7)), (0, .ref m), (1, .int 7)]) rfl ?_
        refine r_iload_n hC dX9_isTop_61 rfl (j := 0) rfl ?_
        refine r_if_eq hC dX9_isTop_62 (tgt := 112) (by decide) (fun h => absurd h (by decide)) (fun _ => ?_)
        refine r_iload_n hC dX9_isTop_65 rfl (j := 3) rfl ?_
        refine r_iconst hC dX9_isTop_66 (v := 5) (by decide) ?_
        refine r_irem hC dX9_isTop_67 (by decide) ?_
        rw [show (7 - 7 / 5 * 5 : Int32) = 2 from by decide]
        refine r_if_eq hC dX9_isTop_68 (tgt := 86) (by decide) (fun h => absurd h (by decide)) (fun _ => ?_)
        refine r_iload_n hC dX9_isTop_71 rfl (j := 1) rfl ?_
        refine r_aload_n hC dX9_isTop_72 rfl (j := 2) rfl ?_
        refine r_get hC gX9_isTop_73 hm (v := .ref (m + 1)) rfl ?_
        refine r_bipush hC dX9_isTop_76 (v := 17) (by decide) ?_
        refine r_iload_n hC dX9_isTop_78 rfl (j := 3) rfl ?_
        refine r_iadd hC dX9_isTop_79 ?_
        rw [show (17 + 7 : Int32) = 24 from by decide]
        refine r_iconst hC dX9_isTop_80 (v := 1) (by decide) ?_
        refine r_isub hC dX9_isTop_81 ?_
        rw [show (24 - 1 : Int32) = 23 from by decide]
        refine r_iald hC dX9_isTop_82 (j := 23) hv ⟨by decide, by decide, by decide⟩ ?_
        rw [show enc ((f, g, sl, op, lo), hd, rs, np, tp, av, lg, pl, tk) 23 = f 6 from enc_hi (c := 6) (by decide)]
        refine r_icmp_le hC dX9_isTop_83 (tgt := 112) (by decide) (fun c83 => ?_) (fun c83 => ?_)
        · refine r_iconst hC dX9_isTop_112 (v := 0) (by decide) ?_
          refine r_nret hC hE hR dX9_isTop_113 (by decide) (by omega) (by omega) (rfl) ?_
          have z0 : 0 < f 7 := Int32.not_le.mp c11
          have z1 : ¬ f 6 < f 7 := Int32.not_lt.mpr c83
          have e9 : hPeak f 7 = false := by
            unfold hPeak
            rw [show hNb 7 1 = 6 from by decide, decide_eq_false z1]
            simp
          exact ⟨by rw [e9]; rfl, rfl⟩
        · refine r_iload_n hC dX9_isTop_86 rfl (j := 3) rfl ?_
          refine r_iconst hC dX9_isTop_87 (v := 5) (by decide) ?_
          refine r_irem hC dX9_isTop_88 (by decide) ?_
          rw [show (7 - 7 / 5 * 5 : Int32) = 2 from by decide]
          refine r_iconst hC dX9_isTop_89 (v := 4) (by decide) ?_
          refine r_icmp_eq hC dX9_isTop_90 (tgt := 108) (by decide) (fun h => absurd h (by decide)) (fun _ => ?_)
          refine r_iload_n hC dX9_isTop_93 rfl (j := 1) rfl ?_
          refine r_aload_n hC dX9_isTop_94 rfl (j := 2) rfl ?_
          refine r_get hC gX9_isTop_95 hm (v := .ref (m + 1)) rfl ?_
          refine r_bipush hC dX9_isTop_98 (v := 17) (by decide) ?_
          refine r_iload_n hC dX9_isTop_100 rfl (j := 3) rfl ?_
          refine r_iadd hC dX9_isTop_101 ?_
          rw [show (17 + 7 : Int32) = 24 from by decide]
          refine r_iconst hC dX9_isTop_102 (v := 1) (by decide) ?_
          refine r_iadd hC dX9_isTop_103 ?_
          rw [show (24 + 1 : Int32) = 25 from by decide]
          refine r_iald hC dX9_isTop_104 (j := 25) hv ⟨by decide, by decide, by decide⟩ ?_
          rw [show enc ((f, g, sl, op, lo), hd, rs, np, tp, av, lg, pl, tk) 25 = f 8 from enc_hi (c := 8) (by decide)]
          refine r_icmp_le hC dX9_isTop_105 (tgt := 112) (by decide) (fun c105 => ?_) (fun c105 => ?_)
          · refine r_iconst hC dX9_isTop_112 (v := 0) (by decide) ?_
            refine r_nret hC hE hR dX9_isTop_113 (by decide) (by omega) (by omega) (rfl) ?_
            have z0 : 0 < f 7 := Int32.not_le.mp c11
            have z1 : ¬ f 8 < f 7 := Int32.not_lt.mpr c105
            have e9 : hPeak f 7 = false := by
              unfold hPeak
              rw [show hNb 7 2 = 8 from by decide, decide_eq_false z1]
              simp
            exact ⟨by rw [e9]; rfl, rfl⟩
          · refine r_iconst hC dX9_isTop_108 (v := 1) (by decide) ?_
            refine r_goto hC dX9_isTop_109 (tgt := 113) (by decide) ?_
            refine r_nret hC hE hR dX9_isTop_113 (by decide) (by omega) (by omega) (rfl) ?_
            have z0 : 0 < f 7 := Int32.not_le.mp c11
            have y2 : f 2 < f 7 := Int32.not_le.mp c31
            have y12 : f 12 < f 7 := Int32.not_le.mp c52
            have y6 : f 6 < f 7 := Int32.not_le.mp c83
            have y8 : f 8 < f 7 := Int32.not_le.mp c105
            have z2 : ¬ f 7 = 0 := fun z => Int32.ne_of_lt z0 z.symm
            have y25 : f 25 < f 7 := by rw [h25]; exact z0
            have e9 : hPeak f 7 = true := by
              unfold hPeak
              rw [show hNb 7 0 = 2 from by decide, show hNb 7 1 = 6 from by decide, show hNb 7 2 = 8 from by decide, show hNb 7 3 = 12 from by decide, decide_eq_true z2, decide_eq_true y2, decide_eq_true y6, decide_eq_true y8, decide_eq_true y12]
              rfl
            exact ⟨by rw [e9]; rfl, rfl⟩
set_option maxRecDepth 100000 in
set_option maxHeartbeats 4000000 in
theorem sm_isTop8 {d : Nat} {w : mW} {m : Nat} {th ch ea fa sv0 tn he en ln iw id0 : Int32} {f g : Nat → Int32} {sl op lo : Int32} {hd rs : Nat → Int32} {np : Nat} {tp av lg pl tk : Int32} (hm : w[m]? = some (mO 10 [.int th, .int ch, .int ea, .int fa, .int sv0, .ref (m + 1), .ref (m + 2), .ref (m + 3), .ref (m + 4), .ref (m + 5), .ref (m + 6), .ref (m + 7), .ref (m + 8), .ref (m + 9), .ref (m + 10), .int tn, .int he, .int en, .int ln, .int iw, .int id0])) (hv : w[m + 1]? = some (mI 0 67 (enc ((f, g, sl, op, lo), hd, rs, np, tp, av, lg, pl, tk)))) (h25 : f 25 = 0) (hpos : ∀ j, j < 25 → ¬ f j < 0) : Sp d yX9_isTop cX9_isTop 4 (some .boolean) [.ref m, .int 8] w 0 0 (fun v w' => v = some (.int (bI (hPeak f 8))) ∧ w' = w) noX := by
  refine Sp.of (by decide +kernel) (Nat.le_of_ble_eq_true rfl) (fun X hC hnl hE hR hN => ?_)
  have hC : Cx X RX9 cX9_isTop d 0 0 := hC
  show Wp X 0 0 w [(0, .ref m), (1, .int 8)] [] 0
  refine r_aload_n hC dX9_isTop_0 rfl (j := 0) rfl ?_
  refine r_get hC gX9_isTop_1 hm (v := .ref (m + 1)) rfl ?_
  refine r_bipush hC dX9_isTop_4 (v := 17) (by decide) ?_
  refine r_iload_n hC dX9_isTop_6 rfl (j := 1) rfl ?_
  refine r_iadd hC dX9_isTop_7 ?_
  rw [show (17 + 8 : Int32) = 25 from by decide]
  refine r_iald hC dX9_isTop_8 (j := 25) hv ⟨by decide, by decide, by decide⟩ ?_
  rw [show enc ((f, g, sl, op, lo), hd, rs, np, tp, av, lg, pl, tk) 25 = f 8 from enc_hi (c := 8) (by decide)]
  refine r_istore_n hC dX9_isTop_9 rfl (by rw [hnl]; decide) (L' := [(2, .int (f 8)), (0, .ref m), (1, .int 8)]) rfl ?_
  refine r_iload_n hC dX9_isTop_10 rfl (j := 0) rfl ?_
  refine r_if_le hC dX9_isTop_11 (tgt := 59) (by decide) (fun c11 => ?_) (fun c11 => ?_)
  · refine r_iconst hC dX9_isTop_59 (v := 0) (by decide) ?_
    refine r_istore_n hC dX9_isTop_60 rfl (by rw [hnl]; decide) (L' := [(3, .int 0), (2, .int (f 8)), (0, .ref m), (1, .int 8)]) rfl ?_
    refine r_iload_n hC dX9_isTop_61 rfl (j := 0) rfl ?_
    refine r_if_eq hC dX9_isTop_62 (tgt := 112) (by decide) (fun _ => ?_) (fun h => absurd (by decide) h)
    refine r_iconst hC dX9_isTop_112 (v := 0) (by decide) ?_
    refine r_nret hC hE hR dX9_isTop_113 (by decide) (by omega) (by omega) (rfl) ?_
    have z1 : f 8 = 0 := Int32.le_antisymm c11 (Int32.not_lt.mp (hpos 8 (by decide)))
    have e9 : hPeak f 8 = false := by
      unfold hPeak
      rw [z1]
      rfl
    exact ⟨by rw [e9]; rfl, rfl⟩
  · refine r_iload_n hC dX9_isTop_14 rfl (j := 2) rfl ?_
    refine r_iconst hC dX9_isTop_15 (v := 5) (by decide) ?_
    refine r_icmp_lt hC dX9_isTop_16 (tgt := 34) (by decide) (fun h => absurd h (by decide)) (fun _ => ?_)
    refine r_iload_n hC dX9_isTop_19 rfl (j := 0) rfl ?_
    refine r_aload_n hC dX9_isTop_20 rfl (j := 1) rfl ?_
    refine r_get hC gX9_isTop_21 hm (v := .ref (m + 1)) rfl ?_
    refine r_bipush hC dX9_isTop_24 (v := 17) (by decide) ?_
    refine r_iload_n hC dX9_isTop_26 rfl (j := 2) rfl ?_
    refine r_iadd hC dX9_isTop_27 ?_
    rw [show (17 + 8 : Int32) = 25 from by decide]
    refine r_iconst hC dX9_isTop_28 (v := 5) (by decide) ?_
    refine r_isub hC dX9_isTop_29 ?_
    rw [show (25 - 5 : Int32) = 20 from by decide]
    refine r_iald hC dX9_isTop_30 (j := 20) hv ⟨by decide, by decide, by decide⟩ ?_
    rw [show enc ((f, g, sl, op, lo), hd, rs, np, tp, av, lg, pl, tk) 20 = f 3 from enc_hi (c := 3) (by decide)]
    refine r_icmp_le hC dX9_isTop_31 (tgt := 59) (by decide) (fun c31 => ?_) (fun c31 => ?_)
    · refine r_iconst hC dX9_isTop_59 (v := 0) (by decide) ?_
      refine r_istore_n hC dX9_isTop_60 rfl (by rw [hnl]; decide) (L' := [(3, .int 0), (2, .int (f 8)), (0, .ref m), (1, .int 8)]) rfl ?_
      refine r_iload_n hC dX9_isTop_61 rfl (j := 0) rfl ?_
      refine r_if_eq hC dX9_isTop_62 (tgt := 112) (by decide) (fun _ => ?_) (fun h => absurd (by decide) h)
      refine r_iconst hC dX9_isTop_112 (v := 0) (by decide) ?_
      refine r_nret hC hE hR dX9_isTop_113 (by decide) (by omega) (by omega) (rfl) ?_
      have z0 : 0 < f 8 := Int32.not_le.mp c11
      have z1 : ¬ f 3 < f 8 := Int32.not_lt.mpr c31
      have e9 : hPeak f 8 = false := by
        unfold hPeak
        rw [show hNb 8 0 = 3 from by decide, decide_eq_false z1]
        simp
      exact ⟨by rw [e9]; rfl, rfl⟩
    · refine r_iload_n hC dX9_isTop_34 rfl (j := 2) rfl ?_
      refine r_bipush hC dX9_isTop_35 (v := 20) (by decide) ?_
      refine r_icmp_ge hC dX9_isTop_37 (tgt := 55) (by decide) (fun h => absurd h (by decide)) (fun _ => ?_)
      refine r_iload_n hC dX9_isTop_40 rfl (j := 0) rfl ?_
      refine r_aload_n hC dX9_isTop_41 rfl (j := 1) rfl ?_
      refine r_get hC gX9_isTop_42 hm (v := .ref (m + 1)) rfl ?_
      refine r_bipush hC dX9_isTop_45 (v := 17) (by decide) ?_
      refine r_iload_n hC dX9_isTop_47 rfl (j := 2) rfl ?_
      refine r_iadd hC dX9_isTop_48 ?_
      rw [show (17 + 8 : Int32) = 25 from by decide]
      refine r_iconst hC dX9_isTop_49 (v := 5) (by decide) ?_
      refine r_iadd hC dX9_isTop_50 ?_
      rw [show (25 + 5 : Int32) = 30 from by decide]
      refine r_iald hC dX9_isTop_51 (j := 30) hv ⟨by decide, by decide, by decide⟩ ?_
      rw [show enc ((f, g, sl, op, lo), hd, rs, np, tp, av, lg, pl, tk) 30 = f 13 from enc_hi (c := 13) (by decide)]
      refine r_icmp_le hC dX9_isTop_52 (tgt := 59) (by decide) (fun c52 => ?_) (fun c52 => ?_)
      · refine r_iconst hC dX9_isTop_59 (v := 0) (by decide) ?_
        refine r_istore_n hC dX9_isTop_60 rfl (by rw [hnl]; decide) (L' := [(3, .int 0), (2, .int (f 8)), (0, .ref m), (1, .int 8)]) rfl ?_
        refine r_iload_n hC dX9_isTop_61 rfl (j := 0) rfl ?_
        refine r_if_eq hC dX9_isTop_62 (tgt := 112) (by decide) (fun _ => ?_) (fun h => absurd (by decide) h)
        refine r_iconst hC dX9_isTop_112 (v := 0) (by decide) ?_
        refine r_nret hC hE hR dX9_isTop_113 (by decide) (by omega) (by omega) (rfl) ?_
        have z0 : 0 < f 8 := Int32.not_le.mp c11
        have z1 : ¬ f 13 < f 8 := Int32.not_lt.mpr c52
        have e9 : hPeak f 8 = false := by
          unfold hPeak
          rw [show hNb 8 3 = 13 from by decide, decide_eq_false z1]
          simp
        exact ⟨by rw [e9]; rfl, rfl⟩
      · refine r_iconst hC dX9_isTop_55 (v := 1) (by decide) ?_
        refine r_goto hC dX9_isTop_56 (tgt := 60) (by decide) ?_
        refine r_istore_n hC dX9_isTop_60 rfl (by rw [hnl]; decide) (L' := [(3, .int 1), (2, .int (f 8)), (0, .ref m), (1, .int 8)]) rfl ?_
        refine r_iload_n hC dX9_isTop_61 rfl (j := 0) rfl ?_
        refine r_if_eq hC dX9_isTop_62 (tgt := 112) (by decide) (fun h => absurd h (by decide)) (fun _ => ?_)
        refine r_iload_n hC dX9_isTop_65 rfl (j := 3) rfl ?_
        refine r_iconst hC dX9_isTop_66 (v := 5) (by decide) ?_
        refine r_irem hC dX9_isTop_67 (by decide) ?_
        rw [show (8 - 8 / 5 * 5 : Int32) = 3 from by decide]
        refine r_if_eq hC dX9_isTop_68 (tgt := 86) (by decide) (fun h => absurd h (by decide)) (fun _ => ?_)
        refine r_iload_n hC dX9_isTop_71 rfl (j := 1) rfl ?_
        refine r_aload_n hC dX9_isTop_72 rfl (j := 2) rfl ?_
        refine r_get hC gX9_isTop_73 hm (v := .ref (m + 1)) rfl ?_
        refine r_bipush hC dX9_isTop_76 (v := 17) (by decide) ?_
        refine r_iload_n hC dX9_isTop_78 rfl (j := 3) rfl ?_
        refine r_iadd hC dX9_isTop_79 ?_
        rw [show (17 + 8 : Int32) = 25 from by decide]
        refine r_iconst hC dX9_isTop_80 (v := 1) (by decide) ?_
        refine r_isub hC dX9_isTop_81 ?_
        rw [show (25 - 1 : Int32) = 24 from by decide]
        refine r_iald hC dX9_isTop_82 (j := 24) hv ⟨by decide, by decide, by decide⟩ ?_
        rw [show enc ((f, g, sl, op, lo), hd, rs, np, tp, av, lg, pl, tk) 24 = f 7 from enc_hi (c := 7) (by decide)]
        refine r_icmp_le hC dX9_isTop_83 (tgt := 112) (by decide) (fun c83 => ?_) (fun c83 => ?_)
        · refine r_iconst hC dX9_isTop_112 (v := 0) (by decide) ?_
          refine r_nret hC hE hR dX9_isTop_113 (by decide) (by omega) (by omega) (rfl) ?_
          have z0 : 0 < f 8 := Int32.not_le.mp c11
          have z1 : ¬ f 7 < f 8 := Int32.not_lt.mpr c83
          have e9 : hPeak f 8 = false := by
            unfold hPeak
            rw [show hNb 8 1 = 7 from by decide, decide_eq_false z1]
            simp
          exact ⟨by rw [e9]; rfl, rfl⟩
        · refine r_iload_n hC dX9_isTop_86 rfl (j := 3) rfl ?_
          refine r_iconst hC dX9_isTop_87 (v := 5) (by decide) ?_
          refine r_irem hC dX9_isTop_88 (by decide) ?_
          rw [show (8 - 8 / 5 * 5 : Int32) = 3 from by decide]
          refine r_iconst hC dX9_isTop_89 (v := 4) (by decide) ?_
          refine r_icmp_eq hC dX9_isTop_90 (tgt := 108) (by decide) (fun h => absurd h (by decide)) (fun _ => ?_)
          refine r_iload_n hC dX9_isTop_93 rfl (j := 1) rfl ?_
          refine r_aload_n hC dX9_isTop_94 rfl (j := 2) rfl ?_
          refine r_get hC gX9_isTop_95 hm (v := .ref (m + 1)) rfl ?_
          refine r_bipush hC dX9_isTop_98 (v := 17) (by decide) ?_
          refine r_iload_n hC dX9_isTop_100 rfl (j := 3) rfl ?_
          refine r_iadd hC dX9_isTop_101 ?_
          rw [show (17 + 8 : Int32) = 25 from by decide]
          refine r_iconst hC dX9_isTop_102 (v := 1) (by decide) ?_
          refine r_iadd hC dX9_isTop_103 ?_
          rw [show (25 + 1 : Int32) = 26 from by decide]
          refine r_iald hC dX9_isTop_104 (j := 26) hv ⟨by decide, by decide, by decide⟩ ?_
          rw [show enc ((f, g, sl, op, lo), hd, rs, np, tp, av, lg, pl, tk) 26 = f 9 from enc_hi (c := 9) (by decide)]
          refine r_icmp_le hC dX9_isTop_105 (tgt := 112) (by decide) (fun c105 => ?_) (fun c105 => ?_)
          · refine r_iconst hC dX9_isTop_112 (v := 0) (by decide) ?_
            refine r_nret hC hE hR dX9_isTop_113 (by decide) (by omega) (by omega) (rfl) ?_
            have z0 : 0 < f 8 := Int32.not_le.mp c11
            have z1 : ¬ f 9 < f 8 := Int32.not_lt.mpr c105
            have e9 : hPeak f 8 = false := by
              unfold hPeak
              rw [show hNb 8 2 = 9 from by decide, decide_eq_false z1]
              simp
            exact ⟨by rw [e9]; rfl, rfl⟩
          · refine r_iconst hC dX9_isTop_108 (v := 1) (by decide) ?_
            refine r_goto hC dX9_isTop_109 (tgt := 113) (by decide) ?_
            refine r_nret hC hE hR dX9_isTop_113 (by decide) (by omega) (by omega) (rfl) ?_
            have z0 : 0 < f 8 := Int32.not_le.mp c11
            have y3 : f 3 < f 8 := Int32.not_le.mp c31
            have y13 : f 13 < f 8 := Int32.not_le.mp c52
            have y7 : f 7 < f 8 := Int32.not_le.mp c83
            have y9 : f 9 < f 8 := Int32.not_le.mp c105
            have z2 : ¬ f 8 = 0 := fun z => Int32.ne_of_lt z0 z.symm
            have y25 : f 25 < f 8 := by rw [h25]; exact z0
            have e9 : hPeak f 8 = true := by
              unfold hPeak
              rw [show hNb 8 0 = 3 from by decide, show hNb 8 1 = 7 from by decide, show hNb 8 2 = 9 from by decide, show hNb 8 3 = 13 from by decide, decide_eq_true z2, decide_eq_true y3, decide_eq_true y7, decide_eq_true y9, decide_eq_true y13]
              rfl
            exact ⟨by rw [e9]; rfl, rfl⟩
set_option maxRecDepth 100000 in
set_option maxHeartbeats 4000000 in
theorem sm_isTop9 {d : Nat} {w : mW} {m : Nat} {th ch ea fa sv0 tn he en ln iw id0 : Int32} {f g : Nat → Int32} {sl op lo : Int32} {hd rs : Nat → Int32} {np : Nat} {tp av lg pl tk : Int32} (hm : w[m]? = some (mO 10 [.int th, .int ch, .int ea, .int fa, .int sv0, .ref (m + 1), .ref (m + 2), .ref (m + 3), .ref (m + 4), .ref (m + 5), .ref (m + 6), .ref (m + 7), .ref (m + 8), .ref (m + 9), .ref (m + 10), .int tn, .int he, .int en, .int ln, .int iw, .int id0])) (hv : w[m + 1]? = some (mI 0 67 (enc ((f, g, sl, op, lo), hd, rs, np, tp, av, lg, pl, tk)))) (h25 : f 25 = 0) (hpos : ∀ j, j < 25 → ¬ f j < 0) : Sp d yX9_isTop cX9_isTop 4 (some .boolean) [.ref m, .int 9] w 0 0 (fun v w' => v = some (.int (bI (hPeak f 9))) ∧ w' = w) noX := by
  refine Sp.of (by decide +kernel) (Nat.le_of_ble_eq_true rfl) (fun X hC hnl hE hR hN => ?_)
  have hC : Cx X RX9 cX9_isTop d 0 0 := hC
  show Wp X 0 0 w [(0, .ref m), (1, .int 9)] [] 0
  refine r_aload_n hC dX9_isTop_0 rfl (j := 0) rfl ?_
  refine r_get hC gX9_isTop_1 hm (v := .ref (m + 1)) rfl ?_
  refine r_bipush hC dX9_isTop_4 (v := 17) (by decide) ?_
  refine r_iload_n hC dX9_isTop_6 rfl (j := 1) rfl ?_
  refine r_iadd hC dX9_isTop_7 ?_
  rw [show (17 + 9 : Int32) = 26 from by decide]
  refine r_iald hC dX9_isTop_8 (j := 26) hv ⟨by decide, by decide, by decide⟩ ?_
  rw [show enc ((f, g, sl, op, lo), hd, rs, np, tp, av, lg, pl, tk) 26 = f 9 from enc_hi (c := 9) (by decide)]
  refine r_istore_n hC dX9_isTop_9 rfl (by rw [hnl]; decide) (L' := [(2, .int (f 9)), (0, .ref m), (1, .int 9)]) rfl ?_
  refine r_iload_n hC dX9_isTop_10 rfl (j := 0) rfl ?_
  refine r_if_le hC dX9_isTop_11 (tgt := 59) (by decide) (fun c11 => ?_) (fun c11 => ?_)
  · refine r_iconst hC dX9_isTop_59 (v := 0) (by decide) ?_
    refine r_istore_n hC dX9_isTop_60 rfl (by rw [hnl]; decide) (L' := [(3, .int 0), (2, .int (f 9)), (0, .ref m), (1, .int 9)]) rfl ?_
    refine r_iload_n hC dX9_isTop_61 rfl (j := 0) rfl ?_
    refine r_if_eq hC dX9_isTop_62 (tgt := 112) (by decide) (fun _ => ?_) (fun h => absurd (by decide) h)
    refine r_iconst hC dX9_isTop_112 (v := 0) (by decide) ?_
    refine r_nret hC hE hR dX9_isTop_113 (by decide) (by omega) (by omega) (rfl) ?_
    have z1 : f 9 = 0 := Int32.le_antisymm c11 (Int32.not_lt.mp (hpos 9 (by decide)))
    have e9 : hPeak f 9 = false := by
      unfold hPeak
      rw [z1]
      rfl
    exact ⟨by rw [e9]; rfl, rfl⟩
  · refine r_iload_n hC dX9_isTop_14 rfl (j := 2) rfl ?_
    refine r_iconst hC dX9_isTop_15 (v := 5) (by decide) ?_
    refine r_icmp_lt hC dX9_isTop_16 (tgt := 34) (by decide) (fun h => absurd h (by decide)) (fun _ => ?_)
    refine r_iload_n hC dX9_isTop_19 rfl (j := 0) rfl ?_
    refine r_aload_n hC dX9_isTop_20 rfl (j := 1) rfl ?_
    refine r_get hC gX9_isTop_21 hm (v := .ref (m + 1)) rfl ?_
    refine r_bipush hC dX9_isTop_24 (v := 17) (by decide) ?_
    refine r_iload_n hC dX9_isTop_26 rfl (j := 2) rfl ?_
    refine r_iadd hC dX9_isTop_27 ?_
    rw [show (17 + 9 : Int32) = 26 from by decide]
    refine r_iconst hC dX9_isTop_28 (v := 5) (by decide) ?_
    refine r_isub hC dX9_isTop_29 ?_
    rw [show (26 - 5 : Int32) = 21 from by decide]
    refine r_iald hC dX9_isTop_30 (j := 21) hv ⟨by decide, by decide, by decide⟩ ?_
    rw [show enc ((f, g, sl, op, lo), hd, rs, np, tp, av, lg, pl, tk) 21 = f 4 from enc_hi (c := 4) (by decide)]
    refine r_icmp_le hC dX9_isTop_31 (tgt := 59) (by decide) (fun c31 => ?_) (fun c31 => ?_)
    · refine r_iconst hC dX9_isTop_59 (v := 0) (by decide) ?_
      refine r_istore_n hC dX9_isTop_60 rfl (by rw [hnl]; decide) (L' := [(3, .int 0), (2, .int (f 9)), (0, .ref m), (1, .int 9)]) rfl ?_
      refine r_iload_n hC dX9_isTop_61 rfl (j := 0) rfl ?_
      refine r_if_eq hC dX9_isTop_62 (tgt := 112) (by decide) (fun _ => ?_) (fun h => absurd (by decide) h)
      refine r_iconst hC dX9_isTop_112 (v := 0) (by decide) ?_
      refine r_nret hC hE hR dX9_isTop_113 (by decide) (by omega) (by omega) (rfl) ?_
      have z0 : 0 < f 9 := Int32.not_le.mp c11
      have z1 : ¬ f 4 < f 9 := Int32.not_lt.mpr c31
      have e9 : hPeak f 9 = false := by
        unfold hPeak
        rw [show hNb 9 0 = 4 from by decide, decide_eq_false z1]
        simp
      exact ⟨by rw [e9]; rfl, rfl⟩
    · refine r_iload_n hC dX9_isTop_34 rfl (j := 2) rfl ?_
      refine r_bipush hC dX9_isTop_35 (v := 20) (by decide) ?_
      refine r_icmp_ge hC dX9_isTop_37 (tgt := 55) (by decide) (fun h => absurd h (by decide)) (fun _ => ?_)
      refine r_iload_n hC dX9_isTop_40 rfl (j := 0) rfl ?_
      refine r_aload_n hC dX9_isTop_41 rfl (j := 1) rfl ?_
      refine r_get hC gX9_isTop_42 hm (v := .ref (m + 1)) rfl ?_
      refine r_bipush hC dX9_isTop_45 (v := 17) (by decide) ?_
      refine r_iload_n hC dX9_isTop_47 rfl (j := 2) rfl ?_
      refine r_iadd hC dX9_isTop_48 ?_
      rw [show (17 + 9 : Int32) = 26 from by decide]
      refine r_iconst hC dX9_isTop_49 (v := 5) (by decide) ?_
      refine r_iadd hC dX9_isTop_50 ?_
      rw [show (26 + 5 : Int32) = 31 from by decide]
      refine r_iald hC dX9_isTop_51 (j := 31) hv ⟨by decide, by decide, by decide⟩ ?_
      rw [show enc ((f, g, sl, op, lo), hd, rs, np, tp, av, lg, pl, tk) 31 = f 14 from enc_hi (c := 14) (by decide)]
      refine r_icmp_le hC dX9_isTop_52 (tgt := 59) (by decide) (fun c52 => ?_) (fun c52 => ?_)
      · refine r_iconst hC dX9_isTop_59 (v := 0) (by decide) ?_
        refine r_istore_n hC dX9_isTop_60 rfl (by rw [hnl]; decide) (L' := [(3, .int 0), (2, .int (f 9)), (0, .ref m), (1, .int 9)]) rfl ?_
        refine r_iload_n hC dX9_isTop_61 rfl (j := 0) rfl ?_
        refine r_if_eq hC dX9_isTop_62 (tgt := 112) (by decide) (fun _ => ?_) (fun h => absurd (by decide) h)
        refine r_iconst hC dX9_isTop_112 (v := 0) (by decide) ?_
        refine r_nret hC hE hR dX9_isTop_113 (by decide) (by omega) (by omega) (rfl) ?_
        have z0 : 0 < f 9 := Int32.not_le.mp c11
        have z1 : ¬ f 14 < f 9 := Int32.not_lt.mpr c52
        have e9 : hPeak f 9 = false := by
          unfold hPeak
          rw [show hNb 9 2 = 14 from by decide, decide_eq_false z1]
          simp
        exact ⟨by rw [e9]; rfl, rfl⟩
      · refine r_iconst hC dX9_isTop_55 (v := 1) (by decide) ?_
        refine r_goto hC dX9_isTop_56 (tgt := 60) (by decide) ?_
        refine r_istore_n hC dX9_isTop_60 rfl (by rw [hnl]; decide) (L' := [(3, .int 1), (2, .int (f 9)), (0, .ref m), (1, .int 9)]) rfl ?_
        refine r_iload_n hC dX9_isTop_61 rfl (j := 0) rfl ?_
        refine r_if_eq hC dX9_isTop_62 (tgt := 112) (by decide) (fun h => absurd h (by decide)) (fun _ => ?_)
        refine r_iload_n hC dX9_isTop_65 rfl (j := 3) rfl ?_
        refine r_iconst hC dX9_isTop_66 (v := 5) (by decide) ?_
        refine r_irem hC dX9_isTop_67 (by decide) ?_
        rw [show (9 - 9 / 5 * 5 : Int32) = 4 from by decide]
        refine r_if_eq hC dX9_isTop_68 (tgt := 86) (by decide) (fun h => absurd h (by decide)) (fun _ => ?_)
        refine r_iload_n hC dX9_isTop_71 rfl (j := 1) rfl ?_
        refine r_aload_n hC dX9_isTop_72 rfl (j := 2) rfl ?_
        refine r_get hC gX9_isTop_73 hm (v := .ref (m + 1)) rfl ?_
        refine r_bipush hC dX9_isTop_76 (v := 17) (by decide) ?_
        refine r_iload_n hC dX9_isTop_78 rfl (j := 3) rfl ?_
        refine r_iadd hC dX9_isTop_79 ?_
        rw [show (17 + 9 : Int32) = 26 from by decide]
        refine r_iconst hC dX9_isTop_80 (v := 1) (by decide) ?_
        refine r_isub hC dX9_isTop_81 ?_
        rw [show (26 - 1 : Int32) = 25 from by decide]
        refine r_iald hC dX9_isTop_82 (j := 25) hv ⟨by decide, by decide, by decide⟩ ?_
        rw [show enc ((f, g, sl, op, lo), hd, rs, np, tp, av, lg, pl, tk) 25 = f 8 from enc_hi (c := 8) (by decide)]
        refine r_icmp_le hC dX9_isTop_83 (tgt := 112) (by decide) (fun c83 => ?_) (fun c83 => ?_)
        · refine r_iconst hC dX9_isTop_112 (v := 0) (by decide) ?_
          refine r_nret hC hE hR dX9_isTop_113 (by decide) (by omega) (by omega) (rfl) ?_
          have z0 : 0 < f 9 := Int32.not_le.mp c11
          have z1 : ¬ f 8 < f 9 := Int32.not_lt.mpr c83
          have e9 : hPeak f 9 = false := by
            unfold hPeak
            rw [show hNb 9 1 = 8 from by decide, decide_eq_false z1]
            simp
          exact ⟨by rw [e9]; rfl, rfl⟩
        · refine r_iload_n hC dX9_isTop_86 rfl (j := 3) rfl ?_
          refine r_iconst hC dX9_isTop_87 (v := 5) (by decide) ?_
          refine r_irem hC dX9_isTop_88 (by decide) ?_
          rw [show (9 - 9 / 5 * 5 : Int32) = 4 from by decide]
          refine r_iconst hC dX9_isTop_89 (v := 4) (by decide) ?_
          refine r_icmp_eq hC dX9_isTop_90 (tgt := 108) (by decide) (fun _ => ?_) (fun h => absurd (by decide) h)
          refine r_iconst hC dX9_isTop_108 (v := 1) (by decide) ?_
          refine r_goto hC dX9_isTop_109 (tgt := 113) (by decide) ?_
          refine r_nret hC hE hR dX9_isTop_113 (by decide) (by omega) (by omega) (rfl) ?_
          have z0 : 0 < f 9 := Int32.not_le.mp c11
          have y4 : f 4 < f 9 := Int32.not_le.mp c31
          have y14 : f 14 < f 9 := Int32.not_le.mp c52
          have y8 : f 8 < f 9 := Int32.not_le.mp c83
          have z2 : ¬ f 9 = 0 := fun z => Int32.ne_of_lt z0 z.symm
          have y25 : f 25 < f 9 := by rw [h25]; exact z0
          have e9 : hPeak f 9 = true := by
            unfold hPeak
            rw [show hNb 9 0 = 4 from by decide, show hNb 9 1 = 8 from by decide, show hNb 9 2 = 14 from by decide, show hNb 9 3 = 25 from by decide, decide_eq_true z2, decide_eq_true y4, decide_eq_true y8, decide_eq_true y14, decide_eq_true y25]
            rfl
          exact ⟨by rw [e9]; rfl, rfl⟩
set_option maxRecDepth 100000 in
set_option maxHeartbeats 4000000 in
theorem sm_isTop10 {d : Nat} {w : mW} {m : Nat} {th ch ea fa sv0 tn he en ln iw id0 : Int32} {f g : Nat → Int32} {sl op lo : Int32} {hd rs : Nat → Int32} {np : Nat} {tp av lg pl tk : Int32} (hm : w[m]? = some (mO 10 [.int th, .int ch, .int ea, .int fa, .int sv0, .ref (m + 1), .ref (m + 2), .ref (m + 3), .ref (m + 4), .ref (m + 5), .ref (m + 6), .ref (m + 7), .ref (m + 8), .ref (m + 9), .ref (m + 10), .int tn, .int he, .int en, .int ln, .int iw, .int id0])) (hv : w[m + 1]? = some (mI 0 67 (enc ((f, g, sl, op, lo), hd, rs, np, tp, av, lg, pl, tk)))) (h25 : f 25 = 0) (hpos : ∀ j, j < 25 → ¬ f j < 0) : Sp d yX9_isTop cX9_isTop 4 (some .boolean) [.ref m, .int 10] w 0 0 (fun v w' => v = some (.int (bI (hPeak f 10))) ∧ w' = w) noX := by
  refine Sp.of (by decide +kernel) (Nat.le_of_ble_eq_true rfl) (fun X hC hnl hE hR hN => ?_)
  have hC : Cx X RX9 cX9_isTop d 0 0 := hC
  show Wp X 0 0 w [(0, .ref m), (1, .int 10)] [] 0
  refine r_aload_n hC dX9_isTop_0 rfl (j := 0) rfl ?_
  refine r_get hC gX9_isTop_1 hm (v := .ref (m + 1)) rfl ?_
  refine r_bipush hC dX9_isTop_4 (v := 17) (by decide) ?_
  refine r_iload_n hC dX9_isTop_6 rfl (j := 1) rfl ?_
  refine r_iadd hC dX9_isTop_7 ?_
  rw [show (17 + 10 : Int32) = 27 from by decide]
  refine r_iald hC dX9_isTop_8 (j := 27) hv ⟨by decide, by decide, by decide⟩ ?_
  rw [show enc ((f, g, sl, op, lo), hd, rs, np, tp, av, lg, pl, tk) 27 = f 10 from enc_hi (c := 10) (by decide)]
  refine r_istore_n hC dX9_isTop_9 rfl (by rw [hnl]; decide) (L' := [(2, .int (f 10)), (0, .ref m), (1, .int 10)]) rfl ?_
  refine r_iload_n hC dX9_isTop_10 rfl (j := 0) rfl ?_
  refine r_if_le hC dX9_isTop_11 (tgt := 59) (by decide) (fun c11 => ?_) (fun c11 => ?_)
  · refine r_iconst hC dX9_isTop_59 (v := 0) (by decide) ?_
    refine r_istore_n hC dX9_isTop_60 rfl (by rw [hnl]; decide) (L' := [(3, .int 0), (2, .int (f 10)), (0, .ref m), (1, .int 10)]) rfl ?_
    refine r_iload_n hC dX9_isTop_61 rfl (j := 0) rfl ?_
    refine r_if_eq hC dX9_isTop_62 (tgt := 112) (by decide) (fun _ => ?_) (fun h => absurd (by decide) h)
    refine r_iconst hC dX9_isTop_112 (v := 0) (by decide) ?_
    refine r_nret hC hE hR dX9_isTop_113 (by decide) (by omega) (by omega) (rfl) ?_
    have z1 : f 10 = 0 := Int32.le_antisymm c11 (Int32.not_lt.mp (hpos 10 (by decide)))
    have e9 : hPeak f 10 = false := by
      unfold hPeak
      rw [z1]
      rfl
    exact ⟨by rw [e9]; rfl, rfl⟩
  · refine r_iload_n hC dX9_isTop_14 rfl (j := 2) rfl ?_
    refine r_iconst hC dX9_isTop_15 (v := 5) (by decide) ?_
    refine r_icmp_lt hC dX9_isTop_16 (tgt := 34) (by decide) (fun h => absurd h (by decide)) (fun _ => ?_)
    refine r_iload_n hC dX9_isTop_19 rfl (j := 0) rfl ?_
    refine r_aload_n hC dX9_isTop_20 rfl (j := 1) rfl ?_
    refine r_get hC gX9_isTop_21 hm (v := .ref (m + 1)) rfl ?_
    refine r_bipush hC dX9_isTop_24 (v := 17) (by decide) ?_
    refine r_iload_n hC dX9_isTop_26 rfl (j := 2) rfl ?_
    refine r_iadd hC dX9_isTop_27 ?_
    rw [show (17 + 10 : Int32) = 27 from by decide]
    refine r_iconst hC dX9_isTop_28 (v := 5) (by decide) ?_
    refine r_isub hC dX9_isTop_29 ?_
    rw [show (27 - 5 : Int32) = 22 from by decide]
    refine r_iald hC dX9_isTop_30 (j := 22) hv ⟨by decide, by decide, by decide⟩ ?_
    rw [show enc ((f, g, sl, op, lo), hd, rs, np, tp, av, lg, pl, tk) 22 = f 5 from enc_hi (c := 5) (by decide)]
    refine r_icmp_le hC dX9_isTop_31 (tgt := 59) (by decide) (fun c31 => ?_) (fun c31 => ?_)
    · refine r_iconst hC dX9_isTop_59 (v := 0) (by decide) ?_
      refine r_istore_n hC dX9_isTop_60 rfl (by rw [hnl]; decide) (L' := [(3, .int 0), (2, .int (f 10)), (0, .ref m), (1, .int 10)]) rfl ?_
      refine r_iload_n hC dX9_isTop_61 rfl (j := 0) rfl ?_
      refine r_if_eq hC dX9_isTop_62 (tgt := 112) (by decide) (fun _ => ?_) (fun h => absurd (by decide) h)
      refine r_iconst hC dX9_isTop_112 (v := 0) (by decide) ?_
      refine r_nret hC hE hR dX9_isTop_113 (by decide) (by omega) (by omega) (rfl) ?_
      have z0 : 0 < f 10 := Int32.not_le.mp c11
      have z1 : ¬ f 5 < f 10 := Int32.not_lt.mpr c31
      have e9 : hPeak f 10 = false := by
        unfold hPeak
        rw [show hNb 10 0 = 5 from by decide, decide_eq_false z1]
        simp
      exact ⟨by rw [e9]; rfl, rfl⟩
    · refine r_iload_n hC dX9_isTop_34 rfl (j := 2) rfl ?_
      refine r_bipush hC dX9_isTop_35 (v := 20) (by decide) ?_
      refine r_icmp_ge hC dX9_isTop_37 (tgt := 55) (by decide) (fun h => absurd h (by decide)) (fun _ => ?_)
      refine r_iload_n hC dX9_isTop_40 rfl (j := 0) rfl ?_
      refine r_aload_n hC dX9_isTop_41 rfl (j := 1) rfl ?_
      refine r_get hC gX9_isTop_42 hm (v := .ref (m + 1)) rfl ?_
      refine r_bipush hC dX9_isTop_45 (v := 17) (by decide) ?_
      refine r_iload_n hC dX9_isTop_47 rfl (j := 2) rfl ?_
      refine r_iadd hC dX9_isTop_48 ?_
      rw [show (17 + 10 : Int32) = 27 from by decide]
      refine r_iconst hC dX9_isTop_49 (v := 5) (by decide) ?_
      refine r_iadd hC dX9_isTop_50 ?_
      rw [show (27 + 5 : Int32) = 32 from by decide]
      refine r_iald hC dX9_isTop_51 (j := 32) hv ⟨by decide, by decide, by decide⟩ ?_
      rw [show enc ((f, g, sl, op, lo), hd, rs, np, tp, av, lg, pl, tk) 32 = f 15 from enc_hi (c := 15) (by decide)]
      refine r_icmp_le hC dX9_isTop_52 (tgt := 59) (by decide) (fun c52 => ?_) (fun c52 => ?_)
      · refine r_iconst hC dX9_isTop_59 (v := 0) (by decide) ?_
        refine r_istore_n hC dX9_isTop_60 rfl (by rw [hnl]; decide) (L' := [(3, .int 0), (2, .int (f 10)), (0, .ref m), (1, .int 10)]) rfl ?_
        refine r_iload_n hC dX9_isTop_61 rfl (j := 0) rfl ?_
        refine r_if_eq hC dX9_isTop_62 (tgt := 112) (by decide) (fun _ => ?_) (fun h => absurd (by decide) h)
        refine r_iconst hC dX9_isTop_112 (v := 0) (by decide) ?_
        refine r_nret hC hE hR dX9_isTop_113 (by decide) (by omega) (by omega) (rfl) ?_
        have z0 : 0 < f 10 := Int32.not_le.mp c11
        have z1 : ¬ f 15 < f 10 := Int32.not_lt.mpr c52
        have e9 : hPeak f 10 = false := by
          unfold hPeak
          rw [show hNb 10 2 = 15 from by decide, decide_eq_false z1]
          simp
        exact ⟨by rw [e9]; rfl, rfl⟩
      · refine r_iconst hC dX9_isTop_55 (v := 1) (by decide) ?_
        refine r_goto hC dX9_isTop_56 (tgt := 60) (by decide) ?_
        refine r_istore_n hC dX9_isTop_60 rfl (by rw [hnl]; decide) (L' := [(3, .int 1), (2, .int (f 10)), (0, .ref m), (1, .int 10)]) rfl ?_
        refine r_iload_n hC dX9_isTop_61 rfl (j := 0) rfl ?_
        refine r_if_eq hC dX9_isTop_62 (tgt := 112) (by decide) (fun h => absurd h (by decide)) (fun _ => ?_)
        refine r_iload_n hC dX9_isTop_65 rfl (j := 3) rfl ?_
        refine r_iconst hC dX9_isTop_66 (v := 5) (by decide) ?_
        refine r_irem hC dX9_isTop_67 (by decide) ?_
        rw [show (10 - 10 / 5 * 5 : Int32) = 0 from by decide]
        refine r_if_eq hC dX9_isTop_68 (tgt := 86) (by decide) (fun _ => ?_) (fun h => absurd (by decide) h)
        refine r_iload_n hC dX9_isTop_86 rfl (j := 3) rfl ?_
        refine r_iconst hC dX9_isTop_87 (v := 5) (by decide) ?_
        refine r_irem hC dX9_isTop_88 (by decide) ?_
        rw [show (10 - 10 / 5 * 5 : Int32) = 0 from by decide]
        refine r_iconst hC dX9_isTop_89 (v := 4) (by decide) ?_
        refine r_icmp_eq hC dX9_isTop_90 (tgt := 108) (by decide) (fun h => absurd h (by decide)) (fun _ => ?_)
        refine r_iload_n hC dX9_isTop_93 rfl (j := 1) rfl ?_
        refine r_aload_n hC dX9_isTop_94 rfl (j := 2) rfl ?_
        refine r_get hC gX9_isTop_95 hm (v := .ref (m + 1)) rfl ?_
        refine r_bipush hC dX9_isTop_98 (v := 17) (by decide) ?_
        refine r_iload_n hC dX9_isTop_100 rfl (j := 3) rfl ?_
        refine r_iadd hC dX9_isTop_101 ?_
        rw [show (17 + 10 : Int32) = 27 from by decide]
        refine r_iconst hC dX9_isTop_102 (v := 1) (by decide) ?_
        refine r_iadd hC dX9_isTop_103 ?_
        rw [show (27 + 1 : Int32) = 28 from by decide]
        refine r_iald hC dX9_isTop_104 (j := 28) hv ⟨by decide, by decide, by decide⟩ ?_
        rw [show enc ((f, g, sl, op, lo), hd, rs, np, tp, av, lg, pl, tk) 28 = f 11 from enc_hi (c := 11) (by decide)]
        refine r_icmp_le hC dX9_isTop_105 (tgt := 112) (by decide) (fun c105 => ?_) (fun c105 => ?_)
        · refine r_iconst hC dX9_isTop_112 (v := 0) (by decide) ?_
          refine r_nret hC hE hR dX9_isTop_113 (by decide) (by omega) (by omega) (rfl) ?_
          have z0 : 0 < f 10 := Int32.not_le.mp c11
          have z1 : ¬ f 11 < f 10 := Int32.not_lt.mpr c105
          have e9 : hPeak f 10 = false := by
            unfold hPeak
            rw [show hNb 10 1 = 11 from by decide, decide_eq_false z1]
            simp
          exact ⟨by rw [e9]; rfl, rfl⟩
        · refine r_iconst hC dX9_isTop_108 (v := 1) (by decide) ?_
          refine r_goto hC dX9_isTop_109 (tgt := 113) (by decide) ?_
          refine r_nret hC hE hR dX9_isTop_113 (by decide) (by omega) (by omega) (rfl) ?_
          have z0 : 0 < f 10 := Int32.not_le.mp c11
          have y5 : f 5 < f 10 := Int32.not_le.mp c31
          have y15 : f 15 < f 10 := Int32.not_le.mp c52
          have y11 : f 11 < f 10 := Int32.not_le.mp c105
          have z2 : ¬ f 10 = 0 := fun z => Int32.ne_of_lt z0 z.symm
          have y25 : f 25 < f 10 := by rw [h25]; exact z0
          have e9 : hPeak f 10 = true := by
            unfold hPeak
            rw [show hNb 10 0 = 5 from by decide, show hNb 10 1 = 11 from by decide, show hNb 10 2 = 15 from by decide, show hNb 10 3 = 25 from by decide, decide_eq_true z2, decide_eq_true y5, decide_eq_true y11, decide_eq_true y15, decide_eq_true y25]
            rfl
          exact ⟨by rw [e9]; rfl, rfl⟩
set_option maxRecDepth 100000 in
set_option maxHeartbeats 4000000 in
theorem sm_isTop11 {d : Nat} {w : mW} {m : Nat} {th ch ea fa sv0 tn he en ln iw id0 : Int32} {f g : Nat → Int32} {sl op lo : Int32} {hd rs : Nat → Int32} {np : Nat} {tp av lg pl tk : Int32} (hm : w[m]? = some (mO 10 [.int th, .int ch, .int ea, .int fa, .int sv0, .ref (m + 1), .ref (m + 2), .ref (m + 3), .ref (m + 4), .ref (m + 5), .ref (m + 6), .ref (m + 7), .ref (m + 8), .ref (m + 9), .ref (m + 10), .int tn, .int he, .int en, .int ln, .int iw, .int id0])) (hv : w[m + 1]? = some (mI 0 67 (enc ((f, g, sl, op, lo), hd, rs, np, tp, av, lg, pl, tk)))) (h25 : f 25 = 0) (hpos : ∀ j, j < 25 → ¬ f j < 0) : Sp d yX9_isTop cX9_isTop 4 (some .boolean) [.ref m, .int 11] w 0 0 (fun v w' => v = some (.int (bI (hPeak f 11))) ∧ w' = w) noX := by
  refine Sp.of (by decide +kernel) (Nat.le_of_ble_eq_true rfl) (fun X hC hnl hE hR hN => ?_)
  have hC : Cx X RX9 cX9_isTop d 0 0 := hC
  show Wp X 0 0 w [(0, .ref m), (1, .int 11)] [] 0
  refine r_aload_n hC dX9_isTop_0 rfl (j := 0) rfl ?_
  refine r_get hC gX9_isTop_1 hm (v := .ref (m + 1)) rfl ?_
  refine r_bipush hC dX9_isTop_4 (v := 17) (by decide) ?_
  refine r_iload_n hC dX9_isTop_6 rfl (j := 1) rfl ?_
  refine r_iadd hC dX9_isTop_7 ?_
  rw [show (17 + 11 : Int32) = 28 from by decide]
  refine r_iald hC dX9_isTop_8 (j := 28) hv ⟨by decide, by decide, by decide⟩ ?_
  rw [show enc ((f, g, sl, op, lo), hd, rs, np, tp, av, lg, pl, tk) 28 = f 11 from enc_hi (c := 11) (by decide)]
  refine r_istore_n hC dX9_isTop_9 rfl (by rw [hnl]; decide) (L' := [(2, .int (f 11)), (0, .ref m), (1, .int 11)]) rfl ?_
  refine r_iload_n hC dX9_isTop_10 rfl (j := 0) rfl ?_
  refine r_if_le hC dX9_isTop_11 (tgt := 59) (by decide) (fun c11 => ?_) (fun c11 => ?_)
  · refine r_iconst hC dX9_isTop_59 (v := 0) (by decide) ?_
    refine r_istore_n hC dX9_isTop_60 rfl (by rw [hnl]; decide) (L' := [(3, .int 0), (2, .int (f 11)), (0, .ref m), (1, .int 11)]) rfl ?_
    refine r_iload_n hC dX9_isTop_61 rfl (j := 0) rfl ?_
    refine r_if_eq hC dX9_isTop_62 (tgt := 112) (by decide) (fun _ => ?_) (fun h => absurd (by decide) h)
    refine r_iconst hC dX9_isTop_112 (v := 0) (by decide) ?_
    refine r_nret hC hE hR dX9_isTop_113 (by decide) (by omega) (by omega) (rfl) ?_
    have z1 : f 11 = 0 := Int32.le_antisymm c11 (Int32.not_lt.mp (hpos 11 (by decide)))
    have e9 : hPeak f 11 = false := by
      unfold hPeak
      rw [z1]
      rfl
    exact ⟨by rw [e9]; rfl, rfl⟩
  · refine r_iload_n hC dX9_isTop_14 rfl (j := 2) rfl ?_
    refine r_iconst hC dX9_isTop_15 (v := 5) (by decide) ?_
    refine r_icmp_lt hC dX9_isTop_16 (tgt := 34) (by decide) (fun h => absurd h (by decide)) (fun _ => ?_)
    refine r_iload_n hC dX9_isTop_19 rfl (j := 0) rfl ?_
    refine r_aload_n hC dX9_isTop_20 rfl (j := 1) rfl ?_
    refine r_get hC gX9_isTop_21 hm (v := .ref (m + 1)) rfl ?_
    refine r_bipush hC dX9_isTop_24 (v := 17) (by decide) ?_
    refine r_iload_n hC dX9_isTop_26 rfl (j := 2) rfl ?_
    refine r_iadd hC dX9_isTop_27 ?_
    rw [show (17 + 11 : Int32) = 28 from by decide]
    refine r_iconst hC dX9_isTop_28 (v := 5) (by decide) ?_
    refine r_isub hC dX9_isTop_29 ?_
    rw [show (28 - 5 : Int32) = 23 from by decide]
    refine r_iald hC dX9_isTop_30 (j := 23) hv ⟨by decide, by decide, by decide⟩ ?_
    rw [show enc ((f, g, sl, op, lo), hd, rs, np, tp, av, lg, pl, tk) 23 = f 6 from enc_hi (c := 6) (by decide)]
    refine r_icmp_le hC dX9_isTop_31 (tgt := 59) (by decide) (fun c31 => ?_) (fun c31 => ?_)
    · refine r_iconst hC dX9_isTop_59 (v := 0) (by decide) ?_
      refine r_istore_n hC dX9_isTop_60 rfl (by rw [hnl]; decide) (L' := [(3, .int 0), (2, .int (f 11)), (0, .ref m), (1, .int 11)]) rfl ?_
      refine r_iload_n hC dX9_isTop_61 rfl (j := 0) rfl ?_
      refine r_if_eq hC dX9_isTop_62 (tgt := 112) (by decide) (fun _ => ?_) (fun h => absurd (by decide) h)
      refine r_iconst hC dX9_isTop_112 (v := 0) (by decide) ?_
      refine r_nret hC hE hR dX9_isTop_113 (by decide) (by omega) (by omega) (rfl) ?_
      have z0 : 0 < f 11 := Int32.not_le.mp c11
      have z1 : ¬ f 6 < f 11 := Int32.not_lt.mpr c31
      have e9 : hPeak f 11 = false := by
        unfold hPeak
        rw [show hNb 11 0 = 6 from by decide, decide_eq_false z1]
        simp
      exact ⟨by rw [e9]; rfl, rfl⟩
    · refine r_iload_n hC dX9_isTop_34 rfl (j := 2) rfl ?_
      refine r_bipush hC dX9_isTop_35 (v := 20) (by decide) ?_
      refine r_icmp_ge hC dX9_isTop_37 (tgt := 55) (by decide) (fun h => absurd h (by decide)) (fun _ => ?_)
      refine r_iload_n hC dX9_isTop_40 rfl (j := 0) rfl ?_
      refine r_aload_n hC dX9_isTop_41 rfl (j := 1) rfl ?_
      refine r_get hC gX9_isTop_42 hm (v := .ref (m + 1)) rfl ?_
      refine r_bipush hC dX9_isTop_45 (v := 17) (by decide) ?_
      refine r_iload_n hC dX9_isTop_47 rfl (j := 2) rfl ?_
      refine r_iadd hC dX9_isTop_48 ?_
      rw [show (17 + 11 : Int32) = 28 from by decide]
      refine r_iconst hC dX9_isTop_49 (v := 5) (by decide) ?_
      refine r_iadd hC dX9_isTop_50 ?_
      rw [show (28 + 5 : Int32) = 33 from by decide]
      refine r_iald hC dX9_isTop_51 (j := 33) hv ⟨by decide, by decide, by decide⟩ ?_
      rw [show enc ((f, g, sl, op, lo), hd, rs, np, tp, av, lg, pl, tk) 33 = f 16 from enc_hi (c := 16) (by decide)]
      refine r_icmp_le hC dX9_isTop_52 (tgt := 59) (by decide) (fun c52 => ?_) (fun c52 => ?_)
      · refine r_iconst hC dX9_isTop_59 (v := 0) (by decide) ?_
        refine r_istore_n hC dX9_isTop_60 rfl (by rw [hnl]; decide) (L' := [(3, .int 0), (2, .int (f 11)), (0, .ref m), (1, .int 11)]) rfl ?_
        refine r_iload_n hC dX9_isTop_61 rfl (j := 0) rfl ?_
        refine r_if_eq hC dX9_isTop_62 (tgt := 112) (by decide) (fun _ => ?_) (fun h => absurd (by decide) h)
        refine r_iconst hC dX9_isTop_112 (v := 0) (by decide) ?_
        refine r_nret hC hE hR dX9_isTop_113 (by decide) (by omega) (by omega) (rfl) ?_
        have z0 : 0 < f 11 := Int32.not_le.mp c11
        have z1 : ¬ f 16 < f 11 := Int32.not_lt.mpr c52
        have e9 : hPeak f 11 = false := by
          unfold hPeak
          rw [show hNb 11 3 = 16 from by decide, decide_eq_false z1]
          simp
        exact ⟨by rw [e9]; rfl, rfl⟩
      · refine r_iconst hC dX9_isTop_55 (v := 1) (by decide) ?_
        refine r_goto hC dX9_isTop_56 (tgt := 60) (by decide) ?_
        refine r_istore_n hC dX9_isTop_60 rfl (by rw [hnl]; decide) (L' := [(3, .int 1), (2, .int (f 11)), (0, .ref m), (1, .int 11)]) rfl ?_
        refine r_iload_n hC dX9_isTop_61 rfl (j := 0) rfl ?_
        refine r_if_eq hC dX9_isTop_62 (tgt := 112) (by decide) (fun h => absurd h (by decide)) (fun _ => ?_)
        refine r_iload_n hC dX9_isTop_65 rfl (j := 3) rfl ?_
        refine r_iconst hC dX9_isTop_66 (v := 5) (by decide) ?_
        refine r_irem hC dX9_isTop_67 (by decide) ?_
        rw [show (11 - 11 / 5 * 5 : Int32) = 1 from by decide]
        refine r_if_eq hC dX9_isTop_68 (tgt := 86) (by decide) (fun h => absurd h (by decide)) (fun _ => ?_)
        refine r_iload_n hC dX9_isTop_71 rfl (j := 1) rfl ?_
        refine r_aload_n hC dX9_isTop_72 rfl (j := 2) rfl ?_
        refine r_get hC gX9_isTop_73 hm (v := .ref (m + 1)) rfl ?_
        refine r_bipush hC dX9_isTop_76 (v := 17) (by decide) ?_
        refine r_iload_n hC dX9_isTop_78 rfl (j := 3) rfl ?_
        refine r_iadd hC dX9_isTop_79 ?_
        rw [show (17 + 11 : Int32) = 28 from by decide]
        refine r_iconst hC dX9_isTop_80 (v := 1) (by decide) ?_
        refine r_isub hC dX9_isTop_81 ?_
        rw [show (28 - 1 : Int32) = 27 from by decide]
        refine r_iald hC dX9_isTop_82 (j := 27) hv ⟨by decide, by decide, by decide⟩ ?_
        rw [show enc ((f, g, sl, op, lo), hd, rs, np, tp, av, lg, pl, tk) 27 = f 10 from enc_hi (c := 10) (by decide)]
        refine r_icmp_le hC dX9_isTop_83 (tgt := 112) (by decide) (fun c83 => ?_) (fun c83 => ?_)
        · refine r_iconst hC dX9_isTop_112 (v := 0) (by decide) ?_
          refine r_nret hC hE hR dX9_isTop_113 (by decide) (by omega) (by omega) (rfl) ?_
          have z0 : 0 < f 11 := Int32.not_le.mp c11
          have z1 : ¬ f 10 < f 11 := Int32.not_lt.mpr c83
          have e9 : hPeak f 11 = false := by
            unfold hPeak
            rw [show hNb 11 1 = 10 from by decide, decide_eq_false z1]
            simp
          exact ⟨by rw [e9]; rfl, rfl⟩
        · refine r_iload_n hC dX9_isTop_86 rfl (j := 3) rfl ?_
          refine r_iconst hC dX9_isTop_87 (v := 5) (by decide) ?_
          refine r_irem hC dX9_isTop_88 (by decide) ?_
          rw [show (11 - 11 / 5 * 5 : Int32) = 1 from by decide]
          refine r_iconst hC dX9_isTop_89 (v := 4) (by decide) ?_
          refine r_icmp_eq hC dX9_isTop_90 (tgt := 108) (by decide) (fun h => absurd h (by decide)) (fun _ => ?_)
          refine r_iload_n hC dX9_isTop_93 rfl (j := 1) rfl ?_
          refine r_aload_n hC dX9_isTop_94 rfl (j := 2) rfl ?_
          refine r_get hC gX9_isTop_95 hm (v := .ref (m + 1)) rfl ?_
          refine r_bipush hC dX9_isTop_98 (v := 17) (by decide) ?_
          refine r_iload_n hC dX9_isTop_100 rfl (j := 3) rfl ?_
          refine r_iadd hC dX9_isTop_101 ?_
          rw [show (17 + 11 : Int32) = 28 from by decide]
          refine r_iconst hC dX9_isTop_102 (v := 1) (by decide) ?_
          refine r_iadd hC dX9_isTop_103 ?_
          rw [show (28 + 1 : Int32) = 29 from by decide]
          refine r_iald hC dX9_isTop_104 (j := 29) hv ⟨by decide, by decide, by decide⟩ ?_
          rw [show enc ((f, g, sl, op, lo), hd, rs, np, tp, av, lg, pl, tk) 29 = f 12 from enc_hi (c := 12) (by decide)]
          refine r_icmp_le hC dX9_isTop_105 (tgt := 112) (by decide) (fun c105 => ?_) (fun c105 => ?_)
          · refine r_iconst hC dX9_isTop_112 (v := 0) (by decide) ?_
            refine r_nret hC hE hR dX9_isTop_113 (by decide) (by omega) (by omega) (rfl) ?_
            have z0 : 0 < f 11 := Int32.not_le.mp c11
            have z1 : ¬ f 12 < f 11 := Int32.not_lt.mpr c105
            have e9 : hPeak f 11 = false := by
              unfold hPeak
              rw [show hNb 11 2 = 12 from by decide, decide_eq_false z1]
              simp
            exact ⟨by rw [e9]; rfl, rfl⟩
          · refine r_iconst hC dX9_isTop_108 (v := 1) (by decide) ?_
            refine r_goto hC dX9_isTop_109 (tgt := 113) (by decide) ?_
            refine r_nret hC hE hR dX9_isTop_113 (by decide) (by omega) (by omega) (rfl) ?_
            have z0 : 0 < f 11 := Int32.not_le.mp c11
            have y6 : f 6 < f 11 := Int32.not_le.mp c31
            have y16 : f 16 < f 11 := Int32.not_le.mp c52
            have y10 : f 10 < f 11 := Int32.not_le.mp c83
            have y12 : f 12 < f 11 := Int32.not_le.mp c105
            have z2 : ¬ f 11 = 0 := fun z => Int32.ne_of_lt z0 z.symm
            have y25 : f 25 < f 11 := by rw [h25]; exact z0
            have e9 : hPeak f 11 = true := by
              unfold hPeak
              rw [show hNb 11 0 = 6 from by decide, show hNb 11 1 = 10 from by decide, show hNb 11 2 = 12 from by decide, show hNb 11 3 = 16 from by decide, decide_eq_true z2, decide_eq_true y6, decide_eq_true y10, decide_eq_true y12, decide_eq_true y16]
              rfl
            exact ⟨by rw [e9]; rfl, rfl⟩
set_option maxRecDepth 100000 in
set_option maxHeartbeats 4000000 in
theorem sm_isTop12 {d : Nat} {w : mW} {m : Nat} {th ch ea fa sv0 tn he en ln iw id0 : Int32} {f g : Nat → Int32} {sl op lo : Int32} {hd rs : Nat → Int32} {np : Nat} {tp av lg pl tk : Int32} (hm : w[m]? = some (mO 10 [.int th, .int ch, .int ea, .int fa, .int sv0, .ref (m + 1), .ref (m + 2), .ref (m + 3), .ref (m + 4), .ref (m + 5), .ref (m + 6), .ref (m + 7), .ref (m + 8), .ref (m + 9), .ref (m + 10), .int tn, .int he, .int en, .int ln, .int iw, .int id0])) (hv : w[m + 1]? = some (mI 0 67 (enc ((f, g, sl, op, lo), hd, rs, np, tp, av, lg, pl, tk)))) (h25 : f 25 = 0) (hpos : ∀ j, j < 25 → ¬ f j < 0) : Sp d yX9_isTop cX9_isTop 4 (some .boolean) [.ref m, .int 12] w 0 0 (fun v w' => v = some (.int (bI (hPeak f 12))) ∧ w' = w) noX := by
  refine Sp.of (by decide +kernel) (Nat.le_of_ble_eq_true rfl) (fun X hC hnl hE hR hN => ?_)
  have hC : Cx X RX9 cX9_isTop d 0 0 := hC
  show Wp X 0 0 w [(0, .ref m), (1, .int 12)] [] 0
  refine r_aload_n hC dX9_isTop_0 rfl (j := 0) rfl ?_
  refine r_get hC gX9_isTop_1 hm (v := .ref (m + 1)) rfl ?_
  refine r_bipush hC dX9_isTop_4 (v := 17) (by decide) ?_
  refine r_iload_n hC dX9_isTop_6 rfl (j := 1) rfl ?_
  refine r_iadd hC dX9_isTop_7 ?_
  rw [show (17 + 12 : Int32) = 29 from by decide]
  refine r_iald hC dX9_isTop_8 (j := 29) hv ⟨by decide, by decide, by decide⟩ ?_
  rw [show enc ((f, g, sl, op, lo), hd, rs, np, tp, av, lg, pl, tk) 29 = f 12 from enc_hi (c := 12) (by decide)]
  refine r_istore_n hC dX9_isTop_9 rfl (by rw [hnl]; decide) (L' := [(2, .int (f 12)), (0, .ref m), (1, .int 12)]) rfl ?_
  refine r_iload_n hC dX9_isTop_10 rfl (j := 0) rfl ?_
  refine r_if_le hC dX9_isTop_11 (tgt := 59) (by decide) (fun c11 => ?_) (fun c11 => ?_)
  · refine r_iconst hC dX9_isTop_59 (v := 0) (by decide) ?_
    refine r_istore_n hC dX9_isTop_60 rfl (by rw [hnl]; decide) (L' := [(3, .int 0), (2, .int (f 12)), (0, .ref m), (1, .int 12)]) rfl ?_
    refine r_iload_n hC dX9_isTop_61 rfl (j := 0) rfl ?_
    refine r_if_eq hC dX9_isTop_62 (tgt := 112) (by decide) (fun _ => ?_) (fun h => absurd (by decide) h)
    refine r_iconst hC dX9_isTop_112 (v := 0) (by decide) ?_
    refine r_nret hC hE hR dX9_isTop_113 (by decide) (by omega) (by omega) (rfl) ?_
    have z1 : f 12 = 0 := Int32.le_antisymm c11 (Int32.not_lt.mp (hpos 12 (by decide)))
    have e9 : hPeak f 12 = false := by
      unfold hPeak
      rw [z1]
      rfl
    exact ⟨by rw [e9]; rfl, rfl⟩
  · refine r_iload_n hC dX9_isTop_14 rfl (j := 2) rfl ?_
    refine r_iconst hC dX9_isTop_15 (v := 5) (by decide) ?_
    refine r_icmp_lt hC dX9_isTop_16 (tgt := 34) (by decide) (fun h => absurd h (by decide)) (fun _ => ?_)
    refine r_iload_n hC dX9_isTop_19 rfl (j := 0) rfl ?_
    refine r_aload_n hC dX9_isTop_20 rfl (j := 1) rfl ?_
    refine r_get hC gX9_isTop_21 hm (v := .ref (m + 1)) rfl ?_
    refine r_bipush hC dX9_isTop_24 (v := 17) (by decide) ?_
    refine r_iload_n hC dX9_isTop_26 rfl (j := 2) rfl ?_
    refine r_iadd hC dX9_isTop_27 ?_
    rw [show (17 + 12 : Int32) = 29 from by decide]
    refine r_iconst hC dX9_isTop_28 (v := 5) (by decide) ?_
    refine r_isub hC dX9_isTop_29 ?_
    rw [show (29 - 5 : Int32) = 24 from by decide]
    refine r_iald hC dX9_isTop_30 (j := 24) hv ⟨by decide, by decide, by decide⟩ ?_
    rw [show enc ((f, g, sl, op, lo), hd, rs, np, tp, av, lg, pl, tk) 24 = f 7 from enc_hi (c := 7) (by decide)]
    refine r_icmp_le hC dX9_isTop_31 (tgt := 59) (by decide) (fun c31 => ?_) (fun c31 => ?_)
    · refine r_iconst hC dX9_isTop_59 (v := 0) (by decide) ?_
      refine r_istore_n hC dX9_isTop_60 rfl (by rw [hnl]; decide) (L' := [(3, .int 0), (2, .int (f 12)), (0, .ref m), (1, .int 12)]) rfl ?_
      refine r_iload_n hC dX9_isTop_61 rfl (j := 0) rfl ?_
      refine r_if_eq hC dX9_isTop_62 (tgt := 112) (by decide) (fun _ => ?_) (fun h => absurd (by decide) h)
      refine r_iconst hC dX9_isTop_112 (v := 0) (by decide) ?_
      refine r_nret hC hE hR dX9_isTop_113 (by decide) (by omega) (by omega) (rfl) ?_
      have z0 : 0 < f 12 := Int32.not_le.mp c11
      have z1 : ¬ f 7 < f 12 := Int32.not_lt.mpr c31
      have e9 : hPeak f 12 = false := by
        unfold hPeak
        rw [show hNb 12 0 = 7 from by decide, decide_eq_false z1]
        simp
      exact ⟨by rw [e9]; rfl, rfl⟩
    · refine r_iload_n hC dX9_isTop_34 rfl (j := 2) rfl ?_
      refine r_bipush hC dX9_isTop_35 (v := 20) (by decide) ?_
      refine r_icmp_ge hC dX9_isTop_37 (tgt := 55) (by decide) (fun h => absurd h (by decide)) (fun _ => ?_)
      refine r_iload_n hC dX9_isTop_40 rfl (j := 0) rfl ?_
      refine r_aload_n hC dX9_isTop_41 rfl (j := 1) rfl ?_
      refine r_get hC gX9_isTop_42 hm (v := .ref (m + 1)) rfl ?_
      refine r_bipush hC dX9_isTop_45 (v := 17) (by decide) ?_
      refine r_iload_n hC dX9_isTop_47 rfl (j := 2) rfl ?_
      refine r_iadd hC dX9_isTop_48 ?_
      rw [show (17 + 12 : Int32) = 29 from by decide]
      refine r_iconst hC dX9_isTop_49 (v := 5) (by decide) ?_
      refine r_iadd hC dX9_isTop_50 ?_
      rw [show (29 + 5 : Int32) = 34 from by decide]
      refine r_iald hC dX9_isTop_51 (j := 34) hv ⟨by decide, by decide, by decide⟩ ?_
      rw [show enc ((f, g, sl, op, lo), hd, rs, np, tp, av, lg, pl, tk) 34 = f 17 from enc_hi (c := 17) (by decide)]
      refine r_icmp_le hC dX9_isTop_52 (tgt := 59) (by decide) (fun c52 => ?_) (fun c52 => ?_)
      · refine r_iconst hC dX9_isTop_59 (v := 0) (by decide) ?_
        refine r_istore_n hC dX9_isTop_60 rfl (by rw [hnl]; decide) (L' := [(3, .int 0), (2, .int (f 12)), (0, .ref m), (1, .int 12)]) rfl ?_
        refine r_iload_n hC dX9_isTop_61 rfl (j := 0) rfl ?_
        refine r_if_eq hC dX9_isTop_62 (tgt := 112) (by decide) (fun _ => ?_) (fun h => absurd (by decide) h)
        refine r_iconst hC dX9_isTop_112 (v := 0) (by decide) ?_
        refine r_nret hC hE hR dX9_isTop_113 (by decide) (by omega) (by omega) (rfl) ?_
        have z0 : 0 < f 12 := Int32.not_le.mp c11
        have z1 : ¬ f 17 < f 12 := Int32.not_lt.mpr c52
        have e9 : hPeak f 12 = false := by
          unfold hPeak
          rw [show hNb 12 3 = 17 from by decide, decide_eq_false z1]
          simp
        exact ⟨by rw [e9]; rfl, rfl⟩
      · refine r_iconst hC dX9_isTop_55 (v := 1) (by decide) ?_
        refine r_goto hC dX9_isTop_56 (tgt := 60) (by decide) ?_
        refine r_istore_n hC dX9_isTop_60 rfl (by rw [hnl]; decide) (L' := [(3, .int 1), (2, .int (f 12)), (0, .ref m), (1, .int 12)]) rfl ?_
        refine r_iload_n hC dX9_isTop_61 rfl (j := 0) rfl ?_
        refine r_if_eq hC dX9_isTop_62 (tgt := 112) (by decide) (fun h => absurd h (by decide)) (fun _ => ?_)
        refine r_iload_n hC dX9_isTop_65 rfl (j := 3) rfl ?_
        refine r_iconst hC dX9_isTop_66 (v := 5) (by decide) ?_
        refine r_irem hC dX9_isTop_67 (by decide) ?_
        rw [show (12 - 12 / 5 * 5 : Int32) = 2 from by decide]
        refine r_if_eq hC dX9_isTop_68 (tgt := 86) (by decide) (fun h => absurd h (by decide)) (fun _ => ?_)
        refine r_iload_n hC dX9_isTop_71 rfl (j := 1) rfl ?_
        refine r_aload_n hC dX9_isTop_72 rfl (j := 2) rfl ?_
        refine r_get hC gX9_isTop_73 hm (v := .ref (m + 1)) rfl ?_
        refine r_bipush hC dX9_isTop_76 (v := 17) (by decide) ?_
        refine r_iload_n hC dX9_isTop_78 rfl (j := 3) rfl ?_
        refine r_iadd hC dX9_isTop_79 ?_
        rw [show (17 + 12 : Int32) = 29 from by decide]
        refine r_iconst hC dX9_isTop_80 (v := 1) (by decide) ?_
        refine r_isub hC dX9_isTop_81 ?_
        rw [show (29 - 1 : Int32) = 28 from by decide]
        refine r_iald hC dX9_isTop_82 (j := 28) hv ⟨by decide, by decide, by decide⟩ ?_
        rw [show enc ((f, g, sl, op, lo), hd, rs, np, tp, av, lg, pl, tk) 28 = f 11 from enc_hi (c := 11) (by decide)]
        refine r_icmp_le hC dX9_isTop_83 (tgt := 112) (by decide) (fun c83 => ?_) (fun c83 => ?_)
        · refine r_iconst hC dX9_isTop_112 (v := 0) (by decide) ?_
          refine r_nret hC hE hR dX9_isTop_113 (by decide) (by omega) (by omega) (rfl) ?_
          have z0 : 0 < f 12 := Int32.not_le.mp c11
          have z1 : ¬ f 11 < f 12 := Int32.not_lt.mpr c83
          have e9 : hPeak f 12 = false := by
            unfold hPeak
            rw [show hNb 12 1 = 11 from by decide, decide_eq_false z1]
            simp
          exact ⟨by rw [e9]; rfl, rfl⟩
        · refine r_iload_n hC dX9_isTop_86 rfl (j := 3) rfl ?_
          refine r_iconst hC dX9_isTop_87 (v := 5) (by decide) ?_
          refine r_irem hC dX9_isTop_88 (by decide) ?_
          rw [show (12 - 12 / 5 * 5 : Int32) = 2 from by decide]
          refine r_iconst hC dX9_isTop_89 (v := 4) (by decide) ?_
          refine r_icmp_eq hC dX9_isTop_90 (tgt := 108) (by decide) (fun h => absurd h (by decide)) (fun _ => ?_)
          refine r_iload_n hC dX9_isTop_93 rfl (j := 1) rfl ?_
          refine r_aload_n hC dX9_isTop_94 rfl (j := 2) rfl ?_
          refine r_get hC gX9_isTop_95 hm (v := .ref (m + 1)) rfl ?_
          refine r_bipush hC dX9_isTop_98 (v := 17) (by decide) ?_
          refine r_iload_n hC dX9_isTop_100 rfl (j := 3) rfl ?_
          refine r_iadd hC dX9_isTop_101 ?_
          rw [show (17 + 12 : Int32) = 29 from by decide]
          refine r_iconst hC dX9_isTop_102 (v := 1) (by decide) ?_
          refine r_iadd hC dX9_isTop_103 ?_
          rw [show (29 + 1 : Int32) = 30 from by decide]
          refine r_iald hC dX9_isTop_104 (j := 30) hv ⟨by decide, by decide, by decide⟩ ?_
          rw [show enc ((f, g, sl, op, lo), hd, rs, np, tp, av, lg, pl, tk) 30 = f 13 from enc_hi (c := 13) (by decide)]
          refine r_icmp_le hC dX9_isTop_105 (tgt := 112) (by decide) (fun c105 => ?_) (fun c105 => ?_)
          · refine r_iconst hC dX9_isTop_112 (v := 0) (by decide) ?_
            refine r_nret hC hE hR dX9_isTop_113 (by decide) (by omega) (by omega) (rfl) ?_
            have z0 : 0 < f 12 := Int32.not_le.mp c11
            have z1 : ¬ f 13 < f 12 := Int32.not_lt.mpr c105
            have e9 : hPeak f 12 = false := by
              unfold hPeak
              rw [show hNb 12 2 = 13 from by decide, decide_eq_false z1]
              simp
            exact ⟨by rw [e9]; rfl, rfl⟩
          · refine r_iconst hC dX9_isTop_108 (v := 1) (by decide) ?_
            refine r_goto hC dX9_isTop_109 (tgt := 113) (by decide) ?_
            refine r_nret hC hE hR dX9_isTop_113 (by decide) (by omega) (by omega) (rfl) ?_
            have z0 : 0 < f 12 := Int32.not_le.mp c11
            have y7 : f 7 < f 12 := Int32.not_le.mp c31
            have y17 : f 17 < f 12 := Int32.not_le.mp c52
            have y11 : f 11 < f 12 := Int32.not_le.mp c83
            have y13 : f 13 < f 12 := Int32.not_le.mp c105
            have z2 : ¬ f 12 = 0 := fun z => Int32.ne_of_lt z0 z.symm
            have y25 : f 25 < f 12 := by rw [h25]; exact z0
            have e9 : hPeak f 12 = true := by
              unfold hPeak
              rw [show hNb 12 0 = 7 from by decide, show hNb 12 1 = 11 from by decide, show hNb 12 2 = 13 from by decide, show hNb 12 3 = 17 from by decide, decide_eq_true z2, decide_eq_true y7, decide_eq_true y11, decide_eq_true y13, decide_eq_true y17]
              rfl
            exact ⟨by rw [e9]; rfl, rfl⟩
set_option maxRecDepth 100000 in
set_option maxHeartbeats 4000000 in
theorem sm_isTop13 {d : Nat} {w : mW} {m : Nat} {th ch ea fa sv0 tn he en ln iw id0 : Int32} {f g : Nat → Int32} {sl op lo : Int32} {hd rs : Nat → Int32} {np : Nat} {tp av lg pl tk : Int32} (hm : w[m]? = some (mO 10 [.int th, .int ch, .int ea, .int fa, .int sv0, .ref (m + 1), .ref (m + 2), .ref (m + 3), .ref (m + 4), .ref (m + 5), .ref (m + 6), .ref (m + 7), .ref (m + 8), .ref (m + 9), .ref (m + 10), .int tn, .int he, .int en, .int ln, .int iw, .int id0])) (hv : w[m + 1]? = some (mI 0 67 (enc ((f, g, sl, op, lo), hd, rs, np, tp, av, lg, pl, tk)))) (h25 : f 25 = 0) (hpos : ∀ j, j < 25 → ¬ f j < 0) : Sp d yX9_isTop cX9_isTop 4 (some .boolean) [.ref m, .int 13] w 0 0 (fun v w' => v = some (.int (bI (hPeak f 13))) ∧ w' = w) noX := by
  refine Sp.of (by decide +kernel) (Nat.le_of_ble_eq_true rfl) (fun X hC hnl hE hR hN => ?_)
  have hC : Cx X RX9 cX9_isTop d 0 0 := hC
  show Wp X 0 0 w [(0, .ref m), (1, .int 13)] [] 0
  refine r_aload_n hC dX9_isTop_0 rfl (j := 0) rfl ?_
  refine r_get hC gX9_isTop_1 hm (v := .ref (m + 1)) rfl ?_
  refine r_bipush hC dX9_isTop_4 (v := 17) (by decide) ?_
  refine r_iload_n hC dX9_isTop_6 rfl (j := 1) rfl ?_
  refine r_iadd hC dX9_isTop_7 ?_
  rw [show (17 + 13 : Int32) = 30 from by decide]
  refine r_iald hC dX9_isTop_8 (j := 30) hv ⟨by decide, by decide, by decide⟩ ?_
  rw [show enc ((f, g, sl, op, lo), hd, rs, np, tp, av, lg, pl, tk) 30 = f 13 from enc_hi (c := 13) (by decide)]
  refine r_istore_n hC dX9_isTop_9 rfl (by rw [hnl]; decide) (L' := [(2, .int (f 13)), (0, .ref m), (1, .int 13)]) rfl ?_
  refine r_iload_n hC dX9_isTop_10 rfl (j := 0) rfl ?_
  refine r_if_le hC dX9_isTop_11 (tgt := 59) (by decide) (fun c11 => ?_) (fun c11 => ?_)
  · refine r_iconst hC dX9_isTop_59 (v := 0) (by decide) ?_
    refine r_istore_n hC dX9_isTop_60 rfl (by rw [hnl]; decide) (L' := [(3, .int 0), (2, .int (f 13)), (0, .ref m), (1, .int 13)]) rfl ?_
    refine r_iload_n hC dX9_isTop_61 rfl (j := 0) rfl ?_
    refine r_if_eq hC dX9_isTop_62 (tgt := 112) (by decide) (fun _ => ?_) (fun h => absurd (by decide) h)
    refine r_iconst hC dX9_isTop_112 (v := 0) (by decide) ?_
    refine r_nret hC hE hR dX9_isTop_113 (by decide) (by omega) (by omega) (rfl) ?_
    have z1 : f 13 = 0 := Int32.le_antisymm c11 (Int32.not_lt.mp (hpos 13 (by decide)))
    have e9 : hPeak f 13 = false := by
      unfold hPeak
      rw [z1]
      rfl
    exact ⟨by rw [e9]; rfl, rfl⟩
  · refine r_iload_n hC dX9_isTop_14 rfl (j := 2) rfl ?_
    refine r_iconst hC dX9_isTop_15 (v := 5) (by decide) ?_
    refine r_icmp_lt hC dX9_isTop_16 (tgt := 34) (by decide) (fun h => absurd h (by decide)) (fun _ => ?_)
    refine r_iload_n hC dX9_isTop_19 rfl (j := 0) rfl ?_
    refine r_aload_n hC dX9_isTop_20 rfl (j := 1) rfl ?_
    refine r_get hC gX9_isTop_21 hm (v := .ref (m + 1)) rfl ?_
    refine r_bipush hC dX9_isTop_24 (v := 17) (by decide) ?_
    refine r_iload_n hC dX9_isTop_26 rfl (j := 2) rfl ?_
    refine r_iadd hC dX9_isTop_27 ?_
    rw [show (17 + 13 : Int32) = 30 from by decide]
    refine r_iconst hC dX9_isTop_28 (v := 5) (by decide) ?_
    refine r_isub hC dX9_isTop_29 ?_
    rw [show (30 - 5 : Int32) = 25 from by decide]
    refine r_iald hC dX9_isTop_30 (j := 25) hv ⟨by decide, by decide, by decide⟩ ?_
    rw [show enc ((f, g, sl, op, lo), hd, rs, np, tp, av, lg, pl, tk) 25 = f 8 from enc_hi (c := 8) (by decide)]
    refine r_icmp_le hC dX9_isTop_31 (tgt := 59) (by decide) (fun c31 => ?_) (fun c31 => ?_)
    · refine r_iconst hC dX9_isTop_59 (v := 0) (by decide) ?_
      refine r_istore_n hC dX9_isTop_60 rfl (by rw [hnl]; decide) (L' := [(3, .int 0), (2, .int (f 13)), (0, .ref m), (1, .int 13)]) rfl ?_
      refine r_iload_n hC dX9_isTop_61 rfl (j := 0) rfl ?_
      refine r_if_eq hC dX9_isTop_62 (tgt := 112) (by decide) (fun _ => ?_) (fun h => absurd (by decide) h)
      refine r_iconst hC dX9_isTop_112 (v := 0) (by decide) ?_
      refine r_nret hC hE hR dX9_isTop_113 (by decide) (by omega) (by omega) (rfl) ?_
      have z0 : 0 < f 13 := Int32.not_le.mp c11
      have z1 : ¬ f 8 < f 13 := Int32.not_lt.mpr c31
      have e9 : hPeak f 13 = false := by
        unfold hPeak
        rw [show hNb 13 0 = 8 from by decide, decide_eq_false z1]
        simp
      exact ⟨by rw [e9]; rfl, rfl⟩
    · refine r_iload_n hC dX9_isTop_34 rfl (j := 2) rfl ?_
      refine r_bipush hC dX9_isTop_35 (v := 20) (by decide) ?_
      refine r_icmp_ge hC dX9_isTop_37 (tgt := 55) (by decide) (fun h => absurd h (by decide)) (fun _ => ?_)
      refine r_iload_n hC dX9_isTop_40 rfl (j := 0) rfl ?_
      refine r_aload_n hC dX9_isTop_41 rfl (j := 1) rfl ?_
      refine r_get hC gX9_isTop_42 hm (v := .ref (m + 1)) rfl ?_
      refine r_bipush hC dX9_isTop_45 (v := 17) (by decide) ?_
      refine r_iload_n hC dX9_isTop_47 rfl (j := 2) rfl ?_
      refine r_iadd hC dX9_isTop_48 ?_
      rw [show (17 + 13 : Int32) = 30 from by decide]
      refine r_iconst hC dX9_isTop_49 (v := 5) (by decide) ?_
      refine r_iadd hC dX9_isTop_50 ?_
      rw [show (30 + 5 : Int32) = 35 from by decide]
      refine r_iald hC dX9_isTop_51 (j := 35) hv ⟨by decide, by decide, by decide⟩ ?_
      rw [show enc ((f, g, sl, op, lo), hd, rs, np, tp, av, lg, pl, tk) 35 = f 18 from enc_hi (c := 18) (by decide)]
      refine r_icmp_le hC dX9_isTop_52 (tgt := 59) (by decide) (fun c52 => ?_) (fun c52 => ?_)
      · refine r_iconst hC dX9_isTop_59 (v := 0) (by decide) ?_
        refine r_istore_n hC dX9_isTop_60 rfl (by rw [hnl]; decide) (L' := [(3, .int 0), (2, .int (f 13)), (0, .ref m), (1, .int 13)]) rfl ?_
        refine r_iload_n hC dX9_isTop_61 rfl (j := 0) rfl ?_
        refine r_if_eq hC dX9_isTop_62 (tgt := 112) (by decide) (fun _ => ?_) (fun h => absurd (by decide) h)
        refine r_iconst hC dX9_isTop_112 (v := 0) (by decide) ?_
        refine r_nret hC hE hR dX9_isTop_113 (by decide) (by omega) (by omega) (rfl) ?_
        have z0 : 0 < f 13 := Int32.not_le.mp c11
        have z1 : ¬ f 18 < f 13 := Int32.not_lt.mpr c52
        have e9 : hPeak f 13 = false := by
          unfold hPeak
          rw [show hNb 13 3 = 18 from by decide, decide_eq_false z1]
          simp
        exact ⟨by rw [e9]; rfl, rfl⟩
      · refine r_iconst hC dX9_isTop_55 (v := 1) (by decide) ?_
        refine r_goto hC dX9_isTop_56 (tgt := 60) (by decide) ?_
        refine r_istore_n hC dX9_isTop_60 rfl (by rw [hnl]; decide) (L' := [(3, .int 1), (2, .int (f 13)), (0, .ref m), (1, .int 13)]) rfl ?_
        refine r_iload_n hC dX9_isTop_61 rfl (j := 0) rfl ?_
        refine r_if_eq hC dX9_isTop_62 (tgt := 112) (by decide) (fun h => absurd h (by decide)) (fun _ => ?_)
        refine r_iload_n hC dX9_isTop_65 rfl (j := 3) rfl ?_
        refine r_iconst hC dX9_isTop_66 (v := 5) (by decide) ?_
        refine r_irem hC dX9_isTop_67 (by decide) ?_
        rw [show (13 - 13 / 5 * 5 : Int32) = 3 from by decide]
        refine r_if_eq hC dX9_isTop_68 (tgt := 86) (by decide) (fun h => absurd h (by decide)) (fun _ => ?_)
        refine r_iload_n hC dX9_isTop_71 rfl (j := 1) rfl ?_
        refine r_aload_n hC dX9_isTop_72 rfl (j := 2) rfl ?_
        refine r_get hC gX9_isTop_73 hm (v := .ref (m + 1)) rfl ?_
        refine r_bipush hC dX9_isTop_76 (v := 17) (by decide) ?_
        refine r_iload_n hC dX9_isTop_78 rfl (j := 3) rfl ?_
        refine r_iadd hC dX9_isTop_79 ?_
        rw [show (17 + 13 : Int32) = 30 from by decide]
        refine r_iconst hC dX9_isTop_80 (v := 1) (by decide) ?_
        refine r_isub hC dX9_isTop_81 ?_
        rw [show (30 - 1 : Int32) = 29 from by decide]
        refine r_iald hC dX9_isTop_82 (j := 29) hv ⟨by decide, by decide, by decide⟩ ?_
        rw [show enc ((f, g, sl, op, lo), hd, rs, np, tp, av, lg, pl, tk) 29 = f 12 from enc_hi (c := 12) (by decide)]
        refine r_icmp_le hC dX9_isTop_83 (tgt := 112) (by decide) (fun c83 => ?_) (fun c83 => ?_)
        · refine r_iconst hC dX9_isTop_112 (v := 0) (by decide) ?_
          refine r_nret hC hE hR dX9_isTop_113 (by decide) (by omega) (by omega) (rfl) ?_
          have z0 : 0 < f 13 := Int32.not_le.mp c11
          have z1 : ¬ f 12 < f 13 := Int32.not_lt.mpr c83
          have e9 : hPeak f 13 = false := by
            unfold hPeak
            rw [show hNb 13 1 = 12 from by decide, decide_eq_false z1]
            simp
          exact ⟨by rw [e9]; rfl, rfl⟩
        · refine r_iload_n hC dX9_isTop_86 rfl (j := 3) rfl ?_
          refine r_iconst hC dX9_isTop_87 (v := 5) (by decide) ?_
          refine r_irem hC dX9_isTop_88 (by decide) ?_
          rw [show (13 - 13 / 5 * 5 : Int32) = 3 from by decide]
          refine r_iconst hC dX9_isTop_89 (v := 4) (by decide) ?_
          refine r_icmp_eq hC dX9_isTop_90 (tgt := 108) (by decide) (fun h => absurd h (by decide)) (fun _ => ?_)
          refine r_iload_n hC dX9_isTop_93 rfl (j := 1) rfl ?_
          refine r_aload_n hC dX9_isTop_94 rfl (j := 2) rfl ?_
          refine r_get hC gX9_isTop_95 hm (v := .ref (m + 1)) rfl ?_
          refine r_bipush hC dX9_isTop_98 (v := 17) (by decide) ?_
          refine r_iload_n hC dX9_isTop_100 rfl (j := 3) rfl ?_
          refine r_iadd hC dX9_isTop_101 ?_
          rw [show (17 + 13 : Int32) = 30 from by decide]
          refine r_iconst hC dX9_isTop_102 (v := 1) (by decide) ?_
          refine r_iadd hC dX9_isTop_103 ?_
          rw [show (30 + 1 : Int32) = 31 from by decide]
          refine r_iald hC dX9_isTop_104 (j := 31) hv ⟨by decide, by decide, by decide⟩ ?_
          rw [show enc ((f, g, sl, op, lo), hd, rs, np, tp, av, lg, pl, tk) 31 = f 14 from enc_hi (c := 14) (by decide)]
          refine r_icmp_le hC dX9_isTop_105 (tgt := 112) (by decide) (fun c105 => ?_) (fun c105 => ?_)
          · refine r_iconst hC dX9_isTop_112 (v := 0) (by decide) ?_
            refine r_nret hC hE hR dX9_isTop_113 (by decide) (by omega) (by omega) (rfl) ?_
            have z0 : 0 < f 13 := Int32.not_le.mp c11
            have z1 : ¬ f 14 < f 13 := Int32.not_lt.mpr c105
            have e9 : hPeak f 13 = false := by
              unfold hPeak
              rw [show hNb 13 2 = 14 from by decide, decide_eq_false z1]
              simp
            exact ⟨by rw [e9]; rfl, rfl⟩
          · refine r_iconst hC dX9_isTop_108 (v := 1) (by decide) ?_
            refine r_goto hC dX9_isTop_109 (tgt := 113) (by decide) ?_
            refine r_nret hC hE hR dX9_isTop_113 (by decide) (by omega) (by omega) (rfl) ?_
            have z0 : 0 < f 13 := Int32.not_le.mp c11
            have y8 : f 8 < f 13 := Int32.not_le.mp c31
            have y18 : f 18 < f 13 := Int32.not_le.mp c52
            have y12 : f 12 < f 13 := Int32.not_le.mp c83
            have y14 : f 14 < f 13 := Int32.not_le.mp c105
            have z2 : ¬ f 13 = 0 := fun z => Int32.ne_of_lt z0 z.symm
            have y25 : f 25 < f 13 := by rw [h25]; exact z0
            have e9 : hPeak f 13 = true := by
              unfold hPeak
              rw [show hNb 13 0 = 8 from by decide, show hNb 13 1 = 12 from by decide, show hNb 13 2 = 14 from by decide, show hNb 13 3 = 18 from by decide, decide_eq_true z2, decide_eq_true y8, decide_eq_true y12, decide_eq_true y14, decide_eq_true y18]
              rfl
            exact ⟨by rw [e9]; rfl, rfl⟩
set_option maxRecDepth 100000 in
set_option maxHeartbeats 4000000 in
theorem sm_isTop14 {d : Nat} {w : mW} {m : Nat} {th ch ea fa sv0 tn he en ln iw id0 : Int32} {f g : Nat → Int32} {sl op lo : Int32} {hd rs : Nat → Int32} {np : Nat} {tp av lg pl tk : Int32} (hm : w[m]? = some (mO 10 [.int th, .int ch, .int ea, .int fa, .int sv0, .ref (m + 1), .ref (m + 2), .ref (m + 3), .ref (m + 4), .ref (m + 5), .ref (m + 6), .ref (m + 7), .ref (m + 8), .ref (m + 9), .ref (m + 10), .int tn, .int he, .int en, .int ln, .int iw, .int id0])) (hv : w[m + 1]? = some (mI 0 67 (enc ((f, g, sl, op, lo), hd, rs, np, tp, av, lg, pl, tk)))) (h25 : f 25 = 0) (hpos : ∀ j, j < 25 → ¬ f j < 0) : Sp d yX9_isTop cX9_isTop 4 (some .boolean) [.ref m, .int 14] w 0 0 (fun v w' => v = some (.int (bI (hPeak f 14))) ∧ w' = w) noX := by
  refine Sp.of (by decide +kernel) (Nat.le_of_ble_eq_true rfl) (fun X hC hnl hE hR hN => ?_)
  have hC : Cx X RX9 cX9_isTop d 0 0 := hC
  show Wp X 0 0 w [(0, .ref m), (1, .int 14)] [] 0
  refine r_aload_n hC dX9_isTop_0 rfl (j := 0) rfl ?_
  refine r_get hC gX9_isTop_1 hm (v := .ref (m + 1)) rfl ?_
  refine r_bipush hC dX9_isTop_4 (v := 17) (by decide) ?_
  refine r_iload_n hC dX9_isTop_6 rfl (j := 1) rfl ?_
  refine r_iadd hC dX9_isTop_7 ?_
  rw [show (17 + 14 : Int32) = 31 from by decide]
  refine r_iald hC dX9_isTop_8 (j := 31) hv ⟨by decide, by decide, by decide⟩ ?_
  rw [show enc ((f, g, sl, op, lo), hd, rs, np, tp, av, lg, pl, tk) 31 = f 14 from enc_hi (c := 14) (by decide)]
  refine r_istore_n hC dX9_isTop_9 rfl (by rw [hnl]; decide) (L' := [(2, .int (f 14)), (0, .ref m), (1, .int 14)]) rfl ?_
  refine r_iload_n hC dX9_isTop_10 rfl (j := 0) rfl ?_
  refine r_if_le hC dX9_isTop_11 (tgt := 59) (by decide) (fun c11 => ?_) (fun c11 => ?_)
  · refine r_iconst hC dX9_isTop_59 (v := 0) (by decide) ?_
    refine r_istore_n hC dX9_isTop_60 rfl (by rw [hnl]; decide) (L' := [(3, .int 0), (2, .int (f 14)), (0, .ref m), (1, .int 14)]) rfl ?_
    refine r_iload_n hC dX9_isTop_61 rfl (j := 0) rfl ?_
    refine r_if_eq hC dX9_isTop_62 (tgt := 112) (by decide) (fun _ => ?_) (fun h => absurd (by decide) h)
    refine r_iconst hC dX9_isTop_112 (v := 0) (by decide) ?_
    refine r_nret hC hE hR dX9_isTop_113 (by decide) (by omega) (by omega) (rfl) ?_
    have z1 : f 14 = 0 := Int32.le_antisymm c11 (Int32.not_lt.mp (hpos 14 (by decide)))
    have e9 : hPeak f 14 = false := by
      unfold hPeak
      rw [z1]
      rfl
    exact ⟨by rw [e9]; rfl, rfl⟩
  · refine r_iload_n hC dX9_isTop_14 rfl (j := 2) rfl ?_
    refine r_iconst hC dX9_isTop_15 (v := 5) (by decide) ?_
    refine r_icmp_lt hC dX9_isTop_16 (tgt := 34) (by decide) (fun h => absurd h (by decide)) (fun _ => ?_)
    refine r_iload_n hC dX9_isTop_19 rfl (j := 0) rfl ?_
    refine r_aload_n hC dX9_isTop_20 rfl (j := 1) rfl ?_
    refine r_get hC gX9_isTop_21 hm (v := .ref (m + 1)) rfl ?_
    refine r_bipush hC dX9_isTop_24 (v := 17) (by decide) ?_
    refine r_iload_n hC dX9_isTop_26 rfl (j := 2) rfl ?_
    refine r_iadd hC dX9_isTop_27 ?_
    rw [show (17 + 14 : Int32) = 31 from by decide]
    refine r_iconst hC dX9_isTop_28 (v := 5) (by decide) ?_
    refine r_isub hC dX9_isTop_29 ?_
    rw [show (31 - 5 : Int32) = 26 from by decide]
    refine r_iald hC dX9_isTop_30 (j := 26) hv ⟨by decide, by decide, by decide⟩ ?_
    rw [show enc ((f, g, sl, op, lo), hd, rs, np, tp, av, lg, pl, tk) 26 = f 9 from enc_hi (c := 9) (by decide)]
    refine r_icmp_le hC dX9_isTop_31 (tgt := 59) (by decide) (fun c31 => ?_) (fun c31 => ?_)
    · refine r_iconst hC dX9_isTop_59 (v := 0) (by decide) ?_
      refine r_istore_n hC dX9_isTop_60 rfl (by rw [hnl]; decide) (L' := [(3, .int 0), (2, .int (f 14)), (0, .ref m), (1, .int 14)]) rfl ?_
      refine r_iload_n hC dX9_isTop_61 rfl (j := 0) rfl ?_
      refine r_if_eq hC dX9_isTop_62 (tgt := 112) (by decide) (fun _ => ?_) (fun h => absurd (by decide) h)
      refine r_iconst hC dX9_isTop_112 (v := 0) (by decide) ?_
      refine r_nret hC hE hR dX9_isTop_113 (by decide) (by omega) (by omega) (rfl) ?_
      have z0 : 0 < f 14 := Int32.not_le.mp c11
      have z1 : ¬ f 9 < f 14 := Int32.not_lt.mpr c31
      have e9 : hPeak f 14 = false := by
        unfold hPeak
        rw [show hNb 14 0 = 9 from by decide, decide_eq_false z1]
        simp
      exact ⟨by rw [e9]; rfl, rfl⟩
    · refine r_iload_n hC dX9_isTop_34 rfl (j := 2) rfl ?_
      refine r_bipush hC dX9_isTop_35 (v := 20) (by decide) ?_
      refine r_icmp_ge hC dX9_isTop_37 (tgt := 55) (by decide) (fun h => absurd h (by decide)) (fun _ => ?_)
      refine r_iload_n hC dX9_isTop_40 rfl (j := 0) rfl ?_
      refine r_aload_n hC dX9_isTop_41 rfl (j := 1) rfl ?_
      refine r_get hC gX9_isTop_42 hm (v := .ref (m + 1)) rfl ?_
      refine r_bipush hC dX9_isTop_45 (v := 17) (by decide) ?_
      refine r_iload_n hC dX9_isTop_47 rfl (j := 2) rfl ?_
      refine r_iadd hC dX9_isTop_48 ?_
      rw [show (17 + 14 : Int32) = 31 from by decide]
      refine r_iconst hC dX9_isTop_49 (v := 5) (by decide) ?_
      refine r_iadd hC dX9_isTop_50 ?_
      rw [show (31 + 5 : Int32) = 36 from by decide]
      refine r_iald hC dX9_isTop_51 (j := 36) hv ⟨by decide, by decide, by decide⟩ ?_
      rw [show enc ((f, g, sl, op, lo), hd, rs, np, tp, av, lg, pl, tk) 36 = f 19 from enc_hi (c := 19) (by decide)]
      refine r_icmp_le hC dX9_isTop_52 (tgt := 59) (by decide) (fun c52 => ?_) (fun c52 => ?_)
      · refine r_iconst hC dX9_isTop_59 (v := 0) (by decide) ?_
        refine r_istore_n hC dX9_isTop_60 rfl (by rw [hnl]; decide) (L' := [(3, .int 0), (2, .int (f 14)), (0, .ref m), (1, .int 14)]) rfl ?_
        refine r_iload_n hC dX9_isTop_61 rfl (j := 0) rfl ?_
        refine r_if_eq hC dX9_isTop_62 (tgt := 112) (by decide) (fun _ => ?_) (fun h => absurd (by decide) h)
        refine r_iconst hC dX9_isTop_112 (v := 0) (by decide) ?_
        refine r_nret hC hE hR dX9_isTop_113 (by decide) (by omega) (by omega) (rfl) ?_
        have z0 : 0 < f 14 := Int32.not_le.mp c11
        have z1 : ¬ f 19 < f 14 := Int32.not_lt.mpr c52
        have e9 : hPeak f 14 = false := by
          unfold hPeak
          rw [show hNb 14 2 = 19 from by decide, decide_eq_false z1]
          simp
        exact ⟨by rw [e9]; rfl, rfl⟩
      · refine r_iconst hC dX9_isTop_55 (v := 1) (by decide) ?_
        refine r_goto hC dX9_isTop_56 (tgt := 60) (by decide) ?_
        refine r_istore_n hC dX9_isTop_60 rfl (by rw [hnl]; decide) (L' := [(3, .int 1), (2, .int (f 14)), (0, .ref m), (1, .int 14)]) rfl ?_
        refine r_iload_n hC dX9_isTop_61 rfl (j := 0) rfl ?_
        refine r_if_eq hC dX9_isTop_62 (tgt := 112) (by decide) (fun h => absurd h (by decide)) (fun _ => ?_)
        refine r_iload_n hC dX9_isTop_65 rfl (j := 3) rfl ?_
        refine r_iconst hC dX9_isTop_66 (v := 5) (by decide) ?_
        refine r_irem hC dX9_isTop_67 (by decide) ?_
        rw [show (14 - 14 / 5 * 5 : Int32) = 4 from by decide]
        refine r_if_eq hC dX9_isTop_68 (tgt := 86) (by decide) (fun h => absurd h (by decide)) (fun _ => ?_)
        refine r_iload_n hC dX9_isTop_71 rfl (j := 1) rfl ?_
        refine r_aload_n hC dX9_isTop_72 rfl (j := 2) rfl ?_
        refine r_get hC gX9_isTop_73 hm (v := .ref (m + 1)) rfl ?_
        refine r_bipush hC dX9_isTop_76 (v := 17) (by decide) ?_
        refine r_iload_n hC dX9_isTop_78 rfl (j := 3) rfl ?_
        refine r_iadd hC dX9_isTop_79 ?_
        rw [show (17 + 14 : Int32) = 31 from by decide]
        refine r_iconst hC dX9_isTop_80 (v := 1) (by decide) ?_
        refine r_isub hC dX9_isTop_81 ?_
        rw [show (31 - 1 : Int32) = 30 from by decide]
        refine r_iald hC dX9_isTop_82 (j := 30) hv ⟨by decide, by decide, by decide⟩ ?_
        rw [show enc ((f, g, sl, op, lo), hd, rs, np, tp, av, lg, pl, tk) 30 = f 13 from enc_hi (c := 13) (by decide)]
        refine r_icmp_le hC dX9_isTop_83 (tgt := 112) (by decide) (fun c83 => ?_) (fun c83 => ?_)
        · refine r_iconst hC dX9_isTop_112 (v := 0) (by decide) ?_
          refine r_nret hC hE hR dX9_isTop_113 (by decide) (by omega) (by omega) (rfl) ?_
          have z0 : 0 < f 14 := Int32.not_le.mp c11
          have z1 : ¬ f 13 < f 14 := Int32.not_lt.mpr c83
          have e9 : hPeak f 14 = false := by
            unfold hPeak
            rw [show hNb 14 1 = 13 from by decide, decide_eq_false z1]
            simp
          exact ⟨by rw [e9]; rfl, rfl⟩
        · refine r_iload_n hC dX9_isTop_86 rfl (j := 3) rfl ?_
          refine r_iconst hC dX9_isTop_87 (v := 5) (by decide) ?_
          refine r_irem hC dX9_isTop_88 (by decide) ?_
          rw [show (14 - 14 / 5 * 5 : Int32) = 4 from by decide]
          refine r_iconst hC dX9_isTop_89 (v := 4) (by decide) ?_
          refine r_icmp_eq hC dX9_isTop_90 (tgt := 108) (by decide) (fun _ => ?_) (fun h => absurd (by decide) h)
          refine r_iconst hC dX9_isTop_108 (v := 1) (by decide) ?_
          refine r_goto hC dX9_isTop_109 (tgt := 113) (by decide) ?_
          refine r_nret hC hE hR dX9_isTop_113 (by decide) (by omega) (by omega) (rfl) ?_
          have z0 : 0 < f 14 := Int32.not_le.mp c11
          have y9 : f 9 < f 14 := Int32.not_le.mp c31
          have y19 : f 19 < f 14 := Int32.not_le.mp c52
          have y13 : f 13 < f 14 := Int32.not_le.mp c83
          have z2 : ¬ f 14 = 0 := fun z => Int32.ne_of_lt z0 z.symm
          have y25 : f 25 < f 14 := by rw [h25]; exact z0
          have e9 : hPeak f 14 = true := by
            unfold hPeak
            rw [show hNb 14 0 = 9 from by decide, show hNb 14 1 = 13 from by decide, show hNb 14 2 = 19 from by decide, show hNb 14 3 = 25 from by decide, decide_eq_true z2, decide_eq_true y9, decide_eq_true y13, decide_eq_true y19, decide_eq_true y25]
            rfl
          exact ⟨by rw [e9]; rfl, rfl⟩
set_option maxRecDepth 100000 in
set_option maxHeartbeats 4000000 in
theorem sm_isTop15 {d : Nat} {w : mW} {m : Nat} {th ch ea fa sv0 tn he en ln iw id0 : Int32} {f g : Nat → Int32} {sl op lo : Int32} {hd rs : Nat → Int32} {np : Nat} {tp av lg pl tk : Int32} (hm : w[m]? = some (mO 10 [.int th, .int ch, .int ea, .int fa, .int sv0, .ref (m + 1), .ref (m + 2), .ref (m + 3), .ref (m + 4), .ref (m + 5), .ref (m + 6), .ref (m + 7), .ref (m + 8), .ref (m + 9), .ref (m + 10), .int tn, .int he, .int en, .int ln, .int iw, .int id0])) (hv : w[m + 1]? = some (mI 0 67 (enc ((f, g, sl, op, lo), hd, rs, np, tp, av, lg, pl, tk)))) (h25 : f 25 = 0) (hpos : ∀ j, j < 25 → ¬ f j < 0) : Sp d yX9_isTop cX9_isTop 4 (some .boolean) [.ref m, .int 15] w 0 0 (fun v w' => v = some (.int (bI (hPeak f 15))) ∧ w' = w) noX := by
  refine Sp.of (by decide +kernel) (Nat.le_of_ble_eq_true rfl) (fun X hC hnl hE hR hN => ?_)
  have hC : Cx X RX9 cX9_isTop d 0 0 := hC
  show Wp X 0 0 w [(0, .ref m), (1, .int 15)] [] 0
  refine r_aload_n hC dX9_isTop_0 rfl (j := 0) rfl ?_
  refine r_get hC gX9_isTop_1 hm (v := .ref (m + 1)) rfl ?_
  refine r_bipush hC dX9_isTop_4 (v := 17) (by decide) ?_
  refine r_iload_n hC dX9_isTop_6 rfl (j := 1) rfl ?_
  refine r_iadd hC dX9_isTop_7 ?_
  rw [show (17 + 15 : Int32) = 32 from by decide]
  refine r_iald hC dX9_isTop_8 (j := 32) hv ⟨by decide, by decide, by decide⟩ ?_
  rw [show enc ((f, g, sl, op, lo), hd, rs, np, tp, av, lg, pl, tk) 32 = f 15 from enc_hi (c := 15) (by decide)]
  refine r_istore_n hC dX9_isTop_9 rfl (by rw [hnl]; decide) (L' := [(2, .int (f 15)), (0, .ref m), (1, .int 15)]) rfl ?_
  refine r_iload_n hC dX9_isTop_10 rfl (j := 0) rfl ?_
  refine r_if_le hC dX9_isTop_11 (tgt := 59) (by decide) (fun c11 => ?_) (fun c11 => ?_)
  · refine r_iconst hC dX9_isTop_59 (v := 0) (by decide) ?_
    refine r_istore_n hC dX9_isTop_60 rfl (by rw [hnl]; decide) (L' := [(3, .int 0), (2, .int (f 15)), (0, .ref m), (1, .int 15)]) rfl ?_
    refine r_iload_n hC dX9_isTop_61 rfl (j := 0) rfl ?_
    refine r_if_eq hC dX9_isTop_62 (tgt := 112) (by decide) (fun _ => ?_) (fun h => absurd (by decide) h)
    refine r_iconst hC dX9_isTop_112 (v := 0) (by decide) ?_
    refine r_nret hC hE hR dX9_isTop_113 (by decide) (by omega) (by omega) (rfl) ?_
    have z1 : f 15 = 0 := Int32.le_antisymm c11 (Int32.not_lt.mp (hpos 15 (by decide)))
    have e9 : hPeak f 15 = false := by
      unfold hPeak
      rw [z1]
      rfl
    exact ⟨by rw [e9]; rfl, rfl⟩
  · refine r_iload_n hC dX9_isTop_14 rfl (j := 2) rfl ?_
    refine r_iconst hC dX9_isTop_15 (v := 5) (by decide) ?_
    refine r_icmp_lt hC dX9_isTop_16 (tgt := 34) (by decide) (fun h => absurd h (by decide)) (fun _ => ?_)
    refine r_iload_n hC dX9_isTop_19 rfl (j := 0) rfl ?_
    refine r_aload_n hC dX9_isTop_20 rfl (j := 1) rfl ?_
    refine r_get hC gX9_isTop_21 hm (v := .ref (m + 1)) rfl ?_
    refine r_bipush hC dX9_isTop_24 (v := 17) (by decide) ?_
    refine r_iload_n hC dX9_isTop_26 rfl (j := 2) rfl ?_
    refine r_iadd hC dX9_isTop_27 ?_
    rw [show (17 + 15 : Int32) = 32 from by decide]
    refine r_iconst hC dX9_isTop_28 (v := 5) (by decide) ?_
    refine r_isub hC dX9_isTop_29 ?_
    rw [show (32 - 5 : Int32) = 27 from by decide]
    refine r_iald hC dX9_isTop_30 (j := 27) hv ⟨by decide, by decide, by decide⟩ ?_
    rw [show enc ((f, g, sl, op, lo), hd, rs, np, tp, av, lg, pl, tk) 27 = f 10 from enc_hi (c := 10) (by decide)]
    refine r_icmp_le hC dX9_isTop_31 (tgt := 59) (by decide) (fun c31 => ?_) (fun c31 => ?_)
    · refine r_iconst hC dX9_isTop_59 (v := 0) (by decide) ?_
      refine r_istore_n hC dX9_isTop_60 rfl (by rw [hnl]; decide) (L' := [(3, .int 0), (2, .int (f 15)), (0, .ref m), (1, .int 15)]) rfl ?_
      refine r_iload_n hC dX9_isTop_61 rfl (j := 0) rfl ?_
      refine r_if_eq hC dX9_isTop_62 (tgt := 112) (by decide) (fun _ => ?_) (fun h => absurd (by decide) h)
      refine r_iconst hC dX9_isTop_112 (v := 0) (by decide) ?_
      refine r_nret hC hE hR dX9_isTop_113 (by decide) (by omega) (by omega) (rfl) ?_
      have z0 : 0 < f 15 := Int32.not_le.mp c11
      have z1 : ¬ f 10 < f 15 := Int32.not_lt.mpr c31
      have e9 : hPeak f 15 = false := by
        unfold hPeak
        rw [show hNb 15 0 = 10 from by decide, decide_eq_false z1]
        simp
      exact ⟨by rw [e9]; rfl, rfl⟩
    · refine r_iload_n hC dX9_isTop_34 rfl (j := 2) rfl ?_
      refine r_bipush hC dX9_isTop_35 (v := 20) (by decide) ?_
      refine r_icmp_ge hC dX9_isTop_37 (tgt := 55) (by decide) (fun h => absurd h (by decide)) (fun _ => ?_)
      refine r_iload_n hC dX9_isTop_40 rfl (j := 0) rfl ?_
      refine r_aload_n hC dX9_isTop_41 rfl (j := 1) rfl ?_
      refine r_get hC gX9_isTop_42 hm (v := .ref (m + 1)) rfl ?_
      refine r_bipush hC dX9_isTop_45 (v := 17) (by decide) ?_
      refine r_iload_n hC dX9_isTop_47 rfl (j := 2) rfl ?_
      refine r_iadd hC dX9_isTop_48 ?_
      rw [show (17 + 15 : Int32) = 32 from by decide]
      refine r_iconst hC dX9_isTop_49 (v := 5) (by decide) ?_
      refine r_iadd hC dX9_isTop_50 ?_
      rw [show (32 + 5 : Int32) = 37 from by decide]
      refine r_iald hC dX9_isTop_51 (j := 37) hv ⟨by decide, by decide, by decide⟩ ?_
      rw [show enc ((f, g, sl, op, lo), hd, rs, np, tp, av, lg, pl, tk) 37 = f 20 from enc_hi (c := 20) (by decide)]
      refine r_icmp_le hC dX9_isTop_52 (tgt := 59) (by decide) (fun c52 => ?_) (fun c52 => ?_)
      · refine r_iconst hC dX9_isTop_59 (v := 0) (by decide) ?_
        refine r_istore_n hC dX9_isTop_60 rfl (by rw [hnl]; decide) (L' := [(3, .int 0), (2, .int (f 15)), (0, .ref m), (1, .int 15)]) rfl ?_
        refine r_iload_n hC dX9_isTop_61 rfl (j := 0) rfl ?_
        refine r_if_eq hC dX9_isTop_62 (tgt := 112) (by decide) (fun _ => ?_) (fun h => absurd (by decide) h)
        refine r_iconst hC dX9_isTop_112 (v := 0) (by decide) ?_
        refine r_nret hC hE hR dX9_isTop_113 (by decide) (by omega) (by omega) (rfl) ?_
        have z0 : 0 < f 15 := Int32.not_le.mp c11
        have z1 : ¬ f 20 < f 15 := Int32.not_lt.mpr c52
        have e9 : hPeak f 15 = false := by
          unfold hPeak
          rw [show hNb 15 2 = 20 from by decide, decide_eq_false z1]
          simp
        exact ⟨by rw [e9]; rfl, rfl⟩
      · refine r_iconst hC dX9_isTop_55 (v := 1) (by decide) ?_
        refine r_goto hC dX9_isTop_56 (tgt := 60) (by decide) ?_
        refine r_istore_n hC dX9_isTop_60 rfl (by rw [hnl]; decide) (L' := [(3, .int 1), (2, .int (f 15)), (0, .ref m), (1, .int 15)]) rfl ?_
        refine r_iload_n hC dX9_isTop_61 rfl (j := 0) rfl ?_
        refine r_if_eq hC dX9_isTop_62 (tgt := 112) (by decide) (fun h => absurd h (by decide)) (fun _ => ?_)
        refine r_iload_n hC dX9_isTop_65 rfl (j := 3) rfl ?_
        refine r_iconst hC dX9_isTop_66 (v := 5) (by decide) ?_
        refine r_irem hC dX9_isTop_67 (by decide) ?_
        rw [show (15 - 15 / 5 * 5 : Int32) = 0 from by decide]
        refine r_if_eq hC dX9_isTop_68 (tgt := 86) (by decide) (fun _ => ?_) (fun h => absurd (by decide) h)
        refine r_iload_n hC dX9_isTop_86 rfl (j := 3) rfl ?_
        refine r_iconst hC dX9_isTop_87 (v := 5) (by decide) ?_
        refine r_irem hC dX9_isTop_88 (by decide) ?_
        rw [show (15 - 15 / 5 * 5 : Int32) = 0 from by decide]
        refine r_iconst hC dX9_isTop_89 (v := 4) (by decide) ?_
        refine r_icmp_eq hC dX9_isTop_90 (tgt := 108) (by decide) (fun h => absurd h (by decide)) (fun _ => ?_)
        refine r_iload_n hC dX9_isTop_93 rfl (j := 1) rfl ?_
        refine r_aload_n hC dX9_isTop_94 rfl (j := 2) rfl ?_
        refine r_get hC gX9_isTop_95 hm (v := .ref (m + 1)) rfl ?_
        refine r_bipush hC dX9_isTop_98 (v := 17) (by decide) ?_
        refine r_iload_n hC dX9_isTop_100 rfl (j := 3) rfl ?_
        refine r_iadd hC dX9_isTop_101 ?_
        rw [show (17 + 15 : Int32) = 32 from by decide]
        refine r_iconst hC dX9_isTop_102 (v := 1) (by decide) ?_
        refine r_iadd hC dX9_isTop_103 ?_
        rw [show (32 + 1 : Int32) = 33 from by decide]
        refine r_iald hC dX9_isTop_104 (j := 33) hv ⟨by decide, by decide, by decide⟩ ?_
        rw [show enc ((f, g, sl, op, lo), hd, rs, np, tp, av, lg, pl, tk) 33 = f 16 from enc_hi (c := 16) (by decide)]
        refine r_icmp_le hC dX9_isTop_105 (tgt := 112) (by decide) (fun c105 => ?_) (fun c105 => ?_)
        · refine r_iconst hC dX9_isTop_112 (v := 0) (by decide) ?_
          refine r_nret hC hE hR dX9_isTop_113 (by decide) (by omega) (by omega) (rfl) ?_
          have z0 : 0 < f 15 := Int32.not_le.mp c11
          have z1 : ¬ f 16 < f 15 := Int32.not_lt.mpr c105
          have e9 : hPeak f 15 = false := by
            unfold hPeak
            rw [show hNb 15 1 = 16 from by decide, decide_eq_false z1]
            simp
          exact ⟨by rw [e9]; rfl, rfl⟩
        · refine r_iconst hC dX9_isTop_108 (v := 1) (by decide) ?_
          refine r_goto hC dX9_isTop_109 (tgt := 113) (by decide) ?_
          refine r_nret hC hE hR dX9_isTop_113 (by decide) (by omega) (by omega) (rfl) ?_
          have z0 : 0 < f 15 := Int32.not_le.mp c11
          have y10 : f 10 < f 15 := Int32.not_le.mp c31
          have y20 : f 20 < f 15 := Int32.not_le.mp c52
          have y16 : f 16 < f 15 := Int32.not_le.mp c105
          have z2 : ¬ f 15 = 0 := fun z => Int32.ne_of_lt z0 z.symm
          have y25 : f 25 < f 15 := by rw [h25]; exact z0
          have e9 : hPeak f 15 = true := by
            unfold hPeak
            rw [show hNb 15 0 = 10 from by decide, show hNb 15 1 = 16 from by decide, show hNb 15 2 = 20 from by decide, show hNb 15 3 = 25 from by decide, decide_eq_true z2, decide_eq_true y10, decide_eq_true y16, decide_eq_true y20, decide_eq_true y25]
            rfl
          exact ⟨by rw [e9]; rfl, rfl⟩
set_option maxRecDepth 100000 in
set_option maxHeartbeats 4000000 in
theorem sm_isTop16 {d : Nat} {w : mW} {m : Nat} {th ch ea fa sv0 tn he en ln iw id0 : Int32} {f g : Nat → Int32} {sl op lo : Int32} {hd rs : Nat → Int32} {np : Nat} {tp av lg pl tk : Int32} (hm : w[m]? = some (mO 10 [.int th, .int ch, .int ea, .int fa, .int sv0, .ref (m + 1), .ref (m + 2), .ref (m + 3), .ref (m + 4), .ref (m + 5), .ref (m + 6), .ref (m + 7), .ref (m + 8), .ref (m + 9), .ref (m + 10), .int tn, .int he, .int en, .int ln, .int iw, .int id0])) (hv : w[m + 1]? = some (mI 0 67 (enc ((f, g, sl, op, lo), hd, rs, np, tp, av, lg, pl, tk)))) (h25 : f 25 = 0) (hpos : ∀ j, j < 25 → ¬ f j < 0) : Sp d yX9_isTop cX9_isTop 4 (some .boolean) [.ref m, .int 16] w 0 0 (fun v w' => v = some (.int (bI (hPeak f 16))) ∧ w' = w) noX := by
  refine Sp.of (by decide +kernel) (Nat.le_of_ble_eq_true rfl) (fun X hC hnl hE hR hN => ?_)
  have hC : Cx X RX9 cX9_isTop d 0 0 := hC
  show Wp X 0 0 w [(0, .ref m), (1, .int 16)] [] 0
  refine r_aload_n hC dX9_isTop_0 rfl (j := 0) rfl ?_
  refine r_get hC gX9_isTop_1 hm (v := .ref (m + 1)) rfl ?_
  refine r_bipush hC dX9_isTop_4 (v := 17) (by decide) ?_
  refine r_iload_n hC dX9_isTop_6 rfl (j := 1) rfl ?_
  refine r_iadd hC dX9_isTop_7 ?_
  rw [show (17 + 16 : Int32) = 33 from by decide]
  refine r_iald hC dX9_isTop_8 (j := 33) hv ⟨by decide, by decide, by decide⟩ ?_
  rw [show enc ((f, g, sl, op, lo), hd, rs, np, tp, av, lg, pl, tk) 33 = f 16 from enc_hi (c := 16) (by decide)]
  refine r_istore_n hC dX9_isTop_9 rfl (by rw [hnl]; decide) (L' := [(2, .int (f 16)), (0, .ref m), (1, .int 16)]) rfl ?_
  refine r_iload_n hC dX9_isTop_10 rfl (j := 0) rfl ?_
  refine r_if_le hC dX9_isTop_11 (tgt := 59) (by decide) (fun c11 => ?_) (fun c11 => ?_)
  · refine r_iconst hC dX9_isTop_59 (v := 0) (by decide) ?_
    refine r_istore_n hC dX9_isTop_60 rfl (by rw [hnl]; decide) (L' := [(3, .int 0), (2, .int (f 16)), (0, .ref m), (1, .int 16)]) rfl ?_
    refine r_iload_n hC dX9_isTop_61 rfl (j := 0) rfl ?_
    refine r_if_eq hC dX9_isTop_62 (tgt := 112) (by decide) (fun _ => ?_) (fun h => absurd (by decide) h)
    refine r_iconst hC dX9_isTop_112 (v := 0) (by decide) ?_
    refine r_nret hC hE hR dX9_isTop_113 (by decide) (by omega) (by omega) (rfl) ?_
    have z1 : f 16 = 0 := Int32.le_antisymm c11 (Int32.not_lt.mp (hpos 16 (by decide)))
    have e9 : hPeak f 16 = false := by
      unfold hPeak
      rw [z1]
      rfl
    exact ⟨by rw [e9]; rfl, rfl⟩
  · refine r_iload_n hC dX9_isTop_14 rfl (j := 2) rfl ?_
    refine r_iconst hC dX9_isTop_15 (v := 5) (by decide) ?_
    refine r_icmp_lt hC dX9_isTop_16 (tgt := 34) (by decide) (fun h => absurd h (by decide)) (fun _ => ?_)
    refine r_iload_n hC dX9_isTop_19 rfl (j := 0) rfl ?_
    refine r_aload_n hC dX9_isTop_20 rfl (j := 1) rfl ?_
    refine r_get hC gX9_isTop_21 hm (v := .ref (m + 1)) rfl ?_
    refine r_bipush hC dX9_isTop_24 (v := 17) (by decide) ?_
    refine r_iload_n hC dX9_isTop_26 rfl (j := 2) rfl ?_
    refine r_iadd hC dX9_isTop_27 ?_
    rw [show (17 + 16 : Int32) = 33 from by decide]
    refine r_iconst hC dX9_isTop_28 (v := 5) (by decide) ?_
    refine r_isub hC dX9_isTop_29 ?_
    rw [show (33 - 5 : Int32) = 28 from by decide]
    refine r_iald hC dX9_isTop_30 (j := 28) hv ⟨by decide, by decide, by decide⟩ ?_
    rw [show enc ((f, g, sl, op, lo), hd, rs, np, tp, av, lg, pl, tk) 28 = f 11 from enc_hi (c := 11) (by decide)]
    refine r_icmp_le hC dX9_isTop_31 (tgt := 59) (by decide) (fun c31 => ?_) (fun c31 => ?_)
    · refine r_iconst hC dX9_isTop_59 (v := 0) (by decide) ?_
      refine r_istore_n hC dX9_isTop_60 rfl (by rw [hnl]; decide) (L' := [(3, .int 0), (2, .int (f 16)), (0, .ref m), (1, .int 16)]) rfl ?_
      refine r_iload_n hC dX9_isTop_61 rfl (j := 0) rfl ?_
      refine r_if_eq hC dX9_isTop_62 (tgt := 112) (by decide) (fun _ => ?_) (fun h => absurd (by decide) h)
      refine r_iconst hC dX9_isTop_112 (v := 0) (by decide) ?_
      refine r_nret hC hE hR dX9_isTop_113 (by decide) (by omega) (by omega) (rfl) ?_
      have z0 : 0 < f 16 := Int32.not_le.mp c11
      have z1 : ¬ f 11 < f 16 := Int32.not_lt.mpr c31
      have e9 : hPeak f 16 = false := by
        unfold hPeak
        rw [show hNb 16 0 = 11 from by decide, decide_eq_false z1]
        simp
      exact ⟨by rw [e9]; rfl, rfl⟩
    · refine r_iload_n hC dX9_isTop_34 rfl (j := 2) rfl ?_
      refine r_bipush hC dX9_isTop_35 (v := 20) (by decide) ?_
      refine r_icmp_ge hC dX9_isTop_37 (tgt := 55) (by decide) (fun h => absurd h (by decide)) (fun _ => ?_)
      refine r_iload_n hC dX9_isTop_40 rfl (j := 0) rfl ?_
      refine r_aload_n hC dX9_isTop_41 rfl (j := 1) rfl ?_
      refine r_get hC gX9_isTop_42 hm (v := .ref (m + 1)) rfl ?_
      refine r_bipush hC dX9_isTop_45 (v := 17) (by decide) ?_
      refine r_iload_n hC dX9_isTop_47 rfl (j := 2) rfl ?_
      refine r_iadd hC dX9_isTop_48 ?_
      rw [show (17 + 16 : Int32) = 33 from by decide]
      refine r_iconst hC dX9_isTop_49 (v := 5) (by decide) ?_
      refine r_iadd hC dX9_isTop_50 ?_
      rw [show (33 + 5 : Int32) = 38 from by decide]
      refine r_iald hC dX9_isTop_51 (j := 38) hv ⟨by decide, by decide, by decide⟩ ?_
      rw [show enc ((f, g, sl, op, lo), hd, rs, np, tp, av, lg, pl, tk) 38 = f 21 from enc_hi (c := 21) (by decide)]
      refine r_icmp_le hC dX9_isTop_52 (tgt := 59) (by decide) (fun c52 => ?_) (fun c52 => ?_)
      · refine r_iconst hC dX9_isTop_59 (v := 0) (by decide) ?_
        refine r_istore_n hC dX9_isTop_60 rfl (by rw [hnl]; decide) (L' := [(3, .int 0), (2, .int (f 16)), (0, .ref m), (1, .int 16)]) rfl ?_
        refine r_iload_n hC dX9_isTop_61 rfl (j := 0) rfl ?_
        refine r_if_eq hC dX9_isTop_62 (tgt := 112) (by decide) (fun _ => ?_) (fun h => absurd (by decide) h)
        refine r_iconst hC dX9_isTop_112 (v := 0) (by decide) ?_
        refine r_nret hC hE hR dX9_isTop_113 (by decide) (by omega) (by omega) (rfl) ?_
        have z0 : 0 < f 16 := Int32.not_le.mp c11
        have z1 : ¬ f 21 < f 16 := Int32.not_lt.mpr c52
        have e9 : hPeak f 16 = false := by
          unfold hPeak
          rw [show hNb 16 3 = 21 from by decide, decide_eq_false z1]
          simp
        exact ⟨by rw [e9]; rfl, rfl⟩
      · refine r_iconst hC dX9_isTop_55 (v := 1) (by decide) ?_
        refine r_goto hC dX9_isTop_56 (tgt := 60) (by decide) ?_
        refine r_istore_n hC dX9_isTop_60 rfl (by rw [hnl]; decide) (L' := [(3, .int 1), (2, .int (f 16)), (0, .ref m), (1, .int 16)]) rfl ?_
        refine r_iload_n hC dX9_isTop_61 rfl (j := 0) rfl ?_
        refine r_if_eq hC dX9_isTop_62 (tgt := 112) (by decide) (fun h => absurd h (by decide)) (fun _ => ?_)
        refine r_iload_n hC dX9_isTop_65 rfl (j := 3) rfl ?_
        refine r_iconst hC dX9_isTop_66 (v := 5) (by decide) ?_
        refine r_irem hC dX9_isTop_67 (by decide) ?_
        rw [show (16 - 16 / 5 * 5 : Int32) = 1 from by decide]
        refine r_if_eq hC dX9_isTop_68 (tgt := 86) (by decide) (fun h => absurd h (by decide)) (fun _ => ?_)
        refine r_iload_n hC dX9_isTop_71 rfl (j := 1) rfl ?_
        refine r_aload_n hC dX9_isTop_72 rfl (j := 2) rfl ?_
        refine r_get hC gX9_isTop_73 hm (v := .ref (m + 1)) rfl ?_
        refine r_bipush hC dX9_isTop_76 (v := 17) (by decide) ?_
        refine r_iload_n hC dX9_isTop_78 rfl (j := 3) rfl ?_
        refine r_iadd hC dX9_isTop_79 ?_
        rw [show (17 + 16 : Int32) = 33 from by decide]
        refine r_iconst hC dX9_isTop_80 (v := 1) (by decide) ?_
        refine r_isub hC dX9_isTop_81 ?_
        rw [show (33 - 1 : Int32) = 32 from by decide]
        refine r_iald hC dX9_isTop_82 (j := 32) hv ⟨by decide, by decide, by decide⟩ ?_
        rw [show enc ((f, g, sl, op, lo), hd, rs, np, tp, av, lg, pl, tk) 32 = f 15 from enc_hi (c := 15) (by decide)]
        refine r_icmp_le hC dX9_isTop_83 (tgt := 112) (by decide) (fun c83 => ?_) (fun c83 => ?_)
        · refine r_iconst hC dX9_isTop_112 (v := 0) (by decide) ?_
          refine r_nret hC hE hR dX9_isTop_113 (by decide) (by omega) (by omega) (rfl) ?_
          have z0 : 0 < f 16 := Int32.not_le.mp c11
          have z1 : ¬ f 15 < f 16 := Int32.not_lt.mpr c83
          have e9 : hPeak f 16 = false := by
            unfold hPeak
            rw [show hNb 16 1 = 15 from by decide, decide_eq_false z1]
            simp
          exact ⟨by rw [e9]; rfl, rfl⟩
        · refine r_iload_n hC dX9_isTop_86 rfl (j := 3) rfl ?_
          refine r_iconst hC dX9_isTop_87 (v := 5) (by decide) ?_
          refine r_irem hC dX9_isTop_88 (by decide) ?_
          rw [show (16 - 16 / 5 * 5 : Int32) = 1 from by decide]
          refine r_iconst hC dX9_isTop_89 (v := 4) (by decide) ?_
          refine r_icmp_eq hC dX9_isTop_90 (tgt := 108) (by decide) (fun h => absurd h (by decide)) (fun _ => ?_)
          refine r_iload_n hC dX9_isTop_93 rfl (j := 1) rfl ?_
          refine r_aload_n hC dX9_isTop_94 rfl (j := 2) rfl ?_
          refine r_get hC gX9_isTop_95 hm (v := .ref (m + 1)) rfl ?_
          refine r_bipush hC dX9_isTop_98 (v := 17) (by decide) ?_
          refine r_iload_n hC dX9_isTop_100 rfl (j := 3) rfl ?_
          refine r_iadd hC dX9_isTop_101 ?_
          rw [show (17 + 16 : Int32) = 33 from by decide]
          refine r_iconst hC dX9_isTop_102 (v := 1) (by decide) ?_
          refine r_iadd hC dX9_isTop_103 ?_
          rw [show (33 + 1 : Int32) = 34 from by decide]
          refine r_iald hC dX9_isTop_104 (j := 34) hv ⟨by decide, by decide, by decide⟩ ?_
          rw [show enc ((f, g, sl, op, lo), hd, rs, np, tp, av, lg, pl, tk) 34 = f 17 from enc_hi (c := 17) (by decide)]
          refine r_icmp_le hC dX9_isTop_105 (tgt := 112) (by decide) (fun c105 => ?_) (fun c105 => ?_)
          · refine r_iconst hC dX9_isTop_112 (v := 0) (by decide) ?_
            refine r_nret hC hE hR dX9_isTop_113 (by decide) (by omega) (by omega) (rfl) ?_
            have z0 : 0 < f 16 := Int32.not_le.mp c11
            have z1 : ¬ f 17 < f 16 := Int32.not_lt.mpr c105
            have e9 : hPeak f 16 = false := by
              unfold hPeak
              rw [show hNb 16 2 = 17 from by decide, decide_eq_false z1]
              simp
            exact ⟨by rw [e9]; rfl, rfl⟩
          · refine r_iconst hC dX9_isTop_108 (v := 1) (by decide) ?_
            refine r_goto hC dX9_isTop_109 (tgt := 113) (by decide) ?_
            refine r_nret hC hE hR dX9_isTop_113 (by decide) (by omega) (by omega) (rfl) ?_
            have z0 : 0 < f 16 := Int32.not_le.mp c11
            have y11 : f 11 < f 16 := Int32.not_le.mp c31
            have y21 : f 21 < f 16 := Int32.not_le.mp c52
            have y15 : f 15 < f 16 := Int32.not_le.mp c83
            have y17 : f 17 < f 16 := Int32.not_le.mp c105
            have z2 : ¬ f 16 = 0 := fun z => Int32.ne_of_lt z0 z.symm
            have y25 : f 25 < f 16 := by rw [h25]; exact z0
            have e9 : hPeak f 16 = true := by
              unfold hPeak
              rw [show hNb 16 0 = 11 from by decide, show hNb 16 1 = 15 from by decide, show hNb 16 2 = 17 from by decide, show hNb 16 3 = 21 from by decide, decide_eq_true z2, decide_eq_true y11, decide_eq_true y15, decide_eq_true y17, decide_eq_true y21]
              rfl
            exact ⟨by rw [e9]; rfl, rfl⟩
set_option maxRecDepth 100000 in
set_option maxHeartbeats 4000000 in
theorem sm_isTop17 {d : Nat} {w : mW} {m : Nat} {th ch ea fa sv0 tn he en ln iw id0 : Int32} {f g : Nat → Int32} {sl op lo : Int32} {hd rs : Nat → Int32} {np : Nat} {tp av lg pl tk : Int32} (hm : w[m]? = some (mO 10 [.int th, .int ch, .int ea, .int fa, .int sv0, .ref (m + 1), .ref (m + 2), .ref (m + 3), .ref (m + 4), .ref (m + 5), .ref (m + 6), .ref (m + 7), .ref (m + 8), .ref (m + 9), .ref (m + 10), .int tn, .int he, .int en, .int ln, .int iw, .int id0])) (hv : w[m + 1]? = some (mI 0 67 (enc ((f, g, sl, op, lo), hd, rs, np, tp, av, lg, pl, tk)))) (h25 : f 25 = 0) (hpos : ∀ j, j < 25 → ¬ f j < 0) : Sp d yX9_isTop cX9_isTop 4 (some .boolean) [.ref m, .int 17] w 0 0 (fun v w' => v = some (.int (bI (hPeak f 17))) ∧ w' = w) noX := by
  refine Sp.of (by decide +kernel) (Nat.le_of_ble_eq_true rfl) (fun X hC hnl hE hR hN => ?_)
  have hC : Cx X RX9 cX9_isTop d 0 0 := hC
  show Wp X 0 0 w [(0, .ref m), (1, .int 17)] [] 0
  refine r_aload_n hC dX9_isTop_0 rfl (j := 0) rfl ?_
  refine r_get hC gX9_isTop_1 hm (v := .ref (m + 1)) rfl ?_
  refine r_bipush hC dX9_isTop_4 (v := 17) (by decide) ?_
  refine r_iload_n hC dX9_isTop_6 rfl (j := 1) rfl ?_
  refine r_iadd hC dX9_isTop_7 ?_
  rw [show (17 + 17 : Int32) = 34 from by decide]
  refine r_iald hC dX9_isTop_8 (j := 34) hv ⟨by decide, by decide, by decide⟩ ?_
  rw [show enc ((f, g, sl, op, lo), hd, rs, np, tp, av, lg, pl, tk) 34 = f 17 from enc_hi (c := 17) (by decide)]
  refine r_istore_n hC dX9_isTop_9 rfl (by rw [hnl]; decide) (L' := [(2, .int (f 17)), (0, .ref m), (1, .int 17)]) rfl ?_
  refine r_iload_n hC dX9_isTop_10 rfl (j := 0) rfl ?_
  refine r_if_le hC dX9_isTop_11 (tgt := 59) (by decide) (fun c11 => ?_) (fun c11 => ?_)
  · refine r_iconst hC dX9_isTop_59 (v := 0) (by decide) ?_
    refine r_istore_n hC dX9_isTop_60 rfl (by rw [hnl]; decide) (L' := [(3, .int 0), (2, .int (f 17)), (0, .ref m), (1, .int 17)]) rfl ?_
    refine r_iload_n hC dX9_isTop_61 rfl (j := 0) rfl ?_
    refine r_if_eq hC dX9_isTop_62 (tgt := 112) (by decide) (fun _ => ?_) (fun h => absurd (by decide) h)
    refine r_iconst hC dX9_isTop_112 (v := 0) (by decide) ?_
    refine r_nret hC hE hR dX9_isTop_113 (by decide) (by omega) (by omega) (rfl) ?_
    have z1 : f 17 = 0 := Int32.le_antisymm c11 (Int32.not_lt.mp (hpos 17 (by decide)))
    have e9 : hPeak f 17 = false := by
      unfold hPeak
      rw [z1]
      rfl
    exact ⟨by rw [e9]; rfl, rfl⟩
  · refine r_iload_n hC dX9_isTop_14 rfl (j := 2) rfl ?_
    refine r_iconst hC dX9_isTop_15 (v := 5) (by decide) ?_
    refine r_icmp_lt hC dX9_isTop_16 (tgt := 34) (by decide) (fun h => absurd h (by decide)) (fun _ => ?_)
    refine r_iload_n hC dX9_isTop_19 rfl (j := 0) rfl ?_
    refine r_aload_n hC dX9_isTop_20 rfl (j := 1) rfl ?_
    refine r_get hC gX9_isTop_21 hm (v := .ref (m + 1)) rfl ?_
    refine r_bipush hC dX9_isTop_24 (v := 17) (by decide) ?_
    refine r_iload_n hC dX9_isTop_26 rfl (j := 2) rfl ?_
    refine r_iadd hC dX9_isTop_27 ?_
    rw [show (17 + 17 : Int32) = 34 from by decide]
    refine r_iconst hC dX9_isTop_28 (v := 5) (by decide) ?_
    refine r_isub hC dX9_isTop_29 ?_
    rw [show (34 - 5 : Int32) = 29 from by decide]
    refine r_iald hC dX9_isTop_30 (j := 29) hv ⟨by decide, by decide, by decide⟩ ?_
    rw [show enc ((f, g, sl, op, lo), hd, rs, np, tp, av, lg, pl, tk) 29 = f 12 from enc_hi (c := 12) (by decide)]
    refine r_icmp_le hC dX9_isTop_31 (tgt := 59) (by decide) (fun c31 => ?_) (fun c31 => ?_)
    · refine r_iconst hC dX9_isTop_59 (v := 0) (by decide) ?_
      refine r_istore_n hC dX9_isTop_60 rfl (by rw [hnl]; decide) (L' := [(3, .int 0), (2, .int (f 17)), (0, .ref m), (1, .int 17)]) rfl ?_
      refine r_iload_n hC dX9_isTop_61 rfl (j := 0) rfl ?_
      refine r_if_eq hC dX9_isTop_62 (tgt := 112) (by decide) (fun _ => ?_) (fun h => absurd (by decide) h)
      refine r_iconst hC dX9_isTop_112 (v := 0) (by decide) ?_
      refine r_nret hC hE hR dX9_isTop_113 (by decide) (by omega) (by omega) (rfl) ?_
      have z0 : 0 < f 17 := Int32.not_le.mp c11
      have z1 : ¬ f 12 < f 17 := Int32.not_lt.mpr c31
      have e9 : hPeak f 17 = false := by
        unfold hPeak
        rw [show hNb 17 0 = 12 from by decide, decide_eq_false z1]
        simp
      exact ⟨by rw [e9]; rfl, rfl⟩
    · refine r_iload_n hC dX9_isTop_34 rfl (j := 2) rfl ?_
      refine r_bipush hC dX9_isTop_35 (v := 20) (by decide) ?_
      refine r_icmp_ge hC dX9_isTop_37 (tgt := 55) (by decide) (fun h => absurd h (by decide)) (fun _ => ?_)
      refine r_iload_n hC dX9_isTop_40 rfl (j := 0) rfl ?_
      refine r_aload_n hC dX9_isTop_41 rfl (j := 1) rfl ?_
      refine r_get hC gX9_isTop_42 hm (v := .ref (m + 1)) rfl ?_
      refine r_bipush hC dX9_isTop_45 (v := 17) (by decide) ?_
      refine r_iload_n hC dX9_isTop_47 rfl (j := 2) rfl ?_
      refine r_iadd hC dX9_isTop_48 ?_
      rw [show (17 + 17 : Int32) = 34 from by decide]
      refine r_iconst hC dX9_isTop_49 (v := 5) (by decide) ?_
      refine r_iadd hC dX9_isTop_50 ?_
      rw [show (34 + 5 : Int32) = 39 from by decide]
      refine r_iald hC dX9_isTop_51 (j := 39) hv ⟨by decide, by decide, by decide⟩ ?_
      rw [show enc ((f, g, sl, op, lo), hd, rs, np, tp, av, lg, pl, tk) 39 = f 22 from enc_hi (c := 22) (by decide)]
      refine r_icmp_le hC dX9_isTop_52 (tgt := 59) (by decide) (fun c52 => ?_) (fun c52 => ?_)
      · refine r_iconst hC dX9_isTop_59 (v := 0) (by decide) ?_
        refine r_istore_n hC dX9_isTop_60 rfl (by rw [hnl]; decide) (L' := [(3, .int 0), (2, .int (f 17)), (0, .ref m), (1, .int 17)]) rfl ?_
        refine r_iload_n hC dX9_isTop_61 rfl (j := 0) rfl ?_
        refine r_if_eq hC dX9_isTop_62 (tgt := 112) (by decide) (fun _ => ?_) (fun h => absurd (by decide) h)
        refine r_iconst hC dX9_isTop_112 (v := 0) (by decide) ?_
        refine r_nret hC hE hR dX9_isTop_113 (by decide) (by omega) (by omega) (rfl) ?_
        have z0 : 0 < f 17 := Int32.not_le.mp c11
        have z1 : ¬ f 22 < f 17 := Int32.not_lt.mpr c52
        have e9 : hPeak f 17 = false := by
          unfold hPeak
          rw [show hNb 17 3 = 22 from by decide, decide_eq_false z1]
          simp
        exact ⟨by rw [e9]; rfl, rfl⟩
      · refine r_iconst hC dX9_isTop_55 (v := 1) (by decide) ?_
        refine r_goto hC dX9_isTop_56 (tgt := 60) (by decide) ?_
        refine r_istore_n hC dX9_isTop_60 rfl (by rw [hnl]; decide) (L' := [(3, .int 1), (2, .int (f 17)), (0, .ref m), (1, .int 17)]) rfl ?_
        refine r_iload_n hC dX9_isTop_61 rfl (j := 0) rfl ?_
        refine r_if_eq hC dX9_isTop_62 (tgt := 112) (by decide) (fun h => absurd h (by decide)) (fun _ => ?_)
        refine r_iload_n hC dX9_isTop_65 rfl (j := 3) rfl ?_
        refine r_iconst hC dX9_isTop_66 (v := 5) (by decide) ?_
        refine r_irem hC dX9_isTop_67 (by decide) ?_
        rw [show (17 - 17 / 5 * 5 : Int32) = 2 from by decide]
        refine r_if_eq hC dX9_isTop_68 (tgt := 86) (by decide) (fun h => absurd h (by decide)) (fun _ => ?_)
        refine r_iload_n hC dX9_isTop_71 rfl (j := 1) rfl ?_
        refine r_aload_n hC dX9_isTop_72 rfl (j := 2) rfl ?_
        refine r_get hC gX9_isTop_73 hm (v := .ref (m + 1)) rfl ?_
        refine r_bipush hC dX9_isTop_76 (v := 17) (by decide) ?_
        refine r_iload_n hC dX9_isTop_78 rfl (j := 3) rfl ?_
        refine r_iadd hC dX9_isTop_79 ?_
        rw [show (17 + 17 : Int32) = 34 from by decide]
        refine r_iconst hC dX9_isTop_80 (v := 1) (by decide) ?_
        refine r_isub hC dX9_isTop_81 ?_
        rw [show (34 - 1 : Int32) = 33 from by decide]
        refine r_iald hC dX9_isTop_82 (j := 33) hv ⟨by decide, by decide, by decide⟩ ?_
        rw [show enc ((f, g, sl, op, lo), hd, rs, np, tp, av, lg, pl, tk) 33 = f 16 from enc_hi (c := 16) (by decide)]
        refine r_icmp_le hC dX9_isTop_83 (tgt := 112) (by decide) (fun c83 => ?_) (fun c83 => ?_)
        · refine r_iconst hC dX9_isTop_112 (v := 0) (by decide) ?_
          refine r_nret hC hE hR dX9_isTop_113 (by decide) (by omega) (by omega) (rfl) ?_
          have z0 : 0 < f 17 := Int32.not_le.mp c11
          have z1 : ¬ f 16 < f 17 := Int32.not_lt.mpr c83
          have e9 : hPeak f 17 = false := by
            unfold hPeak
            rw [show hNb 17 1 = 16 from by decide, decide_eq_false z1]
            simp
          exact ⟨by rw [e9]; rfl, rfl⟩
        · refine r_iload_n hC dX9_isTop_86 rfl (j := 3) rfl ?_
          refine r_iconst hC dX9_isTop_87 (v := 5) (by decide) ?_
          refine r_irem hC dX9_isTop_88 (by decide) ?_
          rw [show (17 - 17 / 5 * 5 : Int32) = 2 from by decide]
          refine r_iconst hC dX9_isTop_89 (v := 4) (by decide) ?_
          refine r_icmp_eq hC dX9_isTop_90 (tgt := 108) (by decide) (fun h => absurd h (by decide)) (fun _ => ?_)
          refine r_iload_n hC dX9_isTop_93 rfl (j := 1) rfl ?_
          refine r_aload_n hC dX9_isTop_94 rfl (j := 2) rfl ?_
          refine r_get hC gX9_isTop_95 hm (v := .ref (m + 1)) rfl ?_
          refine r_bipush hC dX9_isTop_98 (v := 17) (by decide) ?_
          refine r_iload_n hC dX9_isTop_100 rfl (j := 3) rfl ?_
          refine r_iadd hC dX9_isTop_101 ?_
          rw [show (17 + 17 : Int32) = 34 from by decide]
          refine r_iconst hC dX9_isTop_102 (v := 1) (by decide) ?_
          refine r_iadd hC dX9_isTop_103 ?_
          rw [show (34 + 1 : Int32) = 35 from by decide]
          refine r_iald hC dX9_isTop_104 (j := 35) hv ⟨by decide, by decide, by decide⟩ ?_
          rw [show enc ((f, g, sl, op, lo), hd, rs, np, tp, av, lg, pl, tk) 35 = f 18 from enc_hi (c := 18) (by decide)]
          refine r_icmp_le hC dX9_isTop_105 (tgt := 112) (by decide) (fun c105 => ?_) (fun c105 => ?_)
          · refine r_iconst hC dX9_isTop_112 (v := 0) (by decide) ?_
            refine r_nret hC hE hR dX9_isTop_113 (by decide) (by omega) (by omega) (rfl) ?_
            have z0 : 0 < f 17 := Int32.not_le.mp c11
            have z1 : ¬ f 18 < f 17 := Int32.not_lt.mpr c105
            have e9 : hPeak f 17 = false := by
              unfold hPeak
              rw [show hNb 17 2 = 18 from by decide, decide_eq_false z1]
              simp
            exact ⟨by rw [e9]; rfl, rfl⟩
          · refine r_iconst hC dX9_isTop_108 (v := 1) (by decide) ?_
            refine r_goto hC dX9_isTop_109 (tgt := 113) (by decide) ?_
            refine r_nret hC hE hR dX9_isTop_113 (by decide) (by omega) (by omega) (rfl) ?_
            have z0 : 0 < f 17 := Int32.not_le.mp c11
            have y12 : f 12 < f 17 := Int32.not_le.mp c31
            have y22 : f 22 < f 17 := Int32.not_le.mp c52
            have y16 : f 16 < f 17 := Int32.not_le.mp c83
            have y18 : f 18 < f 17 := Int32.not_le.mp c105
            have z2 : ¬ f 17 = 0 := fun z => Int32.ne_of_lt z0 z.symm
            have y25 : f 25 < f 17 := by rw [h25]; exact z0
            have e9 : hPeak f 17 = true := by
              unfold hPeak
              rw [show hNb 17 0 = 12 from by decide, show hNb 17 1 = 16 from by decide, show hNb 17 2 = 18 from by decide, show hNb 17 3 = 22 from by decide, decide_eq_true z2, decide_eq_true y12, decide_eq_true y16, decide_eq_true y18, decide_eq_true y22]
              rfl
            exact ⟨by rw [e9]; rfl, rfl⟩
set_option maxRecDepth 100000 in
set_option maxHeartbeats 4000000 in
theorem sm_isTop18 {d : Nat} {w : mW} {m : Nat} {th ch ea fa sv0 tn he en ln iw id0 : Int32} {f g : Nat → Int32} {sl op lo : Int32} {hd rs : Nat → Int32} {np : Nat} {tp av lg pl tk : Int32} (hm : w[m]? = some (mO 10 [.int th, .int ch, .int ea, .int fa, .int sv0, .ref (m + 1), .ref (m + 2), .ref (m + 3), .ref (m + 4), .ref (m + 5), .ref (m + 6), .ref (m + 7), .ref (m + 8), .ref (m + 9), .ref (m + 10), .int tn, .int he, .int en, .int ln, .int iw, .int id0])) (hv : w[m + 1]? = some (mI 0 67 (enc ((f, g, sl, op, lo), hd, rs, np, tp, av, lg, pl, tk)))) (h25 : f 25 = 0) (hpos : ∀ j, j < 25 → ¬ f j < 0) : Sp d yX9_isTop cX9_isTop 4 (some .boolean) [.ref m, .int 18] w 0 0 (fun v w' => v = some (.int (bI (hPeak f 18))) ∧ w' = w) noX := by
  refine Sp.of (by decide +kernel) (Nat.le_of_ble_eq_true rfl) (fun X hC hnl hE hR hN => ?_)
  have hC : Cx X RX9 cX9_isTop d 0 0 := hC
  show Wp X 0 0 w [(0, .ref m), (1, .int 18)] [] 0
  refine r_aload_n hC dX9_isTop_0 rfl (j := 0) rfl ?_
  refine r_get hC gX9_isTop_1 hm (v := .ref (m + 1)) rfl ?_
  refine r_bipush hC dX9_isTop_4 (v := 17) (by decide) ?_
  refine r_iload_n hC dX9_isTop_6 rfl (j := 1) rfl ?_
  refine r_iadd hC dX9_isTop_7 ?_
  rw [show (17 + 18 : Int32) = 35 from by decide]
  refine r_iald hC dX9_isTop_8 (j := 35) hv ⟨by decide, by decide, by decide⟩ ?_
  rw [show enc ((f, g, sl, op, lo), hd, rs, np, tp, av, lg, pl, tk) 35 = f 18 from enc_hi (c := 18) (by decide)]
  refine r_istore_n hC dX9_isTop_9 rfl (by rw [hnl]; decide) (L' := [(2, .int (f 18)), (0, .ref m), (1, .int 18)]) rfl ?_
  refine r_iload_n hC dX9_isTop_10 rfl (j := 0) rfl ?_
  refine r_if_le hC dX9_isTop_11 (tgt := 59) (by decide) (fun c11 => ?_) (fun c11 => ?_)
  · refine r_iconst hC dX9_isTop_59 (v := 0) (by decide) ?_
    refine r_istore_n hC dX9_isTop_60 rfl (by rw [hnl]; decide) (L' := [(3, .int 0), (2, .int (f 18)), (0, .ref m), (1, .int 18)]) rfl ?_
    refine r_iload_n hC dX9_isTop_61 rfl (j := 0) rfl ?_
    refine r_if_eq hC dX9_isTop_62 (tgt := 112) (by decide) (fun _ => ?_) (fun h => absurd (by decide) h)
    refine r_iconst hC dX9_isTop_112 (v := 0) (by decide) ?_
    refine r_nret hC hE hR dX9_isTop_113 (by decide) (by omega) (by omega) (rfl) ?_
    have z1 : f 18 = 0 := Int32.le_antisymm c11 (Int32.not_lt.mp (hpos 18 (by decide)))
    have e9 : hPeak f 18 = false := by
      unfold hPeak
      rw [z1]
      rfl
    exact ⟨by rw [e9]; rfl, rfl⟩
  · refine r_iload_n hC dX9_isTop_14 rfl (j := 2) rfl ?_
    refine r_iconst hC dX9_isTop_15 (v := 5) (by decide) ?_
    refine r_icmp_lt hC dX9_isTop_16 (tgt := 34) (by decide) (fun h => absurd h (by decide)) (fun _ => ?_)
    refine r_iload_n hC dX9_isTop_19 rfl (j := 0) rfl ?_
    refine r_aload_n hC dX9_isTop_20 rfl (j := 1) rfl ?_
    refine r_get hC gX9_isTop_21 hm (v := .ref (m + 1)) rfl ?_
    refine r_bipush hC dX9_isTop_24 (v := 17) (by decide) ?_
    refine r_iload_n hC dX9_isTop_26 rfl (j := 2) rfl ?_
    refine r_iadd hC dX9_isTop_27 ?_
    rw [show (17 + 18 : Int32) = 35 from by decide]
    refine r_iconst hC dX9_isTop_28 (v := 5) (by decide) ?_
    refine r_isub hC dX9_isTop_29 ?_
    rw [show (35 - 5 : Int32) = 30 from by decide]
    refine r_iald hC dX9_isTop_30 (j := 30) hv ⟨by decide, by decide, by decide⟩ ?_
    rw [show enc ((f, g, sl, op, lo), hd, rs, np, tp, av, lg, pl, tk) 30 = f 13 from enc_hi (c := 13) (by decide)]
    refine r_icmp_le hC dX9_isTop_31 (tgt := 59) (by decide) (fun c31 => ?_) (fun c31 => ?_)
    · refine r_iconst hC dX9_isTop_59 (v := 0) (by decide) ?_
      refine r_istore_n hC dX9_isTop_60 rfl (by rw [hnl]; decide) (L' := [(3, .int 0), (2, .int (f 18)), (0, .ref m), (1, .int 18)]) rfl ?_
      refine r_iload_n hC dX9_isTop_61 rfl (j := 0) rfl ?_
      refine r_if_eq hC dX9_isTop_62 (tgt := 112) (by decide) (fun _ => ?_) (fun h => absurd (by decide) h)
      refine r_iconst hC dX9_isTop_112 (v := 0) (by decide) ?_
      refine r_nret hC hE hR dX9_isTop_113 (by decide) (by omega) (by omega) (rfl) ?_
      have z0 : 0 < f 18 := Int32.not_le.mp c11
      have z1 : ¬ f 13 < f 18 := Int32.not_lt.mpr c31
      have e9 : hPeak f 18 = false := by
        unfold hPeak
        rw [show hNb 18 0 = 13 from by decide, decide_eq_false z1]
        simp
      exact ⟨by rw [e9]; rfl, rfl⟩
    · refine r_iload_n hC dX9_isTop_34 rfl (j := 2) rfl ?_
      refine r_bipush hC dX9_isTop_35 (v := 20) (by decide) ?_
      refine r_icmp_ge hC dX9_isTop_37 (tgt := 55) (by decide) (fun h => absurd h (by decide)) (fun _ => ?_)
      refine r_iload_n hC dX9_isTop_40 rfl (j := 0) rfl ?_
      refine r_aload_n hC dX9_isTop_41 rfl (j := 1) rfl ?_
      refine r_get hC gX9_isTop_42 hm (v := .ref (m + 1)) rfl ?_
      refine r_bipush hC dX9_isTop_45 (v := 17) (by decide) ?_
      refine r_iload_n hC dX9_isTop_47 rfl (j := 2) rfl ?_
      refine r_iadd hC dX9_isTop_48 ?_
      rw [show (17 + 18 : Int32) = 35 from by decide]
      refine r_iconst hC dX9_isTop_49 (v := 5) (by decide) ?_
      refine r_iadd hC dX9_isTop_50 ?_
      rw [show (35 + 5 : Int32) = 40 from by decide]
      refine r_iald hC dX9_isTop_51 (j := 40) hv ⟨by decide, by decide, by decide⟩ ?_
      rw [show enc ((f, g, sl, op, lo), hd, rs, np, tp, av, lg, pl, tk) 40 = f 23 from enc_hi (c := 23) (by decide)]
      refine r_icmp_le hC dX9_isTop_52 (tgt := 59) (by decide) (fun c52 => ?_) (fun c52 => ?_)
      · refine r_iconst hC dX9_isTop_59 (v := 0) (by decide) ?_
        refine r_istore_n hC dX9_isTop_60 rfl (by rw [hnl]; decide) (L' := [(3, .int 0), (2, .int (f 18)), (0, .ref m), (1, .int 18)]) rfl ?_
        refine r_iload_n hC dX9_isTop_61 rfl (j := 0) rfl ?_
        refine r_if_eq hC dX9_isTop_62 (tgt := 112) (by decide) (fun _ => ?_) (fun h => absurd (by decide) h)
        refine r_iconst hC dX9_isTop_112 (v := 0) (by decide) ?_
        refine r_nret hC hE hR dX9_isTop_113 (by decide) (by omega) (by omega) (rfl) ?_
        have z0 : 0 < f 18 := Int32.not_le.mp c11
        have z1 : ¬ f 23 < f 18 := Int32.not_lt.mpr c52
        have e9 : hPeak f 18 = false := by
          unfold hPeak
          rw [show hNb 18 3 = 23 from by decide, decide_eq_false z1]
          simp
        exact ⟨by rw [e9]; rfl, rfl⟩
      · refine r_iconst hC dX9_isTop_55 (v := 1) (by decide) ?_
        refine r_goto hC dX9_isTop_56 (tgt := 60) (by decide) ?_
        refine r_istore_n hC dX9_isTop_60 rfl (by rw [hnl]; decide) (L' := [(3, .int 1), (2, .int (f 18)), (0, .ref m), (1, .int 18)]) rfl ?_
        refine r_iload_n hC dX9_isTop_61 rfl (j := 0) rfl ?_
        refine r_if_eq hC dX9_isTop_62 (tgt := 112) (by decide) (fun h => absurd h (by decide)) (fun _ => ?_)
        refine r_iload_n hC dX9_isTop_65 rfl (j := 3) rfl ?_
        refine r_iconst hC dX9_isTop_66 (v := 5) (by decide) ?_
        refine r_irem hC dX9_isTop_67 (by decide) ?_
        rw [show (18 - 18 / 5 * 5 : Int32) = 3 from by decide]
        refine r_if_eq hC dX9_isTop_68 (tgt := 86) (by decide) (fun h => absurd h (by decide)) (fun _ => ?_)
        refine r_iload_n hC dX9_isTop_71 rfl (j := 1) rfl ?_
        refine r_aload_n hC dX9_isTop_72 rfl (j := 2) rfl ?_
        refine r_get hC gX9_isTop_73 hm (v := .ref (m + 1)) rfl ?_
        refine r_bipush hC dX9_isTop_76 (v := 17) (by decide) ?_
        refine r_iload_n hC dX9_isTop_78 rfl (j := 3) rfl ?_
        refine r_iadd hC dX9_isTop_79 ?_
        rw [show (17 + 18 : Int32) = 35 from by decide]
        refine r_iconst hC dX9_isTop_80 (v := 1) (by decide) ?_
        refine r_isub hC dX9_isTop_81 ?_
        rw [show (35 - 1 : Int32) = 34 from by decide]
        refine r_iald hC dX9_isTop_82 (j := 34) hv ⟨by decide, by decide, by decide⟩ ?_
        rw [show enc ((f, g, sl, op, lo), hd, rs, np, tp, av, lg, pl, tk) 34 = f 17 from enc_hi (c := 17) (by decide)]
        refine r_icmp_le hC dX9_isTop_83 (tgt := 112) (by decide) (fun c83 => ?_) (fun c83 => ?_)
        · refine r_iconst hC dX9_isTop_112 (v := 0) (by decide) ?_
          refine r_nret hC hE hR dX9_isTop_113 (by decide) (by omega) (by omega) (rfl) ?_
          have z0 : 0 < f 18 := Int32.not_le.mp c11
          have z1 : ¬ f 17 < f 18 := Int32.not_lt.mpr c83
          have e9 : hPeak f 18 = false := by
            unfold hPeak
            rw [show hNb 18 1 = 17 from by decide, decide_eq_false z1]
            simp
          exact ⟨by rw [e9]; rfl, rfl⟩
        · refine r_iload_n hC dX9_isTop_86 rfl (j := 3) rfl ?_
          refine r_iconst hC dX9_isTop_87 (v := 5) (by decide) ?_
          refine r_irem hC dX9_isTop_88 (by decide) ?_
          rw [show (18 - 18 / 5 * 5 : Int32) = 3 from by decide]
          refine r_iconst hC dX9_isTop_89 (v := 4) (by decide) ?_
          refine r_icmp_eq hC dX9_isTop_90 (tgt := 108) (by decide) (fun h => absurd h (by decide)) (fun _ => ?_)
          refine r_iload_n hC dX9_isTop_93 rfl (j := 1) rfl ?_
          refine r_aload_n hC dX9_isTop_94 rfl (j := 2) rfl ?_
          refine r_get hC gX9_isTop_95 hm (v := .ref (m + 1)) rfl ?_
          refine r_bipush hC dX9_isTop_98 (v := 17) (by decide) ?_
          refine r_iload_n hC dX9_isTop_100 rfl (j := 3) rfl ?_
          refine r_iadd hC dX9_isTop_101 ?_
          rw [show (17 + 18 : Int32) = 35 from by decide]
          refine r_iconst hC dX9_isTop_102 (v := 1) (by decide) ?_
          refine r_iadd hC dX9_isTop_103 ?_
          rw [show (35 + 1 : Int32) = 36 from by decide]
          refine r_iald hC dX9_isTop_104 (j := 36) hv ⟨by decide, by decide, by decide⟩ ?_
          rw [show enc ((f, g, sl, op, lo), hd, rs, np, tp, av, lg, pl, tk) 36 = f 19 from enc_hi (c := 19) (by decide)]
          refine r_icmp_le hC dX9_isTop_105 (tgt := 112) (by decide) (fun c105 => ?_) (fun c105 => ?_)
          · refine r_iconst hC dX9_isTop_112 (v := 0) (by decide) ?_
            refine r_nret hC hE hR dX9_isTop_113 (by decide) (by omega) (by omega) (rfl) ?_
            have z0 : 0 < f 18 := Int32.not_le.mp c11
            have z1 : ¬ f 19 < f 18 := Int32.not_lt.mpr c105
            have e9 : hPeak f 18 = false := by
              unfold hPeak
              rw [show hNb 18 2 = 19 from by decide, decide_eq_false z1]
              simp
            exact ⟨by rw [e9]; rfl, rfl⟩
          · refine r_iconst hC dX9_isTop_108 (v := 1) (by decide) ?_
            refine r_goto hC dX9_isTop_109 (tgt := 113) (by decide) ?_
            refine r_nret hC hE hR dX9_isTop_113 (by decide) (by omega) (by omega) (rfl) ?_
            have z0 : 0 < f 18 := Int32.not_le.mp c11
            have y13 : f 13 < f 18 := Int32.not_le.mp c31
            have y23 : f 23 < f 18 := Int32.not_le.mp c52
            have y17 : f 17 < f 18 := Int32.not_le.mp c83
            have y19 : f 19 < f 18 := Int32.not_le.mp c105
            have z2 : ¬ f 18 = 0 := fun z => Int32.ne_of_lt z0 z.symm
            have y25 : f 25 < f 18 := by rw [h25]; exact z0
            have e9 : hPeak f 18 = true := by
              unfold hPeak
              rw [show hNb 18 0 = 13 from by decide, show hNb 18 1 = 17 from by decide, show hNb 18 2 = 19 from by decide, show hNb 18 3 = 23 from by decide, decide_eq_true z2, decide_eq_true y13, decide_eq_true y17, decide_eq_true y19, decide_eq_true y23]
              rfl
            exact ⟨by rw [e9]; rfl, rfl⟩
set_option maxRecDepth 100000 in
set_option maxHeartbeats 4000000 in
theorem sm_isTop19 {d : Nat} {w : mW} {m : Nat} {th ch ea fa sv0 tn he en ln iw id0 : Int32} {f g : Nat → Int32} {sl op lo : Int32} {hd rs : Nat → Int32} {np : Nat} {tp av lg pl tk : Int32} (hm : w[m]? = some (mO 10 [.int th, .int ch, .int ea, .int fa, .int sv0, .ref (m + 1), .ref (m + 2), .ref (m + 3), .ref (m + 4), .ref (m + 5), .ref (m + 6), .ref (m + 7), .ref (m + 8), .ref (m + 9), .ref (m + 10), .int tn, .int he, .int en, .int ln, .int iw, .int id0])) (hv : w[m + 1]? = some (mI 0 67 (enc ((f, g, sl, op, lo), hd, rs, np, tp, av, lg, pl, tk)))) (h25 : f 25 = 0) (hpos : ∀ j, j < 25 → ¬ f j < 0) : Sp d yX9_isTop cX9_isTop 4 (some .boolean) [.ref m, .int 19] w 0 0 (fun v w' => v = some (.int (bI (hPeak f 19))) ∧ w' = w) noX := by
  refine Sp.of (by decide +kernel) (Nat.le_of_ble_eq_true rfl) (fun X hC hnl hE hR hN => ?_)
  have hC : Cx X RX9 cX9_isTop d 0 0 := hC
  show Wp X 0 0 w [(0, .ref m), (1, .int 19)] [] 0
  refine r_aload_n hC dX9_isTop_0 rfl (j := 0) rfl ?_
  refine r_get hC gX9_isTop_1 hm (v := .ref (m + 1)) rfl ?_
  refine r_bipush hC dX9_isTop_4 (v := 17) (by decide) ?_
  refine r_iload_n hC dX9_isTop_6 rfl (j := 1) rfl ?_
  refine r_iadd hC dX9_isTop_7 ?_
  rw [show (17 + 19 : Int32) = 36 from by decide]
  refine r_iald hC dX9_isTop_8 (j := 36) hv ⟨by decide, by decide, by decide⟩ ?_
  rw [show enc ((f, g, sl, op, lo), hd, rs, np, tp, av, lg, pl, tk) 36 = f 19 from enc_hi (c := 19) (by decide)]
  refine r_istore_n hC dX9_isTop_9 rfl (by rw [hnl]; decide) (L' := [(2, .int (f 19)), (0, .ref m), (1, .int 19)]) rfl ?_
  refine r_iload_n hC dX9_isTop_10 rfl (j := 0) rfl ?_
  refine r_if_le hC dX9_isTop_11 (tgt := 59) (by decide) (fun c11 => ?_) (fun c11 => ?_)
  · refine r_iconst hC dX9_isTop_59 (v := 0) (by decide) ?_
    refine r_istore_n hC dX9_isTop_60 rfl (by rw [hnl]; decide) (L' := [(3, .int 0), (2, .int (f 19)), (0, .ref m), (1, .int 19)]) rfl ?_
    refine r_iload_n hC dX9_isTop_61 rfl (j := 0) rfl ?_
    refine r_if_eq hC dX9_isTop_62 (tgt := 112) (by decide) (fun _ => ?_) (fun h => absurd (by decide) h)
    refine r_iconst hC dX9_isTop_112 (v := 0) (by decide) ?_
    refine r_nret hC hE hR dX9_isTop_113 (by decide) (by omega) (by omega) (rfl) ?_
    have z1 : f 19 = 0 := Int32.le_antisymm c11 (Int32.not_lt.mp (hpos 19 (by decide)))
    have e9 : hPeak f 19 = false := by
      unfold hPeak
      rw [z1]
      rfl
    exact ⟨by rw [e9]; rfl, rfl⟩
  · refine r_iload_n hC dX9_isTop_14 rfl (j := 2) rfl ?_
    refine r_iconst hC dX9_isTop_15 (v := 5) (by decide) ?_
    refine r_icmp_lt hC dX9_isTop_16 (tgt := 34) (by decide) (fun h => absurd h (by decide)) (fun _ => ?_)
    refine r_iload_n hC dX9_isTop_19 rfl (j := 0) rfl ?_
    refine r_aload_n hC dX9_isTop_20 rfl (j := 1) rfl ?_
    refine r_get hC gX9_isTop_21 hm (v := .ref (m + 1)) rfl ?_
    refine r_bipush hC dX9_isTop_24 (v := 17) (by decide) ?_
    refine r_iload_n hC dX9_isTop_26 rfl (j := 2) rfl ?_
    refine r_iadd hC dX9_isTop_27 ?_
    rw [show (17 + 19 : Int32) = 36 from by decide]
    refine r_iconst hC dX9_isTop_28 (v := 5) (by decide) ?_
    refine r_isub hC dX9_isTop_29 ?_
    rw [show (36 - 5 : Int32) = 31 from by decide]
    refine r_iald hC dX9_isTop_30 (j := 31) hv ⟨by decide, by decide, by decide⟩ ?_
    rw [show enc ((f, g, sl, op, lo), hd, rs, np, tp, av, lg, pl, tk) 31 = f 14 from enc_hi (c := 14) (by decide)]
    refine r_icmp_le hC dX9_isTop_31 (tgt := 59) (by decide) (fun c31 => ?_) (fun c31 => ?_)
    · refine r_iconst hC dX9_isTop_59 (v := 0) (by decide) ?_
      refine r_istore_n hC dX9_isTop_60 rfl (by rw [hnl]; decide) (L' := [(3, .int 0), (2, .int (f 19)), (0, .ref m), (1, .int 19)]) rfl ?_
      refine r_iload_n hC dX9_isTop_61 rfl (j := 0) rfl ?_
      refine r_if_eq hC dX9_isTop_62 (tgt := 112) (by decide) (fun _ => ?_) (fun h => absurd (by decide) h)
      refine r_iconst hC dX9_isTop_112 (v := 0) (by decide) ?_
      refine r_nret hC hE hR dX9_isTop_113 (by decide) (by omega) (by omega) (rfl) ?_
      have z0 : 0 < f 19 := Int32.not_le.mp c11
      have z1 : ¬ f 14 < f 19 := Int32.not_lt.mpr c31
      have e9 : hPeak f 19 = false := by
        unfold hPeak
        rw [show hNb 19 0 = 14 from by decide, decide_eq_false z1]
        simp
      exact ⟨by rw [e9]; rfl, rfl⟩
    · refine r_iload_n hC dX9_isTop_34 rfl (j := 2) rfl ?_
      refine r_bipush hC dX9_isTop_35 (v := 20) (by decide) ?_
      refine r_icmp_ge hC dX9_isTop_37 (tgt := 55) (by decide) (fun h => absurd h (by decide)) (fun _ => ?_)
      refine r_iload_n hC dX9_isTop_40 rfl (j := 0) rfl ?_
      refine r_aload_n hC dX9_isTop_41 rfl (j := 1) rfl ?_
      refine r_get hC gX9_isTop_42 hm (v := .ref (m + 1)) rfl ?_
      refine r_bipush hC dX9_isTop_45 (v := 17) (by decide) ?_
      refine r_iload_n hC dX9_isTop_47 rfl (j := 2) rfl ?_
      refine r_iadd hC dX9_isTop_48 ?_
      rw [show (17 + 19 : Int32) = 36 from by decide]
      refine r_iconst hC dX9_isTop_49 (v := 5) (by decide) ?_
      refine r_iadd hC dX9_isTop_50 ?_
      rw [show (36 + 5 : Int32) = 41 from by decide]
      refine r_iald hC dX9_isTop_51 (j := 41) hv ⟨by decide, by decide, by decide⟩ ?_
      rw [show enc ((f, g, sl, op, lo), hd, rs, np, tp, av, lg, pl, tk) 41 = f 24 from enc_hi (c := 24) (by decide)]
      refine r_icmp_le hC dX9_isTop_52 (tgt := 59) (by decide) (fun c52 => ?_) (fun c52 => ?_)
      · refine r_iconst hC dX9_isTop_59 (v := 0) (by decide) ?_
        refine r_istore_n hC dX9_isTop_60 rfl (by rw [hnl]; decide) (L' := [(3, .int 0), (2, .int (f 19)), (0, .ref m), (1, .int 19)]) rfl ?_
        refine r_iload_n hC dX9_isTop_61 rfl (j := 0) rfl ?_
        refine r_if_eq hC dX9_isTop_62 (tgt := 112) (by decide) (fun _ => ?_) (fun h => absurd (by decide) h)
        refine r_iconst hC dX9_isTop_112 (v := 0) (by decide) ?_
        refine r_nret hC hE hR dX9_isTop_113 (by decide) (by omega) (by omega) (rfl) ?_
        have z0 : 0 < f 19 := Int32.not_le.mp c11
        have z1 : ¬ f 24 < f 19 := Int32.not_lt.mpr c52
        have e9 : hPeak f 19 = false := by
          unfold hPeak
          rw [show hNb 19 2 = 24 from by decide, decide_eq_false z1]
          simp
        exact ⟨by rw [e9]; rfl, rfl⟩
      · refine r_iconst hC dX9_isTop_55 (v := 1) (by decide) ?_
        refine r_goto hC dX9_isTop_56 (tgt := 60) (by decide) ?_
        refine r_istore_n hC dX9_isTop_60 rfl (by rw [hnl]; decide) (L' := [(3, .int 1), (2, .int (f 19)), (0, .ref m), (1, .int 19)]) rfl ?_
        refine r_iload_n hC dX9_isTop_61 rfl (j := 0) rfl ?_
        refine r_if_eq hC dX9_isTop_62 (tgt := 112) (by decide) (fun h => absurd h (by decide)) (fun _ => ?_)
        refine r_iload_n hC dX9_isTop_65 rfl (j := 3) rfl ?_
        refine r_iconst hC dX9_isTop_66 (v := 5) (by decide) ?_
        refine r_irem hC dX9_isTop_67 (by decide) ?_
        rw [show (19 - 19 / 5 * 5 : Int32) = 4 from by decide]
        refine r_if_eq hC dX9_isTop_68 (tgt := 86) (by decide) (fun h => absurd h (by decide)) (fun _ => ?_)
        refine r_iload_n hC dX9_isTop_71 rfl (j := 1) rfl ?_
        refine r_aload_n hC dX9_isTop_72 rfl (j := 2) rfl ?_
        refine r_get hC gX9_isTop_73 hm (v := .ref (m + 1)) rfl ?_
        refine r_bipush hC dX9_isTop_76 (v := 17) (by decide) ?_
        refine r_iload_n hC dX9_isTop_78 rfl (j := 3) rfl ?_
        refine r_iadd hC dX9_isTop_79 ?_
        rw [show (17 + 19 : Int32) = 36 from by decide]
        refine r_iconst hC dX9_isTop_80 (v := 1) (by decide) ?_
        refine r_isub hC dX9_isTop_81 ?_
        rw [show (36 - 1 : Int32) = 35 from by decide]
        refine r_iald hC dX9_isTop_82 (j := 35) hv ⟨by decide, by decide, by decide⟩ ?_
        rw [show enc ((f, g, sl, op, lo), hd, rs, np, tp, av, lg, pl, tk) 35 = f 18 from enc_hi (c := 18) (by decide)]
        refine r_icmp_le hC dX9_isTop_83 (tgt := 112) (by decide) (fun c83 => ?_) (fun c83 => ?_)
        · refine r_iconst hC dX9_isTop_112 (v := 0) (by decide) ?_
          refine r_nret hC hE hR dX9_isTop_113 (by decide) (by omega) (by omega) (rfl) ?_
          have z0 : 0 < f 19 := Int32.not_le.mp c11
          have z1 : ¬ f 18 < f 19 := Int32.not_lt.mpr c83
          have e9 : hPeak f 19 = false := by
            unfold hPeak
            rw [show hNb 19 1 = 18 from by decide, decide_eq_false z1]
            simp
          exact ⟨by rw [e9]; rfl, rfl⟩
        · refine r_iload_n hC dX9_isTop_86 rfl (j := 3) rfl ?_
          refine r_iconst hC dX9_isTop_87 (v := 5) (by decide) ?_
          refine r_irem hC dX9_isTop_88 (by decide) ?_
          rw [show (19 - 19 / 5 * 5 : Int32) = 4 from by decide]
          refine r_iconst hC dX9_isTop_89 (v := 4) (by decide) ?_
          refine r_icmp_eq hC dX9_isTop_90 (tgt := 108) (by decide) (fun _ => ?_) (fun h => absurd (by decide) h)
          refine r_iconst hC dX9_isTop_108 (v := 1) (by decide) ?_
          refine r_goto hC dX9_isTop_109 (tgt := 113) (by decide) ?_
          refine r_nret hC hE hR dX9_isTop_113 (by decide) (by omega) (by omega) (rfl) ?_
          have z0 : 0 < f 19 := Int32.not_le.mp c11
          have y14 : f 14 < f 19 := Int32.not_le.mp c31
          have y24 : f 24 < f 19 := Int32.not_le.mp c52
          have y18 : f 18 < f 19 := Int32.not_le.mp c83
          have z2 : ¬ f 19 = 0 := fun z => Int32.ne_of_lt z0 z.symm
          have y25 : f 25 < f 19 := by rw [h25]; exact z0
          have e9 : hPeak f 19 = true := by
            unfold hPeak
            rw [show hNb 19 0 = 14 from by decide, show hNb 19 1 = 18 from by decide, show hNb 19 2 = 24 from by decide, show hNb 19 3 = 25 from by decide, decide_eq_true z2, decide_eq_true y14, decide_eq_true y18, decide_eq_true y24, decide_eq_true y25]
            rfl
          exact ⟨by rw [e9]; rfl, rfl⟩
set_option maxRecDepth 100000 in
set_option maxHeartbeats 4000000 in
theorem sm_isTop20 {d : Nat} {w : mW} {m : Nat} {th ch ea fa sv0 tn he en ln iw id0 : Int32} {f g : Nat → Int32} {sl op lo : Int32} {hd rs : Nat → Int32} {np : Nat} {tp av lg pl tk : Int32} (hm : w[m]? = some (mO 10 [.int th, .int ch, .int ea, .int fa, .int sv0, .ref (m + 1), .ref (m + 2), .ref (m + 3), .ref (m + 4), .ref (m + 5), .ref (m + 6), .ref (m + 7), .ref (m + 8), .ref (m + 9), .ref (m + 10), .int tn, .int he, .int en, .int ln, .int iw, .int id0])) (hv : w[m + 1]? = some (mI 0 67 (enc ((f, g, sl, op, lo), hd, rs, np, tp, av, lg, pl, tk)))) (h25 : f 25 = 0) (hpos : ∀ j, j < 25 → ¬ f j < 0) : Sp d yX9_isTop cX9_isTop 4 (some .boolean) [.ref m, .int 20] w 0 0 (fun v w' => v = some (.int (bI (hPeak f 20))) ∧ w' = w) noX := by
  refine Sp.of (by decide +kernel) (Nat.le_of_ble_eq_true rfl) (fun X hC hnl hE hR hN => ?_)
  have hC : Cx X RX9 cX9_isTop d 0 0 := hC
  show Wp X 0 0 w [(0, .ref m), (1, .int 20)] [] 0
  refine r_aload_n hC dX9_isTop_0 rfl (j := 0) rfl ?_
  refine r_get hC gX9_isTop_1 hm (v := .ref (m + 1)) rfl ?_
  refine r_bipush hC dX9_isTop_4 (v := 17) (by decide) ?_
  refine r_iload_n hC dX9_isTop_6 rfl (j := 1) rfl ?_
  refine r_iadd hC dX9_isTop_7 ?_
  rw [show (17 + 20 : Int32) = 37 from by decide]
  refine r_iald hC dX9_isTop_8 (j := 37) hv ⟨by decide, by decide, by decide⟩ ?_
  rw [show enc ((f, g, sl, op, lo), hd, rs, np, tp, av, lg, pl, tk) 37 = f 20 from enc_hi (c := 20) (by decide)]
  refine r_istore_n hC dX9_isTop_9 rfl (by rw [hnl]; decide) (L' := [(2, .int (f 20)), (0, .ref m), (1, .int 20)]) rfl ?_
  refine r_iload_n hC dX9_isTop_10 rfl (j := 0) rfl ?_
  refine r_if_le hC dX9_isTop_11 (tgt := 59) (by decide) (fun c11 => ?_) (fun c11 => ?_)
  · refine r_iconst hC dX9_isTop_59 (v := 0) (by decide) ?_
    refine r_istore_n hC dX9_isTop_60 rfl (by rw [hnl]; decide) (L' := [(3, .int 0), (2, .int (f 20)), (0, .ref m), (1, .int 20)]) rfl ?_
    refine r_iload_n hC dX9_isTop_61 rfl (j := 0) rfl ?_
    refine r_if_eq hC dX9_isTop_62 (tgt := 112) (by decide) (fun _ => ?_) (fun h => absurd (by decide) h)
    refine r_iconst hC dX9_isTop_112 (v := 0) (by decide) ?_
    refine r_nret hC hE hR dX9_isTop_113 (by decide) (by omega) (by omega) (rfl) ?_
    have z1 : f 20 = 0 := Int32.le_antisymm c11 (Int32.not_lt.mp (hpos 20 (by decide)))
    have e9 : hPeak f 20 = false := by
      unfold hPeak
      rw [z1]
      rfl
    exact ⟨by rw [e9]; rfl, rfl⟩
  · refine r_iload_n hC dX9_isTop_14 rfl (j := 2) rfl ?_
    refine r_iconst hC dX9_isTop_15 (v := 5) (by decide) ?_
    refine r_icmp_lt hC dX9_isTop_16 (tgt := 34) (by decide) (fun h => absurd h (by decide)) (fun _ => ?_)
    refine r_iload_n hC dX9_isTop_19 rfl (j := 0) rfl ?_
    refine r_aload_n hC dX9_isTop_20 rfl (j := 1) rfl ?_
    refine r_get hC gX9_isTop_21 hm (v := .ref (m + 1)) rfl ?_
    refine r_bipush hC dX9_isTop_24 (v := 17) (by decide) ?_
    refine r_iload_n hC dX9_isTop_26 rfl (j := 2) rfl ?_
    refine r_iadd hC dX9_isTop_27 ?_
    rw [show (17 + 20 : Int32) = 37 from by decide]
    refine r_iconst hC dX9_isTop_28 (v := 5) (by decide) ?_
    refine r_isub hC dX9_isTop_29 ?_
    rw [show (37 - 5 : Int32) = 32 from by decide]
    refine r_iald hC dX9_isTop_30 (j := 32) hv ⟨by decide, by decide, by decide⟩ ?_
    rw [show enc ((f, g, sl, op, lo), hd, rs, np, tp, av, lg, pl, tk) 32 = f 15 from enc_hi (c := 15) (by decide)]
    refine r_icmp_le hC dX9_isTop_31 (tgt := 59) (by decide) (fun c31 => ?_) (fun c31 => ?_)
    · refine r_iconst hC dX9_isTop_59 (v := 0) (by decide) ?_
      refine r_istore_n hC dX9_isTop_60 rfl (by rw [hnl]; decide) (L' := [(3, .int 0), (2, .int (f 20)), (0, .ref m), (1, .int 20)]) rfl ?_
      refine r_iload_n hC dX9_isTop_61 rfl (j := 0) rfl ?_
      refine r_if_eq hC dX9_isTop_62 (tgt := 112) (by decide) (fun _ => ?_) (fun h => absurd (by decide) h)
      refine r_iconst hC dX9_isTop_112 (v := 0) (by decide) ?_
      refine r_nret hC hE hR dX9_isTop_113 (by decide) (by omega) (by omega) (rfl) ?_
      have z0 : 0 < f 20 := Int32.not_le.mp c11
      have z1 : ¬ f 15 < f 20 := Int32.not_lt.mpr c31
      have e9 : hPeak f 20 = false := by
        unfold hPeak
        rw [show hNb 20 0 = 15 from by decide, decide_eq_false z1]
        simp
      exact ⟨by rw [e9]; rfl, rfl⟩
    · refine r_iload_n hC dX9_isTop_34 rfl (j := 2) rfl ?_
      refine r_bipush hC dX9_isTop_35 (v := 20) (by decide) ?_
      refine r_icmp_ge hC dX9_isTop_37 (tgt := 55) (by decide) (fun _ => ?_) (fun h => absurd (by decide) h)
      refine r_iconst hC dX9_isTop_55 (v := 1) (by decide) ?_
      refine r_goto hC dX9_isTop_56 (tgt := 60) (by decide) ?_
      refine r_istore_n hC dX9_isTop_60 rfl (by rw [hnl]; decide) (L' := [(3, .int 1), (2, .int (f 20)), (0, .ref m), (1, .int 20)]) rfl ?_
      refine r_iload_n hC dX9_isTop_61 rfl (j := 0) rfl ?_
      refine r_if_eq hC dX9_isTop_62 (tgt := 112) (by decide) (fun h => absurd h (by decide)) (fun _ => ?_)
      refine r_iload_n hC dX9_isTop_65 rfl (j := 3) rfl ?_
      refine r_iconst hC dX9_isTop_66 (v := 5) (by decide) ?_
      refine r_irem hC dX9_isTop_67 (by decide) ?_
      rw [show (20 - 20 / 5 * 5 : Int32) = 0 from by decide]
      refine r_if_eq hC dX9_isTop_68 (tgt := 86) (by decide) (fun _ => ?_) (fun h => absurd (by decide) h)
      refine r_iload_n hC dX9_isTop_86 rfl (j := 3) rfl ?_
      refine r_iconst hC dX9_isTop_87 (v := 5) (by decide) ?_
      refine r_irem hC dX9_isTop_88 (by decide) ?_
      rw [show (20 - 20 / 5 * 5 : Int32) = 0 from by decide]
      refine r_iconst hC dX9_isTop_89 (v := 4) (by decide) ?_
      refine r_icmp_eq hC dX9_isTop_90 (tgt := 108) (by decide) (fun h => absurd h (by decide)) (fun _ => ?_)
      refine r_iload_n hC dX9_isTop_93 rfl (j := 1) rfl ?_
      refine r_aload_n hC dX9_isTop_94 rfl (j := 2) rfl ?_
      refine r_get hC gX9_isTop_95 hm (v := .ref (m + 1)) rfl ?_
      refine r_bipush hC dX9_isTop_98 (v := 17) (by decide) ?_
      refine r_iload_n hC dX9_isTop_100 rfl (j := 3) rfl ?_
      refine r_iadd hC dX9_isTop_101 ?_
      rw [show (17 + 20 : Int32) = 37 from by decide]
      refine r_iconst hC dX9_isTop_102 (v := 1) (by decide) ?_
      refine r_iadd hC dX9_isTop_103 ?_
      rw [show (37 + 1 : Int32) = 38 from by decide]
      refine r_iald hC dX9_isTop_104 (j := 38) hv ⟨by decide, by decide, by decide⟩ ?_
      rw [show enc ((f, g, sl, op, lo), hd, rs, np, tp, av, lg, pl, tk) 38 = f 21 from enc_hi (c := 21) (by decide)]
      refine r_icmp_le hC dX9_isTop_105 (tgt := 112) (by decide) (fun c105 => ?_) (fun c105 => ?_)
      · refine r_iconst hC dX9_isTop_112 (v := 0) (by decide) ?_
        refine r_nret hC hE hR dX9_isTop_113 (by decide) (by omega) (by omega) (rfl) ?_
        have z0 : 0 < f 20 := Int32.not_le.mp c11
        have z1 : ¬ f 21 < f 20 := Int32.not_lt.mpr c105
        have e9 : hPeak f 20 = false := by
          unfold hPeak
          rw [show hNb 20 1 = 21 from by decide, decide_eq_false z1]
          simp
        exact ⟨by rw [e9]; rfl, rfl⟩
      · refine r_iconst hC dX9_isTop_108 (v := 1) (by decide) ?_
        refine r_goto hC dX9_isTop_109 (tgt := 113) (by decide) ?_
        refine r_nret hC hE hR dX9_isTop_113 (by decide) (by omega) (by omega) (rfl) ?_
        have z0 : 0 < f 20 := Int32.not_le.mp c11
        have y15 : f 15 < f 20 := Int32.not_le.mp c31
        have y21 : f 21 < f 20 := Int32.not_le.mp c105
        have z2 : ¬ f 20 = 0 := fun z => Int32.ne_of_lt z0 z.symm
        have y25 : f 25 < f 20 := by rw [h25]; exact z0
        have e9 : hPeak f 20 = true := by
          unfold hPeak
          rw [show hNb 20 0 = 15 from by decide, show hNb 20 1 = 21 from by decide, show hNb 20 2 = 25 from by decide, show hNb 20 3 = 25 from by decide, decide_eq_true z2, decide_eq_true y15, decide_eq_true y21, decide_eq_true y25]
          rfl
        exact ⟨by rw [e9]; rfl, rfl⟩
set_option maxRecDepth 100000 in
set_option maxHeartbeats 4000000 in
theorem sm_isTop21 {d : Nat} {w : mW} {m : Nat} {th ch ea fa sv0 tn he en ln iw id0 : Int32} {f g : Nat → Int32} {sl op lo : Int32} {hd rs : Nat → Int32} {np : Nat} {tp av lg pl tk : Int32} (hm : w[m]? = some (mO 10 [.int th, .int ch, .int ea, .int fa, .int sv0, .ref (m + 1), .ref (m + 2), .ref (m + 3), .ref (m + 4), .ref (m + 5), .ref (m + 6), .ref (m + 7), .ref (m + 8), .ref (m + 9), .ref (m + 10), .int tn, .int he, .int en, .int ln, .int iw, .int id0])) (hv : w[m + 1]? = some (mI 0 67 (enc ((f, g, sl, op, lo), hd, rs, np, tp, av, lg, pl, tk)))) (h25 : f 25 = 0) (hpos : ∀ j, j < 25 → ¬ f j < 0) : Sp d yX9_isTop cX9_isTop 4 (some .boolean) [.ref m, .int 21] w 0 0 (fun v w' => v = some (.int (bI (hPeak f 21))) ∧ w' = w) noX := by
  refine Sp.of (by decide +kernel) (Nat.le_of_ble_eq_true rfl) (fun X hC hnl hE hR hN => ?_)
  have hC : Cx X RX9 cX9_isTop d 0 0 := hC
  show Wp X 0 0 w [(0, .ref m), (1, .int 21)] [] 0
  refine r_aload_n hC dX9_isTop_0 rfl (j := 0) rfl ?_
  refine r_get hC gX9_isTop_1 hm (v := .ref (m + 1)) rfl ?_
  refine r_bipush hC dX9_isTop_4 (v := 17) (by decide) ?_
  refine r_iload_n hC dX9_isTop_6 rfl (j := 1) rfl ?_
  refine r_iadd hC dX9_isTop_7 ?_
  rw [show (17 + 21 : Int32) = 38 from by decide]
  refine r_iald hC dX9_isTop_8 (j := 38) hv ⟨by decide, by decide, by decide⟩ ?_
  rw [show enc ((f, g, sl, op, lo), hd, rs, np, tp, av, lg, pl, tk) 38 = f 21 from enc_hi (c := 21) (by decide)]
  refine r_istore_n hC dX9_isTop_9 rfl (by rw [hnl]; decide) (L' := [(2, .int (f 21)), (0, .ref m), (1, .int 21)]) rfl ?_
  refine r_iload_n hC dX9_isTop_10 rfl (j := 0) rfl ?_
  refine r_if_le hC dX9_isTop_11 (tgt := 59) (by decide) (fun c11 => ?_) (fun c11 => ?_)
  · refine r_iconst hC dX9_isTop_59 (v := 0) (by decide) ?_
    refine r_istore_n hC dX9_isTop_60 rfl (by rw [hnl]; decide) (L' := [(3, .int 0), (2, .int (f 21)), (0, .ref m), (1, .int 21)]) rfl ?_
    refine r_iload_n hC dX9_isTop_61 rfl (j := 0) rfl ?_
    refine r_if_eq hC dX9_isTop_62 (tgt := 112) (by decide) (fun _ => ?_) (fun h => absurd (by decide) h)
    refine r_iconst hC dX9_isTop_112 (v := 0) (by decide) ?_
    refine r_nret hC hE hR dX9_isTop_113 (by decide) (by omega) (by omega) (rfl) ?_
    have z1 : f 21 = 0 := Int32.le_antisymm c11 (Int32.not_lt.mp (hpos 21 (by decide)))
    have e9 : hPeak f 21 = false := by
      unfold hPeak
      rw [z1]
      rfl
    exact ⟨by rw [e9]; rfl, rfl⟩
  · refine r_iload_n hC dX9_isTop_14 rfl (j := 2) rfl ?_
    refine r_iconst hC dX9_isTop_15 (v := 5) (by decide) ?_
    refine r_icmp_lt hC dX9_isTop_16 (tgt := 34) (by decide) (fun h => absurd h (by decide)) (fun _ => ?_)
    refine r_iload_n hC dX9_isTop_19 rfl (j := 0) rfl ?_
    refine r_aload_n hC dX9_isTop_20 rfl (j := 1) rfl ?_
    refine r_get hC gX9_isTop_21 hm (v := .ref (m + 1)) rfl ?_
    refine r_bipush hC dX9_isTop_24 (v := 17) (by decide) ?_
    refine r_iload_n hC dX9_isTop_26 rfl (j := 2) rfl ?_
    refine r_iadd hC dX9_isTop_27 ?_
    rw [show (17 + 21 : Int32) = 38 from by decide]
    refine r_iconst hC dX9_isTop_28 (v := 5) (by decide) ?_
    refine r_isub hC dX9_isTop_29 ?_
    rw [show (38 - 5 : Int32) = 33 from by decide]
    refine r_iald hC dX9_isTop_30 (j := 33) hv ⟨by decide, by decide, by decide⟩ ?_
    rw [show enc ((f, g, sl, op, lo), hd, rs, np, tp, av, lg, pl, tk) 33 = f 16 from enc_hi (c := 16) (by decide)]
    refine r_icmp_le hC dX9_isTop_31 (tgt := 59) (by decide) (fun c31 => ?_) (fun c31 => ?_)
    · refine r_iconst hC dX9_isTop_59 (v := 0) (by decide) ?_
      refine r_istore_n hC dX9_isTop_60 rfl (by rw [hnl]; decide) (L' := [(3, .int 0), (2, .int (f 21)), (0, .ref m), (1, .int 21)]) rfl ?_
      refine r_iload_n hC dX9_isTop_61 rfl (j := 0) rfl ?_
      refine r_if_eq hC dX9_isTop_62 (tgt := 112) (by decide) (fun _ => ?_) (fun h => absurd (by decide) h)
      refine r_iconst hC dX9_isTop_112 (v := 0) (by decide) ?_
      refine r_nret hC hE hR dX9_isTop_113 (by decide) (by omega) (by omega) (rfl) ?_
      have z0 : 0 < f 21 := Int32.not_le.mp c11
      have z1 : ¬ f 16 < f 21 := Int32.not_lt.mpr c31
      have e9 : hPeak f 21 = false := by
        unfold hPeak
        rw [show hNb 21 0 = 16 from by decide, decide_eq_false z1]
        simp
      exact ⟨by rw [e9]; rfl, rfl⟩
    · refine r_iload_n hC dX9_isTop_34 rfl (j := 2) rfl ?_
      refine r_bipush hC dX9_isTop_35 (v := 20) (by decide) ?_
      refine r_icmp_ge hC dX9_isTop_37 (tgt := 55) (by decide) (fun _ => ?_) (fun h => absurd (by decide) h)
      refine r_iconst hC dX9_isTop_55 (v := 1) (by decide) ?_
      refine r_goto hC dX9_isTop_56 (tgt := 60) (by decide) ?_
      refine r_istore_n hC dX9_isTop_60 rfl (by rw [hnl]; decide) (L' := [(3, .int 1), (2, .int (f 21)), (0, .ref m), (1, .int 21)]) rfl ?_
      refine r_iload_n hC dX9_isTop_61 rfl (j := 0) rfl ?_
      refine r_if_eq hC dX9_isTop_62 (tgt := 112) (by decide) (fun h => absurd h (by decide)) (fun _ => ?_)
      refine r_iload_n hC dX9_isTop_65 rfl (j := 3) rfl ?_
      refine r_iconst hC dX9_isTop_66 (v := 5) (by decide) ?_
      refine r_irem hC dX9_isTop_67 (by decide) ?_
      rw [show (21 - 21 / 5 * 5 : Int32) = 1 from by decide]
      refine r_if_eq hC dX9_isTop_68 (tgt := 86) (by decide) (fun h => absurd h (by decide)) (fun _ => ?_)
      refine r_iload_n hC dX9_isTop_71 rfl (j := 1) rfl ?_
      refine r_aload_n hC dX9_isTop_72 rfl (j := 2) rfl ?_
      refine r_get hC gX9_isTop_73 hm (v := .ref (m + 1)) rfl ?_
      refine r_bipush hC dX9_isTop_76 (v := 17) (by decide) ?_
      refine r_iload_n hC dX9_isTop_78 rfl (j := 3) rfl ?_
      refine r_iadd hC dX9_isTop_79 ?_
      rw [show (17 + 21 : Int32) = 38 from by decide]
      refine r_iconst hC dX9_isTop_80 (v := 1) (by decide) ?_
      refine r_isub hC dX9_isTop_81 ?_
      rw [show (38 - 1 : Int32) = 37 from by decide]
      refine r_iald hC dX9_isTop_82 (j := 37) hv ⟨by decide, by decide, by decide⟩ ?_
      rw [show enc ((f, g, sl, op, lo), hd, rs, np, tp, av, lg, pl, tk) 37 = f 20 from enc_hi (c := 20) (by decide)]
      refine r_icmp_le hC dX9_isTop_83 (tgt := 112) (by decide) (fun c83 => ?_) (fun c83 => ?_)
      · refine r_iconst hC dX9_isTop_112 (v := 0) (by decide) ?_
        refine r_nret hC hE hR dX9_isTop_113 (by decide) (by omega) (by omega) (rfl) ?_
        have z0 : 0 < f 21 := Int32.not_le.mp c11
        have z1 : ¬ f 20 < f 21 := Int32.not_lt.mpr c83
        have e9 : hPeak f 21 = false := by
          unfold hPeak
          rw [show hNb 21 1 = 20 from by decide, decide_eq_false z1]
          simp
        exact ⟨by rw [e9]; rfl, rfl⟩
      · refine r_iload_n hC dX9_isTop_86 rfl (j := 3) rfl ?_
        refine r_iconst hC dX9_isTop_87 (v := 5) (by decide) ?_
        refine r_irem hC dX9_isTop_88 (by decide) ?_
        rw [show (21 - 21 / 5 * 5 : Int32) = 1 from by decide]
        refine r_iconst hC dX9_isTop_89 (v := 4) (by decide) ?_
        refine r_icmp_eq hC dX9_isTop_90 (tgt := 108) (by decide) (fun h => absurd h (by decide)) (fun _ => ?_)
        refine r_iload_n hC dX9_isTop_93 rfl (j := 1) rfl ?_
        refine r_aload_n hC dX9_isTop_94 rfl (j := 2) rfl ?_
        refine r_get hC gX9_isTop_95 hm (v := .ref (m + 1)) rfl ?_
        refine r_bipush hC dX9_isTop_98 (v := 17) (by decide) ?_
        refine r_iload_n hC dX9_isTop_100 rfl (j := 3) rfl ?_
        refine r_iadd hC dX9_isTop_101 ?_
        rw [show (17 + 21 : Int32) = 38 from by decide]
        refine r_iconst hC dX9_isTop_102 (v := 1) (by decide) ?_
        refine r_iadd hC dX9_isTop_103 ?_
        rw [show (38 + 1 : Int32) = 39 from by decide]
        refine r_iald hC dX9_isTop_104 (j := 39) hv ⟨by decide, by decide, by decide⟩ ?_
        rw [show enc ((f, g, sl, op, lo), hd, rs, np, tp, av, lg, pl, tk) 39 = f 22 from enc_hi (c := 22) (by decide)]
        refine r_icmp_le hC dX9_isTop_105 (tgt := 112) (by decide) (fun c105 => ?_) (fun c105 => ?_)
        · refine r_iconst hC dX9_isTop_112 (v := 0) (by decide) ?_
          refine r_nret hC hE hR dX9_isTop_113 (by decide) (by omega) (by omega) (rfl) ?_
          have z0 : 0 < f 21 := Int32.not_le.mp c11
          have z1 : ¬ f 22 < f 21 := Int32.not_lt.mpr c105
          have e9 : hPeak f 21 = false := by
            unfold hPeak
            rw [show hNb 21 2 = 22 from by decide, decide_eq_false z1]
            simp
          exact ⟨by rw [e9]; rfl, rfl⟩
        · refine r_iconst hC dX9_isTop_108 (v := 1) (by decide) ?_
          refine r_goto hC dX9_isTop_109 (tgt := 113) (by decide) ?_
          refine r_nret hC hE hR dX9_isTop_113 (by decide) (by omega) (by omega) (rfl) ?_
          have z0 : 0 < f 21 := Int32.not_le.mp c11
          have y16 : f 16 < f 21 := Int32.not_le.mp c31
          have y20 : f 20 < f 21 := Int32.not_le.mp c83
          have y22 : f 22 < f 21 := Int32.not_le.mp c105
          have z2 : ¬ f 21 = 0 := fun z => Int32.ne_of_lt z0 z.symm
          have y25 : f 25 < f 21 := by rw [h25]; exact z0
          have e9 : hPeak f 21 = true := by
            unfold hPeak
            rw [show hNb 21 0 = 16 from by decide, show hNb 21 1 = 20 from by decide, show hNb 21 2 = 22 from by decide, show hNb 21 3 = 25 from by decide, decide_eq_true z2, decide_eq_true y16, decide_eq_true y20, decide_eq_true y22, decide_eq_true y25]
            rfl
          exact ⟨by rw [e9]; rfl, rfl⟩
set_option maxRecDepth 100000 in
set_option maxHeartbeats 4000000 in
theorem sm_isTop22 {d : Nat} {w : mW} {m : Nat} {th ch ea fa sv0 tn he en ln iw id0 : Int32} {f g : Nat → Int32} {sl op lo : Int32} {hd rs : Nat → Int32} {np : Nat} {tp av lg pl tk : Int32} (hm : w[m]? = some (mO 10 [.int th, .int ch, .int ea, .int fa, .int sv0, .ref (m + 1), .ref (m + 2), .ref (m + 3), .ref (m + 4), .ref (m + 5), .ref (m + 6), .ref (m + 7), .ref (m + 8), .ref (m + 9), .ref (m + 10), .int tn, .int he, .int en, .int ln, .int iw, .int id0])) (hv : w[m + 1]? = some (mI 0 67 (enc ((f, g, sl, op, lo), hd, rs, np, tp, av, lg, pl, tk)))) (h25 : f 25 = 0) (hpos : ∀ j, j < 25 → ¬ f j < 0) : Sp d yX9_isTop cX9_isTop 4 (some .boolean) [.ref m, .int 22] w 0 0 (fun v w' => v = some (.int (bI (hPeak f 22))) ∧ w' = w) noX := by
  refine Sp.of (by decide +kernel) (Nat.le_of_ble_eq_true rfl) (fun X hC hnl hE hR hN => ?_)
  have hC : Cx X RX9 cX9_isTop d 0 0 := hC
  show Wp X 0 0 w [(0, .ref m), (1, .int 22)] [] 0
  refine r_aload_n hC dX9_isTop_0 rfl (j := 0) rfl ?_
  refine r_get hC gX9_isTop_1 hm (v := .ref (m + 1)) rfl ?_
  refine r_bipush hC dX9_isTop_4 (v := 17) (by decide) ?_
  refine r_iload_n hC dX9_isTop_6 rfl (j := 1) rfl ?_
  refine r_iadd hC dX9_isTop_7 ?_
  rw [show (17 + 22 : Int32) = 39 from by decide]
  refine r_iald hC dX9_isTop_8 (j := 39) hv ⟨by decide, by decide, by decide⟩ ?_
  rw [show enc ((f, g, sl, op, lo), hd, rs, np, tp, av, lg, pl, tk) 39 = f 22 from enc_hi (c := 22) (by decide)]
  refine r_istore_n hC dX9_isTop_9 rfl (by rw [hnl]; decide) (L' := [(2, .int (f 22)), (0, .ref m), (1, .int 22)]) rfl ?_
  refine r_iload_n hC dX9_isTop_10 rfl (j := 0) rfl ?_
  refine r_if_le hC dX9_isTop_11 (tgt := 59) (by decide) (fun c11 => ?_) (fun c11 => ?_)
  · refine r_iconst hC dX9_isTop_59 (v := 0) (by decide) ?_
    refine r_istore_n hC dX9_isTop_60 rfl (by rw [hnl]; decide) (L' := [(3, .int 0), (2, .int (f 22)), (0, .ref m), (1, .int 22)]) rfl ?_
    refine r_iload_n hC dX9_isTop_61 rfl (j := 0) rfl ?_
    refine r_if_eq hC dX9_isTop_62 (tgt := 112) (by decide) (fun _ => ?_) (fun h => absurd (by decide) h)
    refine r_iconst hC dX9_isTop_112 (v := 0) (by decide) ?_
    refine r_nret hC hE hR dX9_isTop_113 (by decide) (by omega) (by omega) (rfl) ?_
    have z1 : f 22 = 0 := Int32.le_antisymm c11 (Int32.not_lt.mp (hpos 22 (by decide)))
    have e9 : hPeak f 22 = false := by
      unfold hPeak
      rw [z1]
      rfl
    exact ⟨by rw [e9]; rfl, rfl⟩
  · refine r_iload_n hC dX9_isTop_14 rfl (j := 2) rfl ?_
    refine r_iconst hC dX9_isTop_15 (v := 5) (by decide) ?_
    refine r_icmp_lt hC dX9_isTop_16 (tgt := 34) (by decide) (fun h => absurd h (by decide)) (fun _ => ?_)
    refine r_iload_n hC dX9_isTop_19 rfl (j := 0) rfl ?_
    refine r_aload_n hC dX9_isTop_20 rfl (j := 1) rfl ?_
    refine r_get hC gX9_isTop_21 hm (v := .ref (m + 1)) rfl ?_
    refine r_bipush hC dX9_isTop_24 (v := 17) (by decide) ?_
    refine r_iload_n hC dX9_isTop_26 rfl (j := 2) rfl ?_
    refine r_iadd hC dX9_isTop_27 ?_
    rw [show (17 + 22 : Int32) = 39 from by decide]
    refine r_iconst hC dX9_isTop_28 (v := 5) (by decide) ?_
    refine r_isub hC dX9_isTop_29 ?_
    rw [show (39 - 5 : Int32) = 34 from by decide]
    refine r_iald hC dX9_isTop_30 (j := 34) hv ⟨by decide, by decide, by decide⟩ ?_
    rw [show enc ((f, g, sl, op, lo), hd, rs, np, tp, av, lg, pl, tk) 34 = f 17 from enc_hi (c := 17) (by decide)]
    refine r_icmp_le hC dX9_isTop_31 (tgt := 59) (by decide) (fun c31 => ?_) (fun c31 => ?_)
    · refine r_iconst hC dX9_isTop_59 (v := 0) (by decide) ?_
      refine r_istore_n hC dX9_isTop_60 rfl (by rw [hnl]; decide) (L' := [(3, .int 0), (2, .int (f 22)), (0, .ref m), (1, .int 22)]) rfl ?_
      refine r_iload_n hC dX9_isTop_61 rfl (j := 0) rfl ?_
      refine r_if_eq hC dX9_isTop_62 (tgt := 112) (by decide) (fun _ => ?_) (fun h => absurd (by decide) h)
      refine r_iconst hC dX9_isTop_112 (v := 0) (by decide) ?_
      refine r_nret hC hE hR dX9_isTop_113 (by decide) (by omega) (by omega) (rfl) ?_
      have z0 : 0 < f 22 := Int32.not_le.mp c11
      have z1 : ¬ f 17 < f 22 := Int32.not_lt.mpr c31
      have e9 : hPeak f 22 = false := by
        unfold hPeak
        rw [show hNb 22 0 = 17 from by decide, decide_eq_false z1]
        simp
      exact ⟨by rw [e9]; rfl, rfl⟩
    · refine r_iload_n hC dX9_isTop_34 rfl (j := 2) rfl ?_
      refine r_bipush hC dX9_isTop_35 (v := 20) (by decide) ?_
      refine r_icmp_ge hC dX9_isTop_37 (tgt := 55) (by decide) (fun _ => ?_) (fun h => absurd (by decide) h)
      refine r_iconst hC dX9_isTop_55 (v := 1) (by decide) ?_
      refine r_goto hC dX9_isTop_56 (tgt := 60) (by decide) ?_
      refine r_istore_n hC dX9_isTop_60 rfl (by rw [hnl]; decide) (L' := [(3, .int 1), (2, .int (f 22)), (0, .ref m), (1, .int 22)]) rfl ?_
      refine r_iload_n hC dX9_isTop_61 rfl (j := 0) rfl ?_
      refine r_if_eq hC dX9_isTop_62 (tgt := 112) (by decide) (fun h => absurd h (by decide)) (fun _ => ?_)
      refine r_iload_n hC dX9_isTop_65 rfl (j := 3) rfl ?_
      refine r_iconst hC dX9_isTop_66 (v := 5) (by decide) ?_
      refine r_irem hC dX9_isTop_67 (by decide) ?_
      rw [show (22 - 22 / 5 * 5 : Int32) = 2 from by decide]
      refine r_if_eq hC dX9_isTop_68 (tgt := 86) (by decide) (fun h => absurd h (by decide)) (fun _ => ?_)
      refine r_iload_n hC dX9_isTop_71 rfl (j := 1) rfl ?_
      refine r_aload_n hC dX9_isTop_72 rfl (j := 2) rfl ?_
      refine r_get hC gX9_isTop_73 hm (v := .ref (m + 1)) rfl ?_
      refine r_bipush hC dX9_isTop_76 (v := 17) (by decide) ?_
      refine r_iload_n hC dX9_isTop_78 rfl (j := 3) rfl ?_
      refine r_iadd hC dX9_isTop_79 ?_
      rw [show (17 + 22 : Int32) = 39 from by decide]
      refine r_iconst hC dX9_isTop_80 (v := 1) (by decide) ?_
      refine r_isub hC dX9_isTop_81 ?_
      rw [show (39 - 1 : Int32) = 38 from by decide]
      refine r_iald hC dX9_isTop_82 (j := 38) hv ⟨by decide, by decide, by decide⟩ ?_
      rw [show enc ((f, g, sl, op, lo), hd, rs, np, tp, av, lg, pl, tk) 38 = f 21 from enc_hi (c := 21) (by decide)]
      refine r_icmp_le hC dX9_isTop_83 (tgt := 112) (by decide) (fun c83 => ?_) (fun c83 => ?_)
      · refine r_iconst hC dX9_isTop_112 (v := 0) (by decide) ?_
        refine r_nret hC hE hR dX9_isTop_113 (by decide) (by omega) (by omega) (rfl) ?_
        have z0 : 0 < f 22 := Int32.not_le.mp c11
        have z1 : ¬ f 21 < f 22 := Int32.not_lt.mpr c83
        have e9 : hPeak f 22 = false := by
          unfold hPeak
          rw [show hNb 22 1 = 21 from by decide, decide_eq_false z1]
          simp
        exact ⟨by rw [e9]; rfl, rfl⟩
      · refine r_iload_n hC dX9_isTop_86 rfl (j := 3) rfl ?_
        refine r_iconst hC dX9_isTop_87 (v := 5) (by decide) ?_
        refine r_irem hC dX9_isTop_88 (by decide) ?_
        rw [show (22 - 22 / 5 * 5 : Int32) = 2 from by decide]
        refine r_iconst hC dX9_isTop_89 (v := 4) (by decide) ?_
        refine r_icmp_eq hC dX9_isTop_90 (tgt := 108) (by decide) (fun h => absurd h (by decide)) (fun _ => ?_)
        refine r_iload_n hC dX9_isTop_93 rfl (j := 1) rfl ?_
        refine r_aload_n hC dX9_isTop_94 rfl (j := 2) rfl ?_
        refine r_get hC gX9_isTop_95 hm (v := .ref (m + 1)) rfl ?_
        refine r_bipush hC dX9_isTop_98 (v := 17) (by decide) ?_
        refine r_iload_n hC dX9_isTop_100 rfl (j := 3) rfl ?_
        refine r_iadd hC dX9_isTop_101 ?_
        rw [show (17 + 22 : Int32) = 39 from by decide]
        refine r_iconst hC dX9_isTop_102 (v := 1) (by decide) ?_
        refine r_iadd hC dX9_isTop_103 ?_
        rw [show (39 + 1 : Int32) = 40 from by decide]
        refine r_iald hC dX9_isTop_104 (j := 40) hv ⟨by decide, by decide, by decide⟩ ?_
        rw [show enc ((f, g, sl, op, lo), hd, rs, np, tp, av, lg, pl, tk) 40 = f 23 from enc_hi (c := 23) (by decide)]
        refine r_icmp_le hC dX9_isTop_105 (tgt := 112) (by decide) (fun c105 => ?_) (fun c105 => ?_)
        · refine r_iconst hC dX9_isTop_112 (v := 0) (by decide) ?_
          refine r_nret hC hE hR dX9_isTop_113 (by decide) (by omega) (by omega) (rfl) ?_
          have z0 : 0 < f 22 := Int32.not_le.mp c11
          have z1 : ¬ f 23 < f 22 := Int32.not_lt.mpr c105
          have e9 : hPeak f 22 = false := by
            unfold hPeak
            rw [show hNb 22 2 = 23 from by decide, decide_eq_false z1]
            simp
          exact ⟨by rw [e9]; rfl, rfl⟩
        · refine r_iconst hC dX9_isTop_108 (v := 1) (by decide) ?_
          refine r_goto hC dX9_isTop_109 (tgt := 113) (by decide) ?_
          refine r_nret hC hE hR dX9_isTop_113 (by decide) (by omega) (by omega) (rfl) ?_
          have z0 : 0 < f 22 := Int32.not_le.mp c11
          have y17 : f 17 < f 22 := Int32.not_le.mp c31
          have y21 : f 21 < f 22 := Int32.not_le.mp c83
          have y23 : f 23 < f 22 := Int32.not_le.mp c105
          have z2 : ¬ f 22 = 0 := fun z => Int32.ne_of_lt z0 z.symm
          have y25 : f 25 < f 22 := by rw [h25]; exact z0
          have e9 : hPeak f 22 = true := by
            unfold hPeak
            rw [show hNb 22 0 = 17 from by decide, show hNb 22 1 = 21 from by decide, show hNb 22 2 = 23 from by decide, show hNb 22 3 = 25 from by decide, decide_eq_true z2, decide_eq_true y17, decide_eq_true y21, decide_eq_true y23, decide_eq_true y25]
            rfl
          exact ⟨by rw [e9]; rfl, rfl⟩
set_option maxRecDepth 100000 in
set_option maxHeartbeats 4000000 in
theorem sm_isTop23 {d : Nat} {w : mW} {m : Nat} {th ch ea fa sv0 tn he en ln iw id0 : Int32} {f g : Nat → Int32} {sl op lo : Int32} {hd rs : Nat → Int32} {np : Nat} {tp av lg pl tk : Int32} (hm : w[m]? = some (mO 10 [.int th, .int ch, .int ea, .int fa, .int sv0, .ref (m + 1), .ref (m + 2), .ref (m + 3), .ref (m + 4), .ref (m + 5), .ref (m + 6), .ref (m + 7), .ref (m + 8), .ref (m + 9), .ref (m + 10), .int tn, .int he, .int en, .int ln, .int iw, .int id0])) (hv : w[m + 1]? = some (mI 0 67 (enc ((f, g, sl, op, lo), hd, rs, np, tp, av, lg, pl, tk)))) (h25 : f 25 = 0) (hpos : ∀ j, j < 25 → ¬ f j < 0) : Sp d yX9_isTop cX9_isTop 4 (some .boolean) [.ref m, .int 23] w 0 0 (fun v w' => v = some (.int (bI (hPeak f 23))) ∧ w' = w) noX := by
  refine Sp.of (by decide +kernel) (Nat.le_of_ble_eq_true rfl) (fun X hC hnl hE hR hN => ?_)
  have hC : Cx X RX9 cX9_isTop d 0 0 := hC
  show Wp X 0 0 w [(0, .ref m), (1, .int 23)] [] 0
  refine r_aload_n hC dX9_isTop_0 rfl (j := 0) rfl ?_
  refine r_get hC gX9_isTop_1 hm (v := .ref (m + 1)) rfl ?_
  refine r_bipush hC dX9_isTop_4 (v := 17) (by decide) ?_
  refine r_iload_n hC dX9_isTop_6 rfl (j := 1) rfl ?_
  refine r_iadd hC dX9_isTop_7 ?_
  rw [show (17 + 23 : Int32) = 40 from by decide]
  refine r_iald hC dX9_isTop_8 (j := 40) hv ⟨by decide, by decide, by decide⟩ ?_
  rw [show enc ((f, g, sl, op, lo), hd, rs, np, tp, av, lg, pl, tk) 40 = f 23 from enc_hi (c := 23) (by decide)]
  refine r_istore_n hC dX9_isTop_9 rfl (by rw [hnl]; decide) (L' := [(2, .int (f 23)), (0, .ref m), (1, .int 23)]) rfl ?_
  refine r_iload_n hC dX9_isTop_10 rfl (j := 0) rfl ?_
  refine r_if_le hC dX9_isTop_11 (tgt := 59) (by decide) (fun c11 => ?_) (fun c11 => ?_)
  · refine r_iconst hC dX9_isTop_59 (v := 0) (by decide) ?_
    refine r_istore_n hC dX9_isTop_60 rfl (by rw [hnl]; decide) (L' := [(3, .int 0), (2, .int (f 23)), (0, .ref m), (1, .int 23)]) rfl ?_
    refine r_iload_n hC dX9_isTop_61 rfl (j := 0) rfl ?_
    refine r_if_eq hC dX9_isTop_62 (tgt := 112) (by decide) (fun _ => ?_) (fun h => absurd (by decide) h)
    refine r_iconst hC dX9_isTop_112 (v := 0) (by decide) ?_
    refine r_nret hC hE hR dX9_isTop_113 (by decide) (by omega) (by omega) (rfl) ?_
    have z1 : f 23 = 0 := Int32.le_antisymm c11 (Int32.not_lt.mp (hpos 23 (by decide)))
    have e9 : hPeak f 23 = false := by
      unfold hPeak
      rw [z1]
      rfl
    exact ⟨by rw [e9]; rfl, rfl⟩
  · refine r_iload_n hC dX9_isTop_14 rfl (j := 2) rfl ?_
    refine r_iconst hC dX9_isTop_15 (v := 5) (by decide) ?_
    refine r_icmp_lt hC dX9_isTop_16 (tgt := 34) (by decide) (fun h => absurd h (by decide)) (fun _ => ?_)
    refine r_iload_n hC dX9_isTop_19 rfl (j := 0) rfl ?_
    refine r_aload_n hC dX9_isTop_20 rfl (j := 1) rfl ?_
    refine r_get hC gX9_isTop_21 hm (v := .ref (m + 1)) rfl ?_
    refine r_bipush hC dX9_isTop_24 (v := 17) (by decide) ?_
    refine r_iload_n hC dX9_isTop_26 rfl (j := 2) rfl ?_
    refine r_iadd hC dX9_isTop_27 ?_
    rw [show (17 + 23 : Int32) = 40 from by decide]
    refine r_iconst hC dX9_isTop_28 (v := 5) (by decide) ?_
    refine r_isub hC dX9_isTop_29 ?_
    rw [show (40 - 5 : Int32) = 35 from by decide]
    refine r_iald hC dX9_isTop_30 (j := 35) hv ⟨by decide, by decide, by decide⟩ ?_
    rw [show enc ((f, g, sl, op, lo), hd, rs, np, tp, av, lg, pl, tk) 35 = f 18 from enc_hi (c := 18) (by decide)]
    refine r_icmp_le hC dX9_isTop_31 (tgt := 59) (by decide) (fun c31 => ?_) (fun c31 => ?_)
    · refine r_iconst hC dX9_isTop_59 (v := 0) (by decide) ?_
      refine r_istore_n hC dX9_isTop_60 rfl (by rw [hnl]; decide) (L' := [(3, .int 0), (2, .int (f 23)), (0, .ref m), (1, .int 23)]) rfl ?_
      refine r_iload_n hC dX9_isTop_61 rfl (j := 0) rfl ?_
      refine r_if_eq hC dX9_isTop_62 (tgt := 112) (by decide) (fun _ => ?_) (fun h => absurd (by decide) h)
      refine r_iconst hC dX9_isTop_112 (v := 0) (by decide) ?_
      refine r_nret hC hE hR dX9_isTop_113 (by decide) (by omega) (by omega) (rfl) ?_
      have z0 : 0 < f 23 := Int32.not_le.mp c11
      have z1 : ¬ f 18 < f 23 := Int32.not_lt.mpr c31
      have e9 : hPeak f 23 = false := by
        unfold hPeak
        rw [show hNb 23 0 = 18 from by decide, decide_eq_false z1]
        simp
      exact ⟨by rw [e9]; rfl, rfl⟩
    · refine r_iload_n hC dX9_isTop_34 rfl (j := 2) rfl ?_
      refine r_bipush hC dX9_isTop_35 (v := 20) (by decide) ?_
      refine r_icmp_ge hC dX9_isTop_37 (tgt := 55) (by decide) (fun _ => ?_) (fun h => absurd (by decide) h)
      refine r_iconst hC dX9_isTop_55 (v := 1) (by decide) ?_
      refine r_goto hC dX9_isTop_56 (tgt := 60) (by decide) ?_
      refine r_istore_n hC dX9_isTop_60 rfl (by rw [hnl]; decide) (L' := [(3, .int 1), (2, .int (f 23)), (0, .ref m), (1, .int 23)]) rfl ?_
      refine r_iload_n hC dX9_isTop_61 rfl (j := 0) rfl ?_
      refine r_if_eq hC dX9_isTop_62 (tgt := 112) (by decide) (fun h => absurd h (by decide)) (fun _ => ?_)
      refine r_iload_n hC dX9_isTop_65 rfl (j := 3) rfl ?_
      refine r_iconst hC dX9_isTop_66 (v := 5) (by decide) ?_
      refine r_irem hC dX9_isTop_67 (by decide) ?_
      rw [show (23 - 23 / 5 * 5 : Int32) = 3 from by decide]
      refine r_if_eq hC dX9_isTop_68 (tgt := 86) (by decide) (fun h => absurd h (by decide)) (fun _ => ?_)
      refine r_iload_n hC dX9_isTop_71 rfl (j := 1) rfl ?_
      refine r_aload_n hC dX9_isTop_72 rfl (j := 2) rfl ?_
      refine r_get hC gX9_isTop_73 hm (v := .ref (m + 1)) rfl ?_
      refine r_bipush hC dX9_isTop_76 (v := 17) (by decide) ?_
      refine r_iload_n hC dX9_isTop_78 rfl (j := 3) rfl ?_
      refine r_iadd hC dX9_isTop_79 ?_
      rw [show (17 + 23 : Int32) = 40 from by decide]
      refine r_iconst hC dX9_isTop_80 (v := 1) (by decide) ?_
      refine r_isub hC dX9_isTop_81 ?_
      rw [show (40 - 1 : Int32) = 39 from by decide]
      refine r_iald hC dX9_isTop_82 (j := 39) hv ⟨by decide, by decide, by decide⟩ ?_
      rw [show enc ((f, g, sl, op, lo), hd, rs, np, tp, av, lg, pl, tk) 39 = f 22 from enc_hi (c := 22) (by decide)]
      refine r_icmp_le hC dX9_isTop_83 (tgt := 112) (by decide) (fun c83 => ?_) (fun c83 => ?_)
      · refine r_iconst hC dX9_isTop_112 (v := 0) (by decide) ?_
        refine r_nret hC hE hR dX9_isTop_113 (by decide) (by omega) (by omega) (rfl) ?_
        have z0 : 0 < f 23 := Int32.not_le.mp c11
        have z1 : ¬ f 22 < f 23 := Int32.not_lt.mpr c83
        have e9 : hPeak f 23 = false := by
          unfold hPeak
          rw [show hNb 23 1 = 22 from by decide, decide_eq_false z1]
          simp
        exact ⟨by rw [e9]; rfl, rfl⟩
      · refine r_iload_n hC dX9_isTop_86 rfl (j := 3) rfl ?_
        refine r_iconst hC dX9_isTop_87 (v := 5) (by decide) ?_
        refine r_irem hC dX9_isTop_88 (by decide) ?_
        rw [show (23 - 23 / 5 * 5 : Int32) = 3 from by decide]
        refine r_iconst hC dX9_isTop_89 (v := 4) (by decide) ?_
        refine r_icmp_eq hC dX9_isTop_90 (tgt := 108) (by decide) (fun h => absurd h (by decide)) (fun _ => ?_)
        refine r_iload_n hC dX9_isTop_93 rfl (j := 1) rfl ?_
        refine r_aload_n hC dX9_isTop_94 rfl (j := 2) rfl ?_
        refine r_get hC gX9_isTop_95 hm (v := .ref (m + 1)) rfl ?_
        refine r_bipush hC dX9_isTop_98 (v := 17) (by decide) ?_
        refine r_iload_n hC dX9_isTop_100 rfl (j := 3) rfl ?_
        refine r_iadd hC dX9_isTop_101 ?_
        rw [show (17 + 23 : Int32) = 40 from by decide]
        refine r_iconst hC dX9_isTop_102 (v := 1) (by decide) ?_
        refine r_iadd hC dX9_isTop_103 ?_
        rw [show (40 + 1 : Int32) = 41 from by decide]
        refine r_iald hC dX9_isTop_104 (j := 41) hv ⟨by decide, by decide, by decide⟩ ?_
        rw [show enc ((f, g, sl, op, lo), hd, rs, np, tp, av, lg, pl, tk) 41 = f 24 from enc_hi (c := 24) (by decide)]
        refine r_icmp_le hC dX9_isTop_105 (tgt := 112) (by decide) (fun c105 => ?_) (fun c105 => ?_)
        · refine r_iconst hC dX9_isTop_112 (v := 0) (by decide) ?_
          refine r_nret hC hE hR dX9_isTop_113 (by decide) (by omega) (by omega) (rfl) ?_
          have z0 : 0 < f 23 := Int32.not_le.mp c11
          have z1 : ¬ f 24 < f 23 := Int32.not_lt.mpr c105
          have e9 : hPeak f 23 = false := by
            unfold hPeak
            rw [show hNb 23 2 = 24 from by decide, decide_eq_false z1]
            simp
          exact ⟨by rw [e9]; rfl, rfl⟩
        · refine r_iconst hC dX9_isTop_108 (v := 1) (by decide) ?_
          refine r_goto hC dX9_isTop_109 (tgt := 113) (by decide) ?_
          refine r_nret hC hE hR dX9_isTop_113 (by decide) (by omega) (by omega) (rfl) ?_
          have z0 : 0 < f 23 := Int32.not_le.mp c11
          have y18 : f 18 < f 23 := Int32.not_le.mp c31
          have y22 : f 22 < f 23 := Int32.not_le.mp c83
          have y24 : f 24 < f 23 := Int32.not_le.mp c105
          have z2 : ¬ f 23 = 0 := fun z => Int32.ne_of_lt z0 z.symm
          have y25 : f 25 < f 23 := by rw [h25]; exact z0
          have e9 : hPeak f 23 = true := by
            unfold hPeak
            rw [show hNb 23 0 = 18 from by decide, show hNb 23 1 = 22 from by decide, show hNb 23 2 = 24 from by decide, show hNb 23 3 = 25 from by decide, decide_eq_true z2, decide_eq_true y18, decide_eq_true y22, decide_eq_true y24, decide_eq_true y25]
            rfl
          exact ⟨by rw [e9]; rfl, rfl⟩
set_option maxRecDepth 100000 in
set_option maxHeartbeats 4000000 in
theorem sm_isTop24 {d : Nat} {w : mW} {m : Nat} {th ch ea fa sv0 tn he en ln iw id0 : Int32} {f g : Nat → Int32} {sl op lo : Int32} {hd rs : Nat → Int32} {np : Nat} {tp av lg pl tk : Int32} (hm : w[m]? = some (mO 10 [.int th, .int ch, .int ea, .int fa, .int sv0, .ref (m + 1), .ref (m + 2), .ref (m + 3), .ref (m + 4), .ref (m + 5), .ref (m + 6), .ref (m + 7), .ref (m + 8), .ref (m + 9), .ref (m + 10), .int tn, .int he, .int en, .int ln, .int iw, .int id0])) (hv : w[m + 1]? = some (mI 0 67 (enc ((f, g, sl, op, lo), hd, rs, np, tp, av, lg, pl, tk)))) (h25 : f 25 = 0) (hpos : ∀ j, j < 25 → ¬ f j < 0) : Sp d yX9_isTop cX9_isTop 4 (some .boolean) [.ref m, .int 24] w 0 0 (fun v w' => v = some (.int (bI (hPeak f 24))) ∧ w' = w) noX := by
  refine Sp.of (by decide +kernel) (Nat.le_of_ble_eq_true rfl) (fun X hC hnl hE hR hN => ?_)
  have hC : Cx X RX9 cX9_isTop d 0 0 := hC
  show Wp X 0 0 w [(0, .ref m), (1, .int 24)] [] 0
  refine r_aload_n hC dX9_isTop_0 rfl (j := 0) rfl ?_
  refine r_get hC gX9_isTop_1 hm (v := .ref (m + 1)) rfl ?_
  refine r_bipush hC dX9_isTop_4 (v := 17) (by decide) ?_
  refine r_iload_n hC dX9_isTop_6 rfl (j := 1) rfl ?_
  refine r_iadd hC dX9_isTop_7 ?_
  rw [show (17 + 24 : Int32) = 41 from by decide]
  refine r_iald hC dX9_isTop_8 (j := 41) hv ⟨by decide, by decide, by decide⟩ ?_
  rw [show enc ((f, g, sl, op, lo), hd, rs, np, tp, av, lg, pl, tk) 41 = f 24 from enc_hi (c := 24) (by decide)]
  refine r_istore_n hC dX9_isTop_9 rfl (by rw [hnl]; decide) (L' := [(2, .int (f 24)), (0, .ref m), (1, .int 24)]) rfl ?_
  refine r_iload_n hC dX9_isTop_10 rfl (j := 0) rfl ?_
  refine r_if_le hC dX9_isTop_11 (tgt := 59) (by decide) (fun c11 => ?_) (fun c11 => ?_)
  · refine r_iconst hC dX9_isTop_59 (v := 0) (by decide) ?_
    refine r_istore_n hC dX9_isTop_60 rfl (by rw [hnl]; decide) (L' := [(3, .int 0), (2, .int (f 24)), (0, .ref m), (1, .int 24)]) rfl ?_
    refine r_iload_n hC dX9_isTop_61 rfl (j := 0) rfl ?_
    refine r_if_eq hC dX9_isTop_62 (tgt := 112) (by decide) (fun _ => ?_) (fun h => absurd (by decide) h)
    refine r_iconst hC dX9_isTop_112 (v := 0) (by decide) ?_
    refine r_nret hC hE hR dX9_isTop_113 (by decide) (by omega) (by omega) (rfl) ?_
    have z1 : f 24 = 0 := Int32.le_antisymm c11 (Int32.not_lt.mp (hpos 24 (by decide)))
    have e9 : hPeak f 24 = false := by
      unfold hPeak
      rw [z1]
      rfl
    exact ⟨by rw [e9]; rfl, rfl⟩
  · refine r_iload_n hC dX9_isTop_14 rfl (j := 2) rfl ?_
    refine r_iconst hC dX9_isTop_15 (v := 5) (by decide) ?_
    refine r_icmp_lt hC dX9_isTop_16 (tgt := 34) (by decide) (fun h => absurd h (by decide)) (fun _ => ?_)
    refine r_iload_n hC dX9_isTop_19 rfl (j := 0) rfl ?_
    refine r_aload_n hC dX9_isTop_20 rfl (j := 1) rfl ?_
    refine r_get hC gX9_isTop_21 hm (v := .ref (m + 1)) rfl ?_
    refine r_bipush hC dX9_isTop_24 (v := 17) (by decide) ?_
    refine r_iload_n hC dX9_isTop_26 rfl (j := 2) rfl ?_
    refine r_iadd hC dX9_isTop_27 ?_
    rw [show (17 + 24 : Int32) = 41 from by decide]
    refine r_iconst hC dX9_isTop_28 (v := 5) (by decide) ?_
    refine r_isub hC dX9_isTop_29 ?_
    rw [show (41 - 5 : Int32) = 36 from by decide]
    refine r_iald hC dX9_isTop_30 (j := 36) hv ⟨by decide, by decide, by decide⟩ ?_
    rw [show enc ((f, g, sl, op, lo), hd, rs, np, tp, av, lg, pl, tk) 36 = f 19 from enc_hi (c := 19) (by decide)]
    refine r_icmp_le hC dX9_isTop_31 (tgt := 59) (by decide) (fun c31 => ?_) (fun c31 => ?_)
    · refine r_iconst hC dX9_isTop_59 (v := 0) (by decide) ?_
      refine r_istore_n hC dX9_isTop_60 rfl (by rw [hnl]; decide) (L' := [(3, .int 0), (2, .int (f 24)), (0, .ref m), (1, .int 24)]) rfl ?_
      refine r_iload_n hC dX9_isTop_61 rfl (j := 0) rfl ?_
      refine r_if_eq hC dX9_isTop_62 (tgt := 112) (by decide) (fun _ => ?_) (fun h => absurd (by decide) h)
      refine r_iconst hC dX9_isTop_112 (v := 0) (by decide) ?_
      refine r_nret hC hE hR dX9_isTop_113 (by decide) (by omega) (by omega) (rfl) ?_
      have z0 : 0 < f 24 := Int32.not_le.mp c11
      have z1 : ¬ f 19 < f 24 := Int32.not_lt.mpr c31
      have e9 : hPeak f 24 = false := by
        unfold hPeak
        rw [show hNb 24 0 = 19 from by decide, decide_eq_false z1]
        simp
      exact ⟨by rw [e9]; rfl, rfl⟩
    · refine r_iload_n hC dX9_isTop_34 rfl (j := 2) rfl ?_
      refine r_bipush hC dX9_isTop_35 (v := 20) (by decide) ?_
      refine r_icmp_ge hC dX9_isTop_37 (tgt := 55) (by decide) (fun _ => ?_) (fun h => absurd (by decide) h)
      refine r_iconst hC dX9_isTop_55 (v := 1) (by decide) ?_
      refine r_goto hC dX9_isTop_56 (tgt := 60) (by decide) ?_
      refine r_istore_n hC dX9_isTop_60 rfl (by rw [hnl]; decide) (L' := [(3, .int 1), (2, .int (f 24)), (0, .ref m), (1, .int 24)]) rfl ?_
      refine r_iload_n hC dX9_isTop_61 rfl (j := 0) rfl ?_
      refine r_if_eq hC dX9_isTop_62 (tgt := 112) (by decide) (fun h => absurd h (by decide)) (fun _ => ?_)
      refine r_iload_n hC dX9_isTop_65 rfl (j := 3) rfl ?_
      refine r_iconst hC dX9_isTop_66 (v := 5) (by decide) ?_
      refine r_irem hC dX9_isTop_67 (by decide) ?_
      rw [show (24 - 24 / 5 * 5 : Int32) = 4 from by decide]
      refine r_if_eq hC dX9_isTop_68 (tgt := 86) (by decide) (fun h => absurd h (by decide)) (fun _ => ?_)
      refine r_iload_n hC dX9_isTop_71 rfl (j := 1) rfl ?_
      refine r_aload_n hC dX9_isTop_72 rfl (j := 2) rfl ?_
      refine r_get hC gX9_isTop_73 hm (v := .ref (m + 1)) rfl ?_
      refine r_bipush hC dX9_isTop_76 (v := 17) (by decide) ?_
      refine r_iload_n hC dX9_isTop_78 rfl (j := 3) rfl ?_
      refine r_iadd hC dX9_isTop_79 ?_
      rw [show (17 + 24 : Int32) = 41 from by decide]
      refine r_iconst hC dX9_isTop_80 (v := 1) (by decide) ?_
      refine r_isub hC dX9_isTop_81 ?_
      rw [show (41 - 1 : Int32) = 40 from by decide]
      refine r_iald hC dX9_isTop_82 (j := 40) hv ⟨by decide, by decide, by decide⟩ ?_
      rw [show enc ((f, g, sl, op, lo), hd, rs, np, tp, av, lg, pl, tk) 40 = f 23 from enc_hi (c := 23) (by decide)]
      refine r_icmp_le hC dX9_isTop_83 (tgt := 112) (by decide) (fun c83 => ?_) (fun c83 => ?_)
      · refine r_iconst hC dX9_isTop_112 (v := 0) (by decide) ?_
        refine r_nret hC hE hR dX9_isTop_113 (by decide) (by omega) (by omega) (rfl) ?_
        have z0 : 0 < f 24 := Int32.not_le.mp c11
        have z1 : ¬ f 23 < f 24 := Int32.not_lt.mpr c83
        have e9 : hPeak f 24 = false := by
          unfold hPeak
          rw [show hNb 24 1 = 23 from by decide, decide_eq_false z1]
          simp
        exact ⟨by rw [e9]; rfl, rfl⟩
      · refine r_iload_n hC dX9_isTop_86 rfl (j := 3) rfl ?_
        refine r_iconst hC dX9_isTop_87 (v := 5) (by decide) ?_
        refine r_irem hC dX9_isTop_88 (by decide) ?_
        rw [show (24 - 24 / 5 * 5 : Int32) = 4 from by decide]
        refine r_iconst hC dX9_isTop_89 (v := 4) (by decide) ?_
        refine r_icmp_eq hC dX9_isTop_90 (tgt := 108) (by decide) (fun _ => ?_) (fun h => absurd (by decide) h)
        refine r_iconst hC dX9_isTop_108 (v := 1) (by decide) ?_
        refine r_goto hC dX9_isTop_109 (tgt := 113) (by decide) ?_
        refine r_nret hC hE hR dX9_isTop_113 (by decide) (by omega) (by omega) (rfl) ?_
        have z0 : 0 < f 24 := Int32.not_le.mp c11
        have y19 : f 19 < f 24 := Int32.not_le.mp c31
        have y23 : f 23 < f 24 := Int32.not_le.mp c83
        have z2 : ¬ f 24 = 0 := fun z => Int32.ne_of_lt z0 z.symm
        have y25 : f 25 < f 24 := by rw [h25]; exact z0
        have e9 : hPeak f 24 = true := by
          unfold hPeak
          rw [show hNb 24 0 = 19 from by decide, show hNb 24 1 = 23 from by decide, show hNb 24 2 = 25 from by decide, show hNb 24 3 = 25 from by decide, decide_eq_true z2, decide_eq_true y19, decide_eq_true y23, decide_eq_true y25]
          rfl
        exact ⟨by rw [e9]; rfl, rfl⟩
theorem sm_isTop {d c : Nat} {w : mW} {m : Nat} {th ch ea fa sv0 tn he en ln iw id0 : Int32} {f g : Nat → Int32} {sl op lo : Int32} {hd rs : Nat → Int32} {np : Nat} {tp av lg pl tk : Int32} (hm : w[m]? = some (mO 10 [.int th, .int ch, .int ea, .int fa, .int sv0, .ref (m + 1), .ref (m + 2), .ref (m + 3), .ref (m + 4), .ref (m + 5), .ref (m + 6), .ref (m + 7), .ref (m + 8), .ref (m + 9), .ref (m + 10), .int tn, .int he, .int en, .int ln, .int iw, .int id0])) (hv : w[m + 1]? = some (mI 0 67 (enc ((f, g, sl, op, lo), hd, rs, np, tp, av, lg, pl, tk)))) (h25 : f 25 = 0) (hpos : ∀ j, j < 25 → ¬ f j < 0) (hc : c < 25) : Sp d yX9_isTop cX9_isTop 4 (some .boolean) [.ref m, .int (nI c)] w 0 0 (fun v w' => v = some (.int (bI (hPeak f c))) ∧ w' = w) noX := by
  match c, hc with
  | 0, _ => exact sm_isTop0 hm hv h25 hpos
  | 1, _ => exact sm_isTop1 hm hv h25 hpos
  | 2, _ => exact sm_isTop2 hm hv h25 hpos
  | 3, _ => exact sm_isTop3 hm hv h25 hpos
  | 4, _ => exact sm_isTop4 hm hv h25 hpos
  | 5, _ => exact sm_isTop5 hm hv h25 hpos
  | 6, _ => exact sm_isTop6 hm hv h25 hpos
  | 7, _ => exact sm_isTop7 hm hv h25 hpos
  | 8, _ => exact sm_isTop8 hm hv h25 hpos
  | 9, _ => exact sm_isTop9 hm hv h25 hpos
  | 10, _ => exact sm_isTop10 hm hv h25 hpos
  | 11, _ => exact sm_isTop11 hm hv h25 hpos
  | 12, _ => exact sm_isTop12 hm hv h25 hpos
  | 13, _ => exact sm_isTop13 hm hv h25 hpos
  | 14, _ => exact sm_isTop14 hm hv h25 hpos
  | 15, _ => exact sm_isTop15 hm hv h25 hpos
  | 16, _ => exact sm_isTop16 hm hv h25 hpos
  | 17, _ => exact sm_isTop17 hm hv h25 hpos
  | 18, _ => exact sm_isTop18 hm hv h25 hpos
  | 19, _ => exact sm_isTop19 hm hv h25 hpos
  | 20, _ => exact sm_isTop20 hm hv h25 hpos
  | 21, _ => exact sm_isTop21 hm hv h25 hpos
  | 22, _ => exact sm_isTop22 hm hv h25 hpos
  | 23, _ => exact sm_isTop23 hm hv h25 hpos
  | 24, _ => exact sm_isTop24 hm hv h25 hpos
  | n + 25, h => exact absurd h (by omega)
end MD11
