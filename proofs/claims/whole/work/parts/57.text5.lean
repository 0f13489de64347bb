section TX5
theorem wordR_pos {t : Nat → Int32} {e h : Nat} : ∀ {k n c n' : Nat}, wordR t e h k n = (some c, n') → n < n'
  | 0, n, c, n', q => by cases q
  | k + 1, n, c, n', q => by
    unfold wordR at q
    split at q
    · split at q
      · cases q; exact Nat.lt_succ_self n
      · have := wordR_pos q; omega
    · cases q
theorem pWord_gt {t : Nat → Int32} {e h c k : Nat} (q : pWord t e h = (some c, k)) : h < k := by
  unfold pWord at q
  obtain ⟨q1, q2⟩ := Prod.mk.inj q
  cases hw : wordR t e h 8 0 with
  | mk o n =>
    rw [hw] at q1 q2
    simp only at q1 q2
    subst q1
    have := wordR_pos hw
    omega
set_option maxRecDepth 100000 in
set_option maxHeartbeats 4000000 in
theorem sm_command0 {d : Nat} {w : mW} {m : Nat} {ch ea fa sv0 tn ln : Int32} {tx lt : Nat → Int32} {h e : Nat}  (hm : w[m]? = some (mO 10 [.int 0, .int ch, .int ea, .int fa, .int sv0, .ref (m + 1), .ref (m + 2), .ref (m + 3), .ref (m + 4), .ref (m + 5), .ref (m + 6), .ref (m + 7), .ref (m + 8), .ref (m + 9), .ref (m + 10), .int tn, .int (nI h), .int (nI e), .int ln, .int 0, .int 0])) (htx : w[m + 6]? = some (mI 0 60 tx)) (hlt : w[m + 8]? = some (mI 0 8 lt)) (hwd : w[m + 9]? = some (mI 0 41 wdF)) (hwa : w[m + 10]? = some (mI 0 9 waF)) (he : e ≤ 60) (hh : h ≤ e) : Sp (d + 9) yX9_command cX9_command 6 none [.ref m] w 0 0 (fun v w' => (∃ C k lt', pCmd tx e h = (some C, k) ∧ h < k ∧ k ≤ e ∧ v = none ∧ w' = (w.set (m + 8) (mI 0 8 lt')).set m (mO 10 [.int 0, .int ch, .int ea, .int fa, .int sv0, .ref (m + 1), .ref (m + 2), .ref (m + 3), .ref (m + 4), .ref (m + 5), .ref (m + 6), .ref (m + 7), .ref (m + 8), .ref (m + 9), .ref (m + 10), .int tn, .int (nI k), .int (nI e), .int ln, .int 0, .int 0])) ∨ (∃ k lt', pCmd tx e h = (none, k) ∧ k ≤ e ∧ v = none ∧ w' = (w.set (m + 8) (mI 0 8 lt')).set m (mO 10 [.int 0, .int ch, .int ea, .int fa, .int sv0, .ref (m + 1), .ref (m + 2), .ref (m + 3), .ref (m + 4), .ref (m + 5), .ref (m + 6), .ref (m + 7), .ref (m + 8), .ref (m + 9), .ref (m + 10), .int tn, .int (nI k), .int (nI e), .int ln, .int 1, .int 0]))) noX := by
  refine Sp.of (by decide +kernel) (Nat.le_of_ble_eq_true rfl) (fun X hC hnl hE hR hN => ?_)
  have hC : Cx X RX9 cX9_command (d + 9) 0 0 := hC
  show Wp X 0 0 w [(0, .ref m)] [] 0
  refine r_aload_n hC dX9_command_0 rfl (j := 0) rfl ?_
  refine r_callV hC (vs := []) vX9_command_1 (sm_word (d := d + 7) (h := h) (e := e) hlt hm htx he hh hwd hwa) hm rfl rfl (by omega) (by omega) (by omega) (Nat.le_of_ble_eq_true rfl) (fun v_1 w_1 hP_1 hlen_1 => ?_) (fun _ _ h => h.elim)
  rcases hP_1 with ⟨c_1, k_1, lt_1, hw_1, hc8_1, hk_1, hv_1, ew_1⟩ | ⟨k_1, lt_1, hw_1, hk_1, hv_1, ew_1⟩
  · rw [hv_1]
    have hf1_m : w_1[m]? = some (mO 10 [.int 0, .int ch, .int ea, .int fa, .int sv0, .ref (m + 1), .ref (m + 2), .ref (m + 3), .ref (m + 4), .ref (m + 5), .ref (m + 6), .ref (m + 7), .ref (m + 8), .ref (m + 9), .ref (m + 10), .int tn, .int (nI k_1), .int (nI e), .int ln, .int 0, .int 0]) := by rw [ew_1]; exact List.getElem?_set_self (by simp only [List.length_set]; exact lt_of_get hm)
    have hf1__m___6_ : w_1[(m + 6)]? = some (mI 0 60 tx) := by rw [ew_1, List.getElem?_set_ne (by omega), List.getElem?_set_ne (by omega)]; exact htx
    have hf1__m___8_ : w_1[(m + 8)]? = some (mI 0 8 lt_1) := by rw [ew_1, List.getElem?_set_ne (by omega)]; exact List.getElem?_set_self (lt_of_get hlt)
    have hf1__m___9_ : w_1[(m + 9)]? = some (mI 0 41 wdF) := by rw [ew_1, List.getElem?_set_ne (by omega), List.getElem?_set_ne (by omega)]; exact hwd
    have hf1__m___10_ : w_1[(m + 10)]? = some (mI 0 9 waF) := by rw [ew_1, List.getElem?_set_ne (by omega), List.getElem?_set_ne (by omega)]; exact hwa
    show Wp X 0 0 w_1 [(0, .ref m)] [.int (nI c_1)] 4
    rcases (show c_1 = 0 ∨ c_1 = 1 ∨ c_1 = 2 ∨ c_1 = 3 ∨ c_1 = 4 ∨ c_1 = 5 ∨ c_1 = 6 ∨ c_1 = 7 by omega) with rfl | rfl | rfl | rfl | rfl | rfl | rfl | rfl
    · show Wp X 0 0 w_1 [(0, .ref m)] [.int 0] 4
      refine r_istore_n hC dX9_command_4 rfl (by rw [hnl]; decide) (L' := [(1, .int 0), (0, .ref m)]) rfl ?_
      refine r_iconst hC dX9_command_5 (v := 0) (by decide) ?_
      refine r_istore_n hC dX9_command_6 rfl (by rw [hnl]; decide) (L' := [(2, .int 0), (1, .int 0), (0, .ref m)]) rfl ?_
      refine r_iconst hC dX9_command_7 (v := 0) (by decide) ?_
      refine r_istore_n hC dX9_command_8 rfl (by rw [hnl]; decide) (L' := [(3, .int 0), (2, .int 0), (1, .int 0), (0, .ref m)]) rfl ?_
      refine r_iconst hC dX9_command_9 (v := 0) (by decide) ?_
      refine r_istore hC dX9_command_10 (by rw [hnl]; decide) (L' := [(4, .int 0), (3, .int 0), (2, .int 0), (1, .int 0), (0, .ref m)]) rfl ?_
      refine r_aload_n hC dX9_command_12 rfl (j := 4) rfl ?_
      refine r_get hC gX9_command_13 hf1_m (v := .int 0) rfl ?_
      refine r_if_eq hC dX9_command_16 (tgt := 20) (by decide) (fun _ => ?_) (fun h => absurd (by decide) h)
      refine r_iload_n hC dX9_command_20 rfl (j := 3) rfl ?_
      refine r_iconst hC dX9_command_21 (v := 4) (by decide) ?_
      refine r_icmp_lt hC dX9_command_22 (tgt := 30) (by decide) (fun _ => ?_) (fun h => absurd (by decide) h)
      refine r_aload_n hC dX9_command_30 rfl (j := 4) rfl ?_
      refine r_iload_n hC dX9_command_31 rfl (j := 3) rfl ?_
      refine r_if_eq hC dX9_command_32 (tgt := 40) (by decide) (fun _ => ?_) (fun h => absurd (by decide) h)
      refine r_iconst hC dX9_command_40 (v := 2) (by decide) ?_
      refine r_goto hC dX9_command_41 (tgt := 45) (by decide) ?_
      refine r_callV hC (vs := [.int 2]) vX9_command_45 (sm_digits2 (d := d + 7) (h := k_1) (e := e) hf1_m hf1__m___6_ he hk_1) hf1_m rfl rfl (by omega) (by omega) (by omega) (Nat.le_of_ble_eq_true rfl) (fun v_2 w_2 hP_2 hlen_2 => ?_) (fun _ _ h => h.elim)
      rcases hP_2 with ⟨x_2, k_2, hd_2, hk_2, hl_2, hv_2, ew_2⟩ | ⟨hd_2, hv_2, ew_2⟩
      · rw [hv_2]
        have hf2_m : w_2[m]? = some (mO 10 [.int 0, .int ch, .int ea, .int fa, .int sv0, .ref (m + 1), .ref (m + 2), .ref (m + 3), .ref (m + 4), .ref (m + 5), .ref (m + 6), .ref (m + 7), .ref (m + 8), .ref (m + 9), .ref (m + 10), .int tn, .int (nI k_2), .int (nI e), .int ln, .int 0, .int 0]) := by rw [ew_2]; exact List.getElem?_set_self (lt_of_get hf1_m)
        have hf2__m___6_ : w_2[(m + 6)]? = some (mI 0 60 tx) := by rw [ew_2, List.getElem?_set_ne (by omega)]; exact hf1__m___6_
        have hf2__m___8_ : w_2[(m + 8)]? = some (mI 0 8 lt_1) := by rw [ew_2, List.getElem?_set_ne (by omega)]; exact hf1__m___8_
        have hf2__m___9_ : w_2[(m + 9)]? = some (mI 0 41 wdF) := by rw [ew_2, List.getElem?_set_ne (by omega)]; exact hf1__m___9_
        have hf2__m___10_ : w_2[(m + 10)]? = some (mI 0 9 waF) := by rw [ew_2, List.getElem?_set_ne (by omega)]; exact hf1__m___10_
        show Wp X 0 0 w_2 [(4, .int 0), (3, .int 0), (2, .int 0), (1, .int 0), (0, .ref m)] [.int x_2] 48
        refine r_istore_n hC dX9_command_48 rfl (by rw [hnl]; decide) (L' := [(2, .int x_2), (4, .int 0), (3, .int 0), (1, .int 0), (0, .ref m)]) rfl ?_
        refine r_iload_n hC dX9_command_49 rfl (j := 3) rfl ?_
        refine r_iconst hC dX9_command_50 (v := 1) (by decide) ?_
        refine r_icmp_eq hC dX9_command_51 (tgt := 59) (by decide) (fun h => absurd h (by decide)) (fun _ => ?_)
        refine r_iload_n hC dX9_command_54 rfl (j := 3) rfl ?_
        refine r_iconst hC dX9_command_55 (v := 3) (by decide) ?_
        refine r_icmp_ne hC dX9_command_56 (tgt := 72) (by decide) (fun _ => ?_) (fun h => absurd h (by decide))
        refine r_iload_n hC dX9_command_72 rfl (j := 3) rfl ?_
        refine r_iconst hC dX9_command_73 (v := 2) (by decide) ?_
        refine r_icmp_ne hC dX9_command_74 (tgt := 90) (by decide) (fun _ => ?_) (fun h => absurd h (by decide))
        refine r_iload_n hC dX9_command_90 rfl (j := 3) rfl ?_
        refine r_iconst hC dX9_command_91 (v := 1) (by decide) ?_
        refine r_icmp_ne hC dX9_command_92 (tgt := 109) (by decide) (fun _ => ?_) (fun h => absurd h (by decide))
        refine r_aload_n hC dX9_command_109 rfl (j := 4) rfl ?_
        refine r_get hC gX9_command_110 hf2_m (v := .int 0) rfl ?_
        refine r_if_ne hC dX9_command_113 (tgt := 123) (by decide) (fun h => absurd (by decide) h) (fun _ => ?_)
        refine r_aload_n hC dX9_command_116 rfl (j := 4) rfl ?_
        refine r_get hC gX9_command_117 hf2_m (v := .int 0) rfl ?_
        refine r_if_ne hC dX9_command_120 (tgt := 124) (by decide) (fun h => absurd (by decide) h) (fun _ => ?_)
        refine r_vret hC hE hR dX9_command_123 (by omega) (by omega) (by simp only [ew_2, ew_1, List.length_set]) ?_
        exact Or.inl ⟨(0, x_2, 0, 0), k_2, lt_1, by simp only [pCmd, pArgs, hw_1, hd_2], by have := pWord_gt hw_1; omega, hk_2, rfl, by simp only [ew_2, ew_1, List.set_set]⟩
      · rw [hv_2]
        have hf2_m : w_2[m]? = some (mO 10 [.int 0, .int ch, .int ea, .int fa, .int sv0, .ref (m + 1), .ref (m + 2), .ref (m + 3), .ref (m + 4), .ref (m + 5), .ref (m + 6), .ref (m + 7), .ref (m + 8), .ref (m + 9), .ref (m + 10), .int tn, .int (nI k_1), .int (nI e), .int ln, .int 1, .int 0]) := by rw [ew_2]; exact List.getElem?_set_self (lt_of_get hf1_m)
        have hf2__m___6_ : w_2[(m + 6)]? = some (mI 0 60 tx) := by rw [ew_2, List.getElem?_set_ne (by omega)]; exact hf1__m___6_
        have hf2__m___8_ : w_2[(m + 8)]? = some (mI 0 8 lt_1) := by rw [ew_2, List.getElem?_set_ne (by omega)]; exact hf1__m___8_
        have hf2__m___9_ : w_2[(m + 9)]? = some (mI 0 41 wdF) := by rw [ew_2, List.getElem?_set_ne (by omega)]; exact hf1__m___9_
        have hf2__m___10_ : w_2[(m + 10)]? = some (mI 0 9 waF) := by rw [ew_2, List.getElem?_set_ne (by omega)]; exact hf1__m___10_
        show Wp X 0 0 w_2 [(4, .int 0), (3, .int 0), (2, .int 0), (1, .int 0), (0, .ref m)] [.int 0] 48
        refine r_istore_n hC dX9_command_48 rfl (by rw [hnl]; decide) (L' := [(2, .int 0), (4, .int 0), (3, .int 0), (1, .int 0), (0, .ref m)]) rfl ?_
        refine r_iload_n hC dX9_command_49 rfl (j := 3) rfl ?_
        refine r_iconst hC dX9_command_50 (v := 1) (by decide) ?_
        refine r_icmp_eq hC dX9_command_51 (tgt := 59) (by decide) (fun h => absurd h (by decide)) (fun _ => ?_)
        refine r_iload_n hC dX9_command_54 rfl (j := 3) rfl ?_
        refine r_iconst hC dX9_command_55 (v := 3) (by decide) ?_
        refine r_icmp_ne hC dX9_command_56 (tgt := 72) (by decide) (fun _ => ?_) (fun h => absurd h (by decide))
        refine r_iload_n hC dX9_command_72 rfl (j := 3) rfl ?_
        refine r_iconst hC dX9_command_73 (v := 2) (by decide) ?_
        refine r_icmp_ne hC dX9_command_74 (tgt := 90) (by decide) (fun _ => ?_) (fun h => absurd h (by decide))
        refine r_iload_n hC dX9_command_90 rfl (j := 3) rfl ?_
        refine r_iconst hC dX9_command_91 (v := 1) (by decide) ?_
        refine r_icmp_ne hC dX9_command_92 (tgt := 109) (by decide) (fun _ => ?_) (fun h => absurd h (by decide))
        refine r_aload_n hC dX9_command_109 rfl (j := 4) rfl ?_
        refine r_get hC gX9_command_110 hf2_m (v := .int 1) rfl ?_
        refine r_if_ne hC dX9_command_113 (tgt := 123) (by decide) (fun _ => ?_) (fun h => absurd h (by decide))
        refine r_vret hC hE hR dX9_command_123 (by omega) (by omega) (by simp only [ew_2, ew_1, List.length_set]) ?_
        exact Or.inr ⟨k_1, lt_1, by simp only [pCmd, pArgs, hw_1, hd_2], hk_1, rfl, by simp only [ew_2, ew_1, List.set_set]⟩
    · show Wp X 0 0 w_1 [(0, .ref m)] [.int 1] 4
      refine r_istore_n hC dX9_command_4 rfl (by rw [hnl]; decide) (L' := [(1, .int 1), (0, .ref m)]) rfl ?_
      refine r_iconst hC dX9_command_5 (v := 0) (by decide) ?_
      refine r_istore_n hC dX9_command_6 rfl (by rw [hnl]; decide) (L' := [(2, .int 0), (1, .int 1), (0, .ref m)]) rfl ?_
      refine r_iconst hC dX9_command_7 (v := 0) (by decide) ?_
      refine r_istore_n hC dX9_command_8 rfl (by rw [hnl]; decide) (L' := [(3, .int 0), (2, .int 0), (1, .int 1), (0, .ref m)]) rfl ?_
      refine r_iconst hC dX9_command_9 (v := 0) (by decide) ?_
      refine r_istore hC dX9_command_10 (by rw [hnl]; decide) (L' := [(4, .int 0), (3, .int 0), (2, .int 0), (1, .int 1), (0, .ref m)]) rfl ?_
      refine r_aload_n hC dX9_command_12 rfl (j := 4) rfl ?_
      refine r_get hC gX9_command_13 hf1_m (v := .int 0) rfl ?_
      refine r_if_eq hC dX9_command_16 (tgt := 20) (by decide) (fun _ => ?_) (fun h => absurd (by decide) h)
      refine r_iload_n hC dX9_command_20 rfl (j := 3) rfl ?_
      refine r_iconst hC dX9_command_21 (v := 4) (by decide) ?_
      refine r_icmp_lt hC dX9_command_22 (tgt := 30) (by decide) (fun _ => ?_) (fun h => absurd (by decide) h)
      refine r_aload_n hC dX9_command_30 rfl (j := 4) rfl ?_
      refine r_iload_n hC dX9_command_31 rfl (j := 3) rfl ?_
      refine r_if_eq hC dX9_command_32 (tgt := 40) (by decide) (fun h => absurd h (by decide)) (fun _ => ?_)
      refine r_iload_n hC dX9_command_35 rfl (j := 3) rfl ?_
      refine r_iconst hC dX9_command_36 (v := 2) (by decide) ?_
      refine r_icmp_ne hC dX9_command_37 (tgt := 44) (by decide) (fun _ => ?_) (fun h => absurd h (by decide))
      refine r_iconst hC dX9_command_44 (v := 1) (by decide) ?_
      refine r_callV hC (vs := [.int 1]) vX9_command_45 (sm_digits1 (d := d + 7) (h := k_1) (e := e) hf1_m hf1__m___6_ he hk_1) hf1_m rfl rfl (by omega) (by omega) (by omega) (Nat.le_of_ble_eq_true rfl) (fun v_3 w_3 hP_3 hlen_3 => ?_) (fun _ _ h => h.elim)
      rcases hP_3 with ⟨x_3, k_3, hd_3, hk_3, hl_3, hv_3, ew_3⟩ | ⟨hd_3, hv_3, ew_3⟩
      · rw [hv_3]
        have hf3_m : w_3[m]? = some (mO 10 [.int 0, .int ch, .int ea, .int fa, .int sv0, .ref (m + 1), .ref (m + 2), .ref (m + 3), .ref (m + 4), .ref (m + 5), .ref (m + 6), .ref (m + 7), .ref (m + 8), .ref (m + 9), .ref (m + 10), .int tn, .int (nI k_3), .int (nI e), .int ln, .int 0, .int 0]) := by rw [ew_3]; exact List.getElem?_set_self (lt_of_get hf1_m)
        have hf3__m___6_ : w_3[(m + 6)]? = some (mI 0 60 tx) := by rw [ew_3, List.getElem?_set_ne (by omega)]; exact hf1__m___6_
        have hf3__m___8_ : w_3[(m + 8)]? = some (mI 0 8 lt_1) := by rw [ew_3, List.getElem?_set_ne (by omega)]; exact hf1__m___8_
        have hf3__m___9_ : w_3[(m + 9)]? = some (mI 0 41 wdF) := by rw [ew_3, List.getElem?_set_ne (by omega)]; exact hf1__m___9_
        have hf3__m___10_ : w_3[(m + 10)]? = some (mI 0 9 waF) := by rw [ew_3, List.getElem?_set_ne (by omega)]; exact hf1__m___10_
        show Wp X 0 0 w_3 [(4, .int 0), (3, .int 0), (2, .int 0), (1, .int 1), (0, .ref m)] [.int x_3] 48
        refine r_istore_n hC dX9_command_48 rfl (by rw [hnl]; decide) (L' := [(2, .int x_3), (4, .int 0), (3, .int 0), (1, .int 1), (0, .ref m)]) rfl ?_
        refine r_iload_n hC dX9_command_49 rfl (j := 3) rfl ?_
        refine r_iconst hC dX9_command_50 (v := 1) (by decide) ?_
        refine r_icmp_eq hC dX9_command_51 (tgt := 59) (by decide) (fun _ => ?_) (fun h => absurd (by decide) h)
        refine r_aload_n hC dX9_command_59 rfl (j := 4) rfl ?_
        refine r_get hC gX9_command_60 hf3_m (v := .int 0) rfl ?_
        refine r_if_ne hC dX9_command_63 (tgt := 72) (by decide) (fun h => absurd (by decide) h) (fun _ => ?_)
        refine r_aload_n hC dX9_command_66 rfl (j := 4) rfl ?_
        refine r_iconst hC dX9_command_67 (v := 2) (by decide) ?_
        refine r_callV hC (vs := [.int 2]) vX9_command_68 (sm_behind2 (d := d + 6) (h := k_3) (e := e) hf3_m hf3__m___6_ he hk_3) hf3_m rfl rfl (by omega) (by omega) (by omega) (Nat.le_of_ble_eq_true rfl) (fun v_4 w_4 hP_4 hlen_4 => ?_) (fun _ _ h => h.elim)
        rcases hP_4 with ⟨x_4, k_4, hd_4, hk_4, hl_4, hv_4, ew_4⟩ | ⟨k_4, hd_4, hk_4, hv_4, ew_4⟩
        · rw [hv_4]
          have hf4_m : w_4[m]? = some (mO 10 [.int 0, .int ch, .int ea, .int fa, .int sv0, .ref (m + 1), .ref (m + 2), .ref (m + 3), .ref (m + 4), .ref (m + 5), .ref (m + 6), .ref (m + 7), .ref (m + 8), .ref (m + 9), .ref (m + 10), .int tn, .int (nI k_4), .int (nI e), .int ln, .int 0, .int 0]) := by rw [ew_4]; exact List.getElem?_set_self (lt_of_get hf3_m)
          have hf4__m___6_ : w_4[(m + 6)]? = some (mI 0 60 tx) := by rw [ew_4, List.getElem?_set_ne (by omega)]; exact hf3__m___6_
          have hf4__m___8_ : w_4[(m + 8)]? = some (mI 0 8 lt_1) := by rw [ew_4, List.getElem?_set_ne (by omega)]; exact hf3__m___8_
          have hf4__m___9_ : w_4[(m + 9)]? = some (mI 0 41 wdF) := by rw [ew_4, List.getElem?_set_ne (by omega)]; exact hf3__m___9_
          have hf4__m___10_ : w_4[(m + 10)]? = some (mI 0 9 waF) := by rw [ew_4, List.getElem?_set_ne (by omega)]; exact hf3__m___10_
          show Wp X 0 0 w_4 [(2, .int x_3), (4, .int 0), (3, .int 0), (1, .int 1), (0, .ref m)] [.int x_4] 71
          refine r_istore_n hC dX9_command_71 rfl (by rw [hnl]; decide) (L' := [(3, .int x_4), (2, .int x_3), (4, .int 0), (1, .int 1), (0, .ref m)]) rfl ?_
          refine r_iload_n hC dX9_command_72 rfl (j := 3) rfl ?_
          refine r_iconst hC dX9_command_73 (v := 2) (by decide) ?_
          refine r_icmp_ne hC dX9_command_74 (tgt := 90) (by decide) (fun _ => ?_) (fun h => absurd h (by decide))
          refine r_iload_n hC dX9_command_90 rfl (j := 3) rfl ?_
          refine r_iconst hC dX9_command_91 (v := 1) (by decide) ?_
          refine r_icmp_ne hC dX9_command_92 (tgt := 109) (by decide) (fun h => absurd (by decide) h) (fun _ => ?_)
          refine r_aload_n hC dX9_command_95 rfl (j := 4) rfl ?_
          refine r_get hC gX9_command_96 hf4_m (v := .int 0) rfl ?_
          refine r_if_ne hC dX9_command_99 (tgt := 109) (by decide) (fun h => absurd (by decide) h) (fun _ => ?_)
          refine r_aload_n hC dX9_command_102 rfl (j := 4) rfl ?_
          refine r_iconst hC dX9_command_103 (v := 1) (by decide) ?_
          refine r_callV hC (vs := [.int 1]) vX9_command_104 (sm_behind1 (d := d + 6) (h := k_4) (e := e) hf4_m hf4__m___6_ he hk_4) hf4_m rfl rfl (by omega) (by omega) (by omega) (Nat.le_of_ble_eq_true rfl) (fun v_5 w_5 hP_5 hlen_5 => ?_) (fun _ _ h => h.elim)
          rcases hP_5 with ⟨x_5, k_5, hd_5, hk_5, hl_5, hv_5, ew_5⟩ | ⟨k_5, hd_5, hk_5, hv_5, ew_5⟩
          · rw [hv_5]
            have hf5_m : w_5[m]? = some (mO 10 [.int 0, .int ch, .int ea, .int fa, .int sv0, .ref (m + 1), .ref (m + 2), .ref (m + 3), .ref (m + 4), .ref (m + 5), .ref (m + 6), .ref (m + 7), .ref (m + 8), .ref (m + 9), .ref (m + 10), .int tn, .int (nI k_5), .int (nI e), .int ln, .int 0, .int 0]) := by rw [ew_5]; exact List.getElem?_set_self (lt_of_get hf4_m)
            have hf5__m___6_ : w_5[(m + 6)]? = some (mI 0 60 tx) := by rw [ew_5, List.getElem?_set_ne (by omega)]; exact hf4__m___6_
            have hf5__m___8_ : w_5[(m + 8)]? = some (mI 0 8 lt_1) := by rw [ew_5, List.getElem?_set_ne (by omega)]; exact hf4__m___8_
            have hf5__m___9_ : w_5[(m + 9)]? = some (mI 0 41 wdF) := by rw [ew_5, List.getElem?_set_ne (by omega)]; exact hf4__m___9_
            have hf5__m___10_ : w_5[(m + 10)]? = some (mI 0 9 waF) := by rw [ew_5, List.getElem?_set_ne (by omega)]; exact hf4__m___10_
            show Wp X 0 0 w_5 [(3, .int x_4), (2, .int x_3), (4, .int 0), (1, .int 1), (0, .ref m)] [.int x_5] 107
            refine r_istore hC dX9_command_107 (by rw [hnl]; decide) (L' := [(4, .int x_5), (3, .int x_4), (2, .int x_3), (1, .int 1), (0, .ref m)]) rfl ?_
            refine r_aload_n hC dX9_command_109 rfl (j := 4) rfl ?_
            refine r_get hC gX9_command_110 hf5_m (v := .int 0) rfl ?_
            refine r_if_ne hC dX9_command_113 (tgt := 123) (by decide) (fun h => absurd (by decide) h) (fun _ => ?_)
            refine r_aload_n hC dX9_command_116 rfl (j := 4) rfl ?_
            refine r_get hC gX9_command_117 hf5_m (v := .int 0) rfl ?_
            refine r_if_ne hC dX9_command_120 (tgt := 124) (by decide) (fun h => absurd (by decide) h) (fun _ => ?_)
            refine r_vret hC hE hR dX9_command_123 (by omega) (by omega) (by simp only [ew_5, ew_4, ew_3, ew_1, List.length_set]) ?_
            exact Or.inl ⟨(1, x_3, x_4, x_5), k_5, lt_1, by simp only [pCmd, pArgs, hw_1, hd_3, hd_4, hd_5], by have := pWord_gt hw_1; omega, hk_5, rfl, by simp only [ew_5, ew_4, ew_3, ew_1, List.set_set]⟩
          · rw [hv_5]
            have hf5_m : w_5[m]? = some (mO 10 [.int 0, .int ch, .int ea, .int fa, .int sv0, .ref (m + 1), .ref (m + 2), .ref (m + 3), .ref (m + 4), .ref (m + 5), .ref (m + 6), .ref (m + 7), .ref (m + 8), .ref (m + 9), .ref (m + 10), .int tn, .int (nI k_5), .int (nI e), .int ln, .int 1, .int 0]) := by rw [ew_5]; exact List.getElem?_set_self (lt_of_get hf4_m)
            have hf5__m___6_ : w_5[(m + 6)]? = some (mI 0 60 tx) := by rw [ew_5, List.getElem?_set_ne (by omega)]; exact hf4__m___6_
            have hf5__m___8_ : w_5[(m + 8)]? = some (mI 0 8 lt_1) := by rw [ew_5, List.getElem?_set_ne (by omega)]; exact hf4__m___8_
            have hf5__m___9_ : w_5[(m + 9)]? = some (mI 0 41 wdF) := by rw [ew_5, List.getElem?_set_ne (by omega)]; exact hf4__m___9_
            have hf5__m___10_ : w_5[(m + 10)]? = some (mI 0 9 waF) := by rw [ew_5, List.getElem?_set_ne (by omega)]; exact hf4__m___10_
            show Wp X 0 0 w_5 [(3, .int x_4), (2, .int x_3), (4, .int 0), (1, .int 1), (0, .ref m)] [.int 0] 107
            refine r_istore hC dX9_command_107 (by rw [hnl]; decide) (L' := [(4, .int 0), (3, .int x_4), (2, .int x_3), (1, .int 1), (0, .ref m)]) rfl ?_
            refine r_aload_n hC dX9_command_109 rfl (j := 4) rfl ?_
            refine r_get hC gX9_command_110 hf5_m (v := .int 1) rfl ?_
            refine r_if_ne hC dX9_command_113 (tgt := 123) (by decide) (fun _ => ?_) (fun h => absurd h (by decide))
            refine r_vret hC hE hR dX9_command_123 (by omega) (by omega) (by simp only [ew_5, ew_4, ew_3, ew_1, List.length_set]) ?_
            exact Or.inr ⟨k_5, lt_1, by simp only [pCmd, pArgs, hw_1, hd_3, hd_4, hd_5], hk_5, rfl, by simp only [ew_5, ew_4, ew_3, ew_1, List.set_set]⟩
        · rw [hv_4]
          have hf4_m : w_4[m]? = some (mO 10 [.int 0, .int ch, .int ea, .int fa, .int sv0, .ref (m + 1), .ref (m + 2), .ref (m + 3), .ref (m + 4), .ref (m + 5), .ref (m + 6), .ref (m + 7), .ref (m + 8), .ref (m + 9), .ref (m + 10), .int tn, .int (nI k_4), .int (nI e), .int ln, .int 1, .int 0]) := by rw [ew_4]; exact List.getElem?_set_self (lt_of_get hf3_m)
          have hf4__m___6_ : w_4[(m + 6)]? = some (mI 0 60 tx) := by rw [ew_4, List.getElem?_set_ne (by omega)]; exact hf3__m___6_
          have hf4__m___8_ : w_4[(m + 8)]? = some (mI 0 8 lt_1) := by rw [ew_4, List.getElem?_set_ne (by omega)]; exact hf3__m___8_
          have hf4__m___9_ : w_4[(m + 9)]? = some (mI 0 41 wdF) := by rw [ew_4, List.getElem?_set_ne (by omega)]; exact hf3__m___9_
          have hf4__m___10_ : w_4[(m + 10)]? = some (mI 0 9 waF) := by rw [ew_4, List.getElem?_set_ne (by omega)]; exact hf3__m___10_
          show Wp X 0 0 w_4 [(2, .int x_3), (4, .int 0), (3, .int 0), (1, .int 1), (0, .ref m)] [.int 0] 71
          refine r_istore_n hC dX9_command_71 rfl (by rw [hnl]; decide) (L' := [(3, .int 0), (2, .int x_3), (4, .int 0), (1, .int 1), (0, .ref m)]) rfl ?_
          refine r_iload_n hC dX9_command_72 rfl (j := 3) rfl ?_
          refine r_iconst hC dX9_command_73 (v := 2) (by decide) ?_
          refine r_icmp_ne hC dX9_command_74 (tgt := 90) (by decide) (fun _ => ?_) (fun h => absurd h (by decide))
          refine r_iload_n hC dX9_command_90 rfl (j := 3) rfl ?_
          refine r_iconst hC dX9_command_91 (v := 1) (by decide) ?_
          refine r_icmp_ne hC dX9_command_92 (tgt := 109) (by decide) (fun h => absurd (by decide) h) (fun _ => ?_)
          refine r_aload_n hC dX9_command_95 rfl (j := 4) rfl ?_
          refine r_get hC gX9_command_96 hf4_m (v := .int 1) rfl ?_
          refine r_if_ne hC dX9_command_99 (tgt := 109) (by decide) (fun _ => ?_) (fun h => absurd h (by decide))
          refine r_aload_n hC dX9_command_109 rfl (j := 4) rfl ?_
          refine r_get hC gX9_command_110 hf4_m (v := .int 1) rfl ?_
          refine r_if_ne hC dX9_command_113 (tgt := 123) (by decide) (fun _ => ?_) (fun h => absurd h (by decide))
          refine r_vret hC hE hR dX9_command_123 (by omega) (by omega) (by simp only [ew_4, ew_3, ew_1, List.length_set]) ?_
          exact Or.inr ⟨k_4, lt_1, by simp only [pCmd, pArgs, hw_1, hd_3, hd_4], hk_4, rfl, by simp only [ew_4, ew_3, ew_1, List.set_set]⟩
      · rw [hv_3]
        have hf3_m : w_3[m]? = some (mO 10 [.int 0, .int ch, .int ea, .int fa, .int sv0, .ref (m + 1), .ref (m + 2), .ref (m + 3), .ref (m + 4), .ref (m + 5), .ref (m + 6), .ref (m + 7), .ref (m + 8), .ref (m + 9), .ref (m + 10), .int tn, .int (nI k_1), .int (nI e), .int ln, .int 1, .int 0]) := by rw [ew_3]; exact List.getElem?_set_self (lt_of_get hf1_m)
        have hf3__m___6_ : w_3[(m + 6)]? = some (mI 0 60 tx) := by rw [ew_3, List.getElem?_set_ne (by omega)]; exact hf1__m___6_
        have hf3__m___8_ : w_3[(m + 8)]? = some (mI 0 8 lt_1) := by rw [ew_3, List.getElem?_set_ne (by omega)]; exact hf1__m___8_
        have hf3__m___9_ : w_3[(m + 9)]? = some (mI 0 41 wdF) := by rw [ew_3, List.getElem?_set_ne (by omega)]; exact hf1__m___9_
        have hf3__m___10_ : w_3[(m + 10)]? = some (mI 0 9 waF) := by rw [ew_3, List.getElem?_set_ne (by omega)]; exact hf1__m___10_
        show Wp X 0 0 w_3 [(4, .int 0), (3, .int 0), (2, .int 0), (1, .int 1), (0, .ref m)] [.int 0] 48
        refine r_istore_n hC dX9_command_48 rfl (by rw [hnl]; decide) (L' := [(2, .int 0), (4, .int 0), (3, .int 0), (1, .int 1), (0, .ref m)]) rfl ?_
        refine r_iload_n hC dX9_command_49 rfl (j := 3) rfl ?_
        refine r_iconst hC dX9_command_50 (v := 1) (by decide) ?_
        refine r_icmp_eq hC dX9_command_51 (tgt := 59) (by decide) (fun _ => ?_) (fun h => absurd (by decide) h)
        refine r_aload_n hC dX9_command_59 rfl (j := 4) rfl ?_
        refine r_get hC gX9_command_60 hf3_m (v := .int 1) rfl ?_
        refine r_if_ne hC dX9_command_63 (tgt := 72) (by decide) (fun _ => ?_) (fun h => absurd h (by decide))
        refine r_iload_n hC dX9_command_72 rfl (j := 3) rfl ?_
        refine r_iconst hC dX9_command_73 (v := 2) (by decide) ?_
        refine r_icmp_ne hC dX9_command_74 (tgt := 90) (by decide) (fun _ => ?_) (fun h => absurd h (by decide))
        refine r_iload_n hC dX9_command_90 rfl (j := 3) rfl ?_
        refine r_iconst hC dX9_command_91 (v := 1) (by decide) ?_
        refine r_icmp_ne hC dX9_command_92 (tgt := 109) (by decide) (fun h => absurd (by decide) h) (fun _ => ?_)
        refine r_aload_n hC dX9_command_95 rfl (j := 4) rfl ?_
        refine r_get hC gX9_command_96 hf3_m (v := .int 1) rfl ?_
        refine r_if_ne hC dX9_command_99 (tgt := 109) (by decide) (fun _ => ?_) (fun h => absurd h (by decide))
        refine r_aload_n hC dX9_command_109 rfl (j := 4) rfl ?_
        refine r_get hC gX9_command_110 hf3_m (v := .int 1) rfl ?_
        refine r_if_ne hC dX9_command_113 (tgt := 123) (by decide) (fun _ => ?_) (fun h => absurd h (by decide))
        refine r_vret hC hE hR dX9_command_123 (by omega) (by omega) (by simp only [ew_3, ew_1, List.length_set]) ?_
        exact Or.inr ⟨k_1, lt_1, by simp only [pCmd, pArgs, hw_1, hd_3], hk_1, rfl, by simp only [ew_3, ew_1, List.set_set]⟩
    · show Wp X 0 0 w_1 [(0, .ref m)] [.int 2] 4
      refine r_istore_n hC dX9_command_4 rfl (by rw [hnl]; decide) (L' := [(1, .int 2), (0, .ref m)]) rfl ?_
      refine r_iconst hC dX9_command_5 (v := 0) (by decide) ?_
      refine r_istore_n hC dX9_command_6 rfl (by rw [hnl]; decide) (L' := [(2, .int 0), (1, .int 2), (0, .ref m)]) rfl ?_
      refine r_iconst hC dX9_command_7 (v := 0) (by decide) ?_
      refine r_istore_n hC dX9_command_8 rfl (by rw [hnl]; decide) (L' := [(3, .int 0), (2, .int 0), (1, .int 2), (0, .ref m)]) rfl ?_
      refine r_iconst hC dX9_command_9 (v := 0) (by decide) ?_
      refine r_istore hC dX9_command_10 (by rw [hnl]; decide) (L' := [(4, .int 0), (3, .int 0), (2, .int 0), (1, .int 2), (0, .ref m)]) rfl ?_
      refine r_aload_n hC dX9_command_12 rfl (j := 4) rfl ?_
      refine r_get hC gX9_command_13 hf1_m (v := .int 0) rfl ?_
      refine r_if_eq hC dX9_command_16 (tgt := 20) (by decide) (fun _ => ?_) (fun h => absurd (by decide) h)
      refine r_iload_n hC dX9_command_20 rfl (j := 3) rfl ?_
      refine r_iconst hC dX9_command_21 (v := 4) (by decide) ?_
      refine r_icmp_lt hC dX9_command_22 (tgt := 30) (by decide) (fun _ => ?_) (fun h => absurd (by decide) h)
      refine r_aload_n hC dX9_command_30 rfl (j := 4) rfl ?_
      refine r_iload_n hC dX9_command_31 rfl (j := 3) rfl ?_
      refine r_if_eq hC dX9_command_32 (tgt := 40) (by decide) (fun h => absurd h (by decide)) (fun _ => ?_)
      refine r_iload_n hC dX9_command_35 rfl (j := 3) rfl ?_
      refine r_iconst hC dX9_command_36 (v := 2) (by decide) ?_
      refine r_icmp_ne hC dX9_command_37 (tgt := 44) (by decide) (fun h => absurd (by decide) h) (fun _ => ?_)
      refine r_iconst hC dX9_command_40 (v := 2) (by decide) ?_
      refine r_goto hC dX9_command_41 (tgt := 45) (by decide) ?_
      refine r_callV hC (vs := [.int 2]) vX9_command_45 (sm_digits2 (d := d + 7) (h := k_1) (e := e) hf1_m hf1__m___6_ he hk_1) hf1_m rfl rfl (by omega) (by omega) (by omega) (Nat.le_of_ble_eq_true rfl) (fun v_6 w_6 hP_6 hlen_6 => ?_) (fun _ _ h => h.elim)
      rcases hP_6 with ⟨x_6, k_6, hd_6, hk_6, hl_6, hv_6, ew_6⟩ | ⟨hd_6, hv_6, ew_6⟩
      · rw [hv_6]
        have hf6_m : w_6[m]? = some (mO 10 [.int 0, .int ch, .int ea, .int fa, .int sv0, .ref (m + 1), .ref (m + 2), .ref (m + 3), .ref (m + 4), .ref (m + 5), .ref (m + 6), .ref (m + 7), .ref (m + 8), .ref (m + 9), .ref (m + 10), .int tn, .int (nI k_6), .int (nI e), .int ln, .int 0, .int 0]) := by rw [ew_6]; exact List.getElem?_set_self (lt_of_get hf1_m)
        have hf6__m___6_ : w_6[(m + 6)]? = some (mI 0 60 tx) := by rw [ew_6, List.getElem?_set_ne (by omega)]; exact hf1__m___6_
        have hf6__m___8_ : w_6[(m + 8)]? = some (mI 0 8 lt_1) := by rw [ew_6, List.getElem?_set_ne (by omega)]; exact hf1__m___8_
        have hf6__m___9_ : w_6[(m + 9)]? = some (mI 0 41 wdF) := by rw [ew_6, List.getElem?_set_ne (by omega)]; exact hf1__m___9_
        have hf6__m___10_ : w_6[(m + 10)]? = some (mI 0 9 waF) := by rw [ew_6, List.getElem?_set_ne (by omega)]; exact hf1__m___10_
        show Wp X 0 0 w_6 [(4, .int 0), (3, .int 0), (2, .int 0), (1, .int 2), (0, .ref m)] [.int x_6] 48
        refine r_istore_n hC dX9_command_48 rfl (by rw [hnl]; decide) (L' := [(2, .int x_6), (4, .int 0), (3, .int 0), (1, .int 2), (0, .ref m)]) rfl ?_
        refine r_iload_n hC dX9_command_49 rfl (j := 3) rfl ?_
        refine r_iconst hC dX9_command_50 (v := 1) (by decide) ?_
        refine r_icmp_eq hC dX9_command_51 (tgt := 59) (by decide) (fun h => absurd h (by decide)) (fun _ => ?_)
        refine r_iload_n hC dX9_command_54 rfl (j := 3) rfl ?_
        refine r_iconst hC dX9_command_55 (v := 3) (by decide) ?_
        refine r_icmp_ne hC dX9_command_56 (tgt := 72) (by decide) (fun _ => ?_) (fun h => absurd h (by decide))
        refine r_iload_n hC dX9_command_72 rfl (j := 3) rfl ?_
        refine r_iconst hC dX9_command_73 (v := 2) (by decide) ?_
        refine r_icmp_ne hC dX9_command_74 (tgt := 90) (by decide) (fun h => absurd (by decide) h) (fun _ => ?_)
        refine r_aload_n hC dX9_command_77 rfl (j := 4) rfl ?_
        refine r_get hC gX9_command_78 hf6_m (v := .int 0) rfl ?_
        refine r_if_ne hC dX9_command_81 (tgt := 90) (by decide) (fun h => absurd (by decide) h) (fun _ => ?_)
        refine r_aload_n hC dX9_command_84 rfl (j := 4) rfl ?_
        refine r_iconst hC dX9_command_85 (v := 1) (by decide) ?_
        refine r_callV hC (vs := [.int 1]) vX9_command_86 (sm_behind1 (d := d + 6) (h := k_6) (e := e) hf6_m hf6__m___6_ he hk_6) hf6_m rfl rfl (by omega) (by omega) (by omega) (Nat.le_of_ble_eq_true rfl) (fun v_7 w_7 hP_7 hlen_7 => ?_) (fun _ _ h => h.elim)
        rcases hP_7 with ⟨x_7, k_7, hd_7, hk_7, hl_7, hv_7, ew_7⟩ | ⟨k_7, hd_7, hk_7, hv_7, ew_7⟩
        · rw [hv_7]
          have hf7_m : w_7[m]? = some (mO 10 [.int 0, .int ch, .int ea, .int fa, .int sv0, .ref (m + 1), .ref (m + 2), .ref (m + 3), .ref (m + 4), .ref (m + 5), .ref (m + 6), .ref (m + 7), .ref (m + 8), .ref (m + 9), .ref (m + 10), .int tn, .int (nI k_7), .int (nI e), .int ln, .int 0, .int 0]) := by rw [ew_7]; exact List.getElem?_set_self (lt_of_get hf6_m)
          have hf7__m___6_ : w_7[(m + 6)]? = some (mI 0 60 tx) := by rw [ew_7, List.getElem?_set_ne (by omega)]; exact hf6__m___6_
          have hf7__m___8_ : w_7[(m + 8)]? = some (mI 0 8 lt_1) := by rw [ew_7, List.getElem?_set_ne (by omega)]; exact hf6__m___8_
          have hf7__m___9_ : w_7[(m + 9)]? = some (mI 0 41 wdF) := by rw [ew_7, List.getElem?_set_ne (by omega)]; exact hf6__m___9_
          have hf7__m___10_ : w_7[(m + 10)]? = some (mI 0 9 waF) := by rw [ew_7, List.getElem?_set_ne (by omega)]; exact hf6__m___10_
          show Wp X 0 0 w_7 [(2, .int x_6), (4, .int 0), (3, .int 0), (1, .int 2), (0, .ref m)] [.int x_7] 89
          refine r_istore_n hC dX9_command_89 rfl (by rw [hnl]; decide) (L' := [(3, .int x_7), (2, .int x_6), (4, .int 0), (1, .int 2), (0, .ref m)]) rfl ?_
          refine r_iload_n hC dX9_command_90 rfl (j := 3) rfl ?_
          refine r_iconst hC dX9_command_91 (v := 1) (by decide) ?_
          refine r_icmp_ne hC dX9_command_92 (tgt := 109) (by decide) (fun _ => ?_) (fun h => absurd h (by decide))
          refine r_aload_n hC dX9_command_109 rfl (j := 4) rfl ?_
          refine r_get hC gX9_command_110 hf7_m (v := .int 0) rfl ?_
          refine r_if_ne hC dX9_command_113 (tgt := 123) (by decide) (fun h => absurd (by decide) h) (fun _ => ?_)
          refine r_aload_n hC dX9_command_116 rfl (j := 4) rfl ?_
          refine r_get hC gX9_command_117 hf7_m (v := .int 0) rfl ?_
          refine r_if_ne hC dX9_command_120 (tgt := 124) (by decide) (fun h => absurd (by decide) h) (fun _ => ?_)
          refine r_vret hC hE hR dX9_command_123 (by omega) (by omega) (by simp only [ew_7, ew_6, ew_1, List.length_set]) ?_
          exact Or.inl ⟨(2, x_6, x_7, 0), k_7, lt_1, by simp only [pCmd, pArgs, hw_1, hd_6, hd_7], by have := pWord_gt hw_1; omega, hk_7, rfl, by simp only [ew_7, ew_6, ew_1, List.set_set]⟩
        · rw [hv_7]
          have hf7_m : w_7[m]? = some (mO 10 [.int 0, .int ch, .int ea, .int fa, .int sv0, .ref (m + 1), .ref (m + 2), .ref (m + 3), .ref (m + 4), .ref (m + 5), .ref (m + 6), .ref (m + 7), .ref (m + 8), .ref (m + 9), .ref (m + 10), .int tn, .int (nI k_7), .int (nI e), .int ln, .int 1, .int 0]) := by rw [ew_7]; exact List.getElem?_set_self (lt_of_get hf6_m)
          have hf7__m___6_ : w_7[(m + 6)]? = some (mI 0 60 tx) := by rw [ew_7, List.getElem?_set_ne (by omega)]; exact hf6__m___6_
          have hf7__m___8_ : w_7[(m + 8)]? = some (mI 0 8 lt_1) := by rw [ew_7, List.getElem?_set_ne (by omega)]; exact hf6__m___8_
          have hf7__m___9_ : w_7[(m + 9)]? = some (mI 0 41 wdF) := by rw [ew_7, List.getElem?_set_ne (by omega)]; exact hf6__m___9_
          have hf7__m___10_ : w_7[(m + 10)]? = some (mI 0 9 waF) := by rw [ew_7, List.getElem?_set_ne (by omega)]; exact hf6__m___10_
          show Wp X 0 0 w_7 [(2, .int x_6), (4, .int 0), (3, .int 0), (1, .int 2), (0, .ref m)] [.int 0] 89
          refine r_istore_n hC dX9_command_89 rfl (by rw [hnl]; decide) (L' := [(3, .int 0), (2, .int x_6), (4, .int 0), (1, .int 2), (0, .ref m)]) rfl ?_
          refine r_iload_n hC dX9_command_90 rfl (j := 3) rfl ?_
          refine r_iconst hC dX9_command_91 (v := 1) (by decide) ?_
          refine r_icmp_ne hC dX9_command_92 (tgt := 109) (by decide) (fun _ => ?_) (fun h => absurd h (by decide))
          refine r_aload_n hC dX9_command_109 rfl (j := 4) rfl ?_
          refine r_get hC gX9_command_110 hf7_m (v := .int 1) rfl ?_
          refine r_if_ne hC dX9_command_113 (tgt := 123) (by decide) (fun _ => ?_) (fun h => absurd h (by decide))
          refine r_vret hC hE hR dX9_command_123 (by omega) (by omega) (by simp only [ew_7, ew_6, ew_1, List.length_set]) ?_
          exact Or.inr ⟨k_7, lt_1, by simp only [pCmd, pArgs, hw_1, hd_6, hd_7], hk_7, rfl, by simp only [ew_7, ew_6, ew_1, List.set_set]⟩
      · rw [hv_6]
        have hf6_m : w_6[m]? = some (mO 10 [.int 0, .int ch, .int ea, .int fa, .int sv0, .ref (m + 1), .ref (m + 2), .ref (m + 3), .ref (m + 4), .ref (m + 5), .ref (m + 6), .ref (m + 7), .ref (m + 8), .ref (m + 9), .ref (m + 10), .int tn, .int (nI k_1), .int (nI e), .int ln, .int 1, .int 0]) := by rw [ew_6]; exact List.getElem?_set_self (lt_of_get hf1_m)
        have hf6__m___6_ : w_6[(m + 6)]? = some (mI 0 60 tx) := by rw [ew_6, List.getElem?_set_ne (by omega)]; exact hf1__m___6_
        have hf6__m___8_ : w_6[(m + 8)]? = some (mI 0 8 lt_1) := by rw [ew_6, List.getElem?_set_ne (by omega)]; exact hf1__m___8_
        have hf6__m___9_ : w_6[(m + 9)]? = some (mI 0 41 wdF) := by rw [ew_6, List.getElem?_set_ne (by omega)]; exact hf1__m___9_
        have hf6__m___10_ : w_6[(m + 10)]? = some (mI 0 9 waF) := by rw [ew_6, List.getElem?_set_ne (by omega)]; exact hf1__m___10_
        show Wp X 0 0 w_6 [(4, .int 0), (3, .int 0), (2, .int 0), (1, .int 2), (0, .ref m)] [.int 0] 48
        refine r_istore_n hC dX9_command_48 rfl (by rw [hnl]; decide) (L' := [(2, .int 0), (4, .int 0), (3, .int 0), (1, .int 2), (0, .ref m)]) rfl ?_
        refine r_iload_n hC dX9_command_49 rfl (j := 3) rfl ?_
        refine r_iconst hC dX9_command_50 (v := 1) (by decide) ?_
        refine r_icmp_eq hC dX9_command_51 (tgt := 59) (by decide) (fun h => absurd h (by decide)) (fun _ => ?_)
        refine r_iload_n hC dX9_command_54 rfl (j := 3) rfl ?_
        refine r_iconst hC dX9_command_55 (v := 3) (by decide) ?_
        refine r_icmp_ne hC dX9_command_56 (tgt := 72) (by decide) (fun _ => ?_) (fun h => absurd h (by decide))
        refine r_iload_n hC dX9_command_72 rfl (j := 3) rfl ?_
        refine r_iconst hC dX9_command_73 (v := 2) (by decide) ?_
        refine r_icmp_ne hC dX9_command_74 (tgt := 90) (by decide) (fun h => absurd (by decide) h) (fun _ => ?_)
        refine r_aload_n hC dX9_command_77 rfl (j := 4) rfl ?_
        refine r_get hC gX9_command_78 hf6_m (v := .int 1) rfl ?_
        refine r_if_ne hC dX9_command_81 (tgt := 90) (by decide) (fun _ => ?_) (fun h => absurd h (by decide))
        refine r_iload_n hC dX9_command_90 rfl (j := 3) rfl ?_
        refine r_iconst hC dX9_command_91 (v := 1) (by decide) ?_
        refine r_icmp_ne hC dX9_command_92 (tgt := 109) (by decide) (fun _ => ?_) (fun h => absurd h (by decide))
        refine r_aload_n hC dX9_command_109 rfl (j := 4) rfl ?_
        refine r_get hC gX9_command_110 hf6_m (v := .int 1) rfl ?_
        refine r_if_ne hC dX9_command_113 (tgt := 123) (by decide) (fun _ => ?_) (fun h => absurd h (by decide))
        refine r_vret hC hE hR dX9_command_123 (by omega) (by omega) (by simp only [ew_6, ew_1, List.length_set]) ?_
        exact Or.inr ⟨k_1, lt_1, by simp only [pCmd, pArgs, hw_1, hd_6], hk_1, rfl, by simp only [ew_6, ew_1, List.set_set]⟩
    · show Wp X 0 0 w_1 [(0, .ref m)] [.int 3] 4
      refine r_istore_n hC dX9_command_4 rfl (by rw [hnl]; decide) (L' := [(1, .int 3), (0, .ref m)]) rfl ?_
      refine r_iconst hC dX9_command_5 (v := 0) (by decide) ?_
      refine r_istore_n hC dX9_command_6 rfl (by rw [hnl]; decide) (L' := [(2, .int 0), (1, .int 3), (0, .ref m)]) rfl ?_
      refine r_iconst hC dX9_command_7 (v := 0) (by decide) ?_
      refine r_istore_n hC dX9_command_8 rfl (by rw [hnl]; decide) (L' := [(3, .int 0), (2, .int 0), (1, .int 3), (0, .ref m)]) rfl ?_
      refine r_iconst hC dX9_command_9 (v := 0) (by decide) ?_
      refine r_istore hC dX9_command_10 (by rw [hnl]; decide) (L' := [(4, .int 0), (3, .int 0), (2, .int 0), (1, .int 3), (0, .ref m)]) rfl ?_
      refine r_aload_n hC dX9_command_12 rfl (j := 4) rfl ?_
      refine r_get hC gX9_command_13 hf1_m (v := .int 0) rfl ?_
      refine r_if_eq hC dX9_command_16 (tgt := 20) (by decide) (fun _ => ?_) (fun h => absurd (by decide) h)
      refine r_iload_n hC dX9_command_20 rfl (j := 3) rfl ?_
      refine r_iconst hC dX9_command_21 (v := 4) (by decide) ?_
      refine r_icmp_lt hC dX9_command_22 (tgt := 30) (by decide) (fun _ => ?_) (fun h => absurd (by decide) h)
      refine r_aload_n hC dX9_command_30 rfl (j := 4) rfl ?_
      refine r_iload_n hC dX9_command_31 rfl (j := 3) rfl ?_
      refine r_if_eq hC dX9_command_32 (tgt := 40) (by decide) (fun h => absurd h (by decide)) (fun _ => ?_)
      refine r_iload_n hC dX9_command_35 rfl (j := 3) rfl ?_
      refine r_iconst hC dX9_command_36 (v := 2) (by decide) ?_
      refine r_icmp_ne hC dX9_command_37 (tgt := 44) (by decide) (fun _ => ?_) (fun h => absurd h (by decide))
      refine r_iconst hC dX9_command_44 (v := 1) (by decide) ?_
      refine r_callV hC (vs := [.int 1]) vX9_command_45 (sm_digits1 (d := d + 7) (h := k_1) (e := e) hf1_m hf1__m___6_ he hk_1) hf1_m rfl rfl (by omega) (by omega) (by omega) (Nat.le_of_ble_eq_true rfl) (fun v_8 w_8 hP_8 hlen_8 => ?_) (fun _ _ h => h.elim)
      rcases hP_8 with ⟨x_8, k_8, hd_8, hk_8, hl_8, hv_8, ew_8⟩ | ⟨hd_8, hv_8, ew_8⟩
      · rw [hv_8]
        have hf8_m : w_8[m]? = some (mO 10 [.int 0, .int ch, .int ea, .int fa, .int sv0, .ref (m + 1), .ref (m + 2), .ref (m + 3), .ref (m + 4), .ref (m + 5), .ref (m + 6), .ref (m + 7), .ref (m + 8), .ref (m + 9), .ref (m + 10), .int tn, .int (nI k_8), .int (nI e), .int ln, .int 0, .int 0]) := by rw [ew_8]; exact List.getElem?_set_self (lt_of_get hf1_m)
        have hf8__m___6_ : w_8[(m + 6)]? = some (mI 0 60 tx) := by rw [ew_8, List.getElem?_set_ne (by omega)]; exact hf1__m___6_
        have hf8__m___8_ : w_8[(m + 8)]? = some (mI 0 8 lt_1) := by rw [ew_8, List.getElem?_set_ne (by omega)]; exact hf1__m___8_
        have hf8__m___9_ : w_8[(m + 9)]? = some (mI 0 41 wdF) := by rw [ew_8, List.getElem?_set_ne (by omega)]; exact hf1__m___9_
        have hf8__m___10_ : w_8[(m + 10)]? = some (mI 0 9 waF) := by rw [ew_8, List.getElem?_set_ne (by omega)]; exact hf1__m___10_
        show Wp X 0 0 w_8 [(4, .int 0), (3, .int 0), (2, .int 0), (1, .int 3), (0, .ref m)] [.int x_8] 48
        refine r_istore_n hC dX9_command_48 rfl (by rw [hnl]; decide) (L' := [(2, .int x_8), (4, .int 0), (3, .int 0), (1, .int 3), (0, .ref m)]) rfl ?_
        refine r_iload_n hC dX9_command_49 rfl (j := 3) rfl ?_
        refine r_iconst hC dX9_command_50 (v := 1) (by decide) ?_
        refine r_icmp_eq hC dX9_command_51 (tgt := 59) (by decide) (fun h => absurd h (by decide)) (fun _ => ?_)
        refine r_iload_n hC dX9_command_54 rfl (j := 3) rfl ?_
        refine r_iconst hC dX9_command_55 (v := 3) (by decide) ?_
        refine r_icmp_ne hC dX9_command_56 (tgt := 72) (by decide) (fun h => absurd (by decide) h) (fun _ => ?_)
        refine r_aload_n hC dX9_command_59 rfl (j := 4) rfl ?_
        refine r_get hC gX9_command_60 hf8_m (v := .int 0) rfl ?_
        refine r_if_ne hC dX9_command_63 (tgt := 72) (by decide) (fun h => absurd (by decide) h) (fun _ => ?_)
        refine r_aload_n hC dX9_command_66 rfl (j := 4) rfl ?_
        refine r_iconst hC dX9_command_67 (v := 2) (by decide) ?_
        refine r_callV hC (vs := [.int 2]) vX9_command_68 (sm_behind2 (d := d + 6) (h := k_8) (e := e) hf8_m hf8__m___6_ he hk_8) hf8_m rfl rfl (by omega) (by omega) (by omega) (Nat.le_of_ble_eq_true rfl) (fun v_9 w_9 hP_9 hlen_9 => ?_) (fun _ _ h => h.elim)
        rcases hP_9 with ⟨x_9, k_9, hd_9, hk_9, hl_9, hv_9, ew_9⟩ | ⟨k_9, hd_9, hk_9, hv_9, ew_9⟩
        · rw [hv_9]
          have hf9_m : w_9[m]? = some (mO 10 [.int 0, .int ch, .int ea, .int fa, .int sv0, .ref (m + 1), .ref (m + 2), .ref (m + 3), .ref (m + 4), .ref (m + 5), .ref (m + 6), .ref (m + 7), .ref (m + 8), .ref (m + 9), .ref (m + 10), .int tn, .int (nI k_9), .int (nI e), .int ln, .int 0, .int 0]) := by rw [ew_9]; exact List.getElem?_set_self (lt_of_get hf8_m)
          have hf9__m___6_ : w_9[(m + 6)]? = some (mI 0 60 tx) := by rw [ew_9, List.getElem?_set_ne (by omega)]; exact hf8__m___6_
          have hf9__m___8_ : w_9[(m + 8)]? = some (mI 0 8 lt_1) := by rw [ew_9, List.getElem?_set_ne (by omega)]; exact hf8__m___8_
          have hf9__m___9_ : w_9[(m + 9)]? = some (mI 0 41 wdF) := by rw [ew_9, List.getElem?_set_ne (by omega)]; exact hf8__m___9_
          have hf9__m___10_ : w_9[(m + 10)]? = some (mI 0 9 waF) := by rw [ew_9, List.getElem?_set_ne (by omega)]; exact hf8__m___10_
          show Wp X 0 0 w_9 [(2, .int x_8), (4, .int 0), (3, .int 0), (1, .int 3), (0, .ref m)] [.int x_9] 71
          refine r_istore_n hC dX9_command_71 rfl (by rw [hnl]; decide) (L' := [(3, .int x_9), (2, .int x_8), (4, .int 0), (1, .int 3), (0, .ref m)]) rfl ?_
          refine r_iload_n hC dX9_command_72 rfl (j := 3) rfl ?_
          refine r_iconst hC dX9_command_73 (v := 2) (by decide) ?_
          refine r_icmp_ne hC dX9_command_74 (tgt := 90) (by decide) (fun _ => ?_) (fun h => absurd h (by decide))
          refine r_iload_n hC dX9_command_90 rfl (j := 3) rfl ?_
          refine r_iconst hC dX9_command_91 (v := 1) (by decide) ?_
          refine r_icmp_ne hC dX9_command_92 (tgt := 109) (by decide) (fun _ => ?_) (fun h => absurd h (by decide))
          refine r_aload_n hC dX9_command_109 rfl (j := 4) rfl ?_
          refine r_get hC gX9_command_110 hf9_m (v := .int 0) rfl ?_
          refine r_if_ne hC dX9_command_113 (tgt := 123) (by decide) (fun h => absurd (by decide) h) (fun _ => ?_)
          refine r_aload_n hC dX9_command_116 rfl (j := 4) rfl ?_
          refine r_get hC gX9_command_117 hf9_m (v := .int 0) rfl ?_
          refine r_if_ne hC dX9_command_120 (tgt := 124) (by decide) (fun h => absurd (by decide) h) (fun _ => ?_)
          refine r_vret hC hE hR dX9_command_123 (by omega) (by omega) (by simp only [ew_9, ew_8, ew_1, List.length_set]) ?_
          exact Or.inl ⟨(3, x_8, x_9, 0), k_9, lt_1, by simp only [pCmd, pArgs, hw_1, hd_8, hd_9], by have := pWord_gt hw_1; omega, hk_9, rfl, by simp only [ew_9, ew_8, ew_1, List.set_set]⟩
        · rw [hv_9]
          have hf9_m : w_9[m]? = some (mO 10 [.int 0, .int ch, .int ea, .int fa, .int sv0, .ref (m + 1), .ref (m + 2), .ref (m + 3), .ref (m + 4), .ref (m + 5), .ref (m + 6), .ref (m + 7), .ref (m + 8), .ref (m + 9), .ref (m + 10), .int tn, .int (nI k_9), .int (nI e), .int ln, .int 1, .int 0]) := by rw [ew_9]; exact List.getElem?_set_self (lt_of_get hf8_m)
          have hf9__m___6_ : w_9[(m + 6)]? = some (mI 0 60 tx) := by rw [ew_9, List.getElem?_set_ne (by omega)]; exact hf8__m___6_
          have hf9__m___8_ : w_9[(m + 8)]? = some (mI 0 8 lt_1) := by rw [ew_9, List.getElem?_set_ne (by omega)]; exact hf8__m___8_
          have hf9__m___9_ : w_9[(m + 9)]? = some (mI 0 41 wdF) := by rw [ew_9, List.getElem?_set_ne (by omega)]; exact hf8__m___9_
          have hf9__m___10_ : w_9[(m + 10)]? = some (mI 0 9 waF) := by rw [ew_9, List.getElem?_set_ne (by omega)]; exact hf8__m___10_
          show Wp X 0 0 w_9 [(2, .int x_8), (4, .int 0), (3, .int 0), (1, .int 3), (0, .ref m)] [.int 0] 71
          refine r_istore_n hC dX9_command_71 rfl (by rw [hnl]; decide) (L' := [(3, .int 0), (2, .int x_8), (4, .int 0), (1, .int 3), (0, .ref m)]) rfl ?_
          refine r_iload_n hC dX9_command_72 rfl (j := 3) rfl ?_
          refine r_iconst hC dX9_command_73 (v := 2) (by decide) ?_
          refine r_icmp_ne hC dX9_command_74 (tgt := 90) (by decide) (fun _ => ?_) (fun h => absurd h (by decide))
          refine r_iload_n hC dX9_command_90 rfl (j := 3) rfl ?_
          refine r_iconst hC dX9_command_91 (v := 1) (by decide) ?_
          refine r_icmp_ne hC dX9_command_92 (tgt := 109) (by decide) (fun _ => ?_) (fun h => absurd h (by decide))
          refine r_aload_n hC dX9_command_109 rfl (j := 4) rfl ?_
          refine r_get hC gX9_command_110 hf9_m (v := .int 1) rfl ?_
          refine r_if_ne hC dX9_command_113 (tgt := 123) (by decide) (fun _ => ?_) (fun h => absurd h (by decide))
          refine r_vret hC hE hR dX9_command_123 (by omega) (by omega) (by simp only [ew_9, ew_8, ew_1, List.length_set]) ?_
          exact Or.inr ⟨k_9, lt_1, by simp only [pCmd, pArgs, hw_1, hd_8, hd_9], hk_9, rfl, by simp only [ew_9, ew_8, ew_1, List.set_set]⟩
      · rw [hv_8]
        have hf8_m : w_8[m]? = some (mO 10 [.int 0, .int ch, .int ea, .int fa, .int sv0, .ref (m + 1), .ref (m + 2), .ref (m + 3), .ref (m + 4), .ref (m + 5), .ref (m + 6), .ref (m + 7), .ref (m + 8), .ref (m + 9), .ref (m + 10), .int tn, .int (nI k_1), .int (nI e), .int ln, .int 1, .int 0]) := by rw [ew_8]; exact List.getElem?_set_self (lt_of_get hf1_m)
        have hf8__m___6_ : w_8[(m + 6)]? = some (mI 0 60 tx) := by rw [ew_8, List.getElem?_set_ne (by omega)]; exact hf1__m___6_
        have hf8__m___8_ : w_8[(m + 8)]? = some (mI 0 8 lt_1) := by rw [ew_8, List.getElem?_set_ne (by omega)]; exact hf1__m___8_
        have hf8__m___9_ : w_8[(m + 9)]? = some (mI 0 41 wdF) := by rw [ew_8, List.getElem?_set_ne (by omega)]; exact hf1__m___9_
        have hf8__m___10_ : w_8[(m + 10)]? = some (mI 0 9 waF) := by rw [ew_8, List.getElem?_set_ne (by omega)]; exact hf1__m___10_
        show Wp X 0 0 w_8 [(4, .int 0), (3, .int 0), (2, .int 0), (1, .int 3), (0, .ref m)] [.int 0] 48
        refine r_istore_n hC dX9_command_48 rfl (by rw [hnl]; decide) (L' := [(2, .int 0), (4, .int 0), (3, .int 0), (1, .int 3), (0, .ref m)]) rfl ?_
        refine r_iload_n hC dX9_command_49 rfl (j := 3) rfl ?_
        refine r_iconst hC dX9_command_50 (v := 1) (by decide) ?_
        refine r_icmp_eq hC dX9_command_51 (tgt := 59) (by decide) (fun h => absurd h (by decide)) (fun _ => ?_)
        refine r_iload_n hC dX9_command_54 rfl (j := 3) rfl ?_
        refine r_iconst hC dX9_command_55 (v := 3) (by decide) ?_
        refine r_icmp_ne hC dX9_command_56 (tgt := 72) (by decide) (fun h => absurd (by decide) h) (fun _ => ?_)
        refine r_aload_n hC dX9_command_59 rfl (j := 4) rfl ?_
        refine r_get hC gX9_command_60 hf8_m (v := .int 1) rfl ?_
        refine r_if_ne hC dX9_command_63 (tgt := 72) (by decide) (fun _ => ?_) (fun h => absurd h (by decide))
        refine r_iload_n hC dX9_command_72 rfl (j := 3) rfl ?_
        refine r_iconst hC dX9_command_73 (v := 2) (by decide) ?_
        refine r_icmp_ne hC dX9_command_74 (tgt := 90) (by decide) (fun _ => ?_) (fun h => absurd h (by decide))
        refine r_iload_n hC dX9_command_90 rfl (j := 3) rfl ?_
        refine r_iconst hC dX9_command_91 (v := 1) (by decide) ?_
        refine r_icmp_ne hC dX9_command_92 (tgt := 109) (by decide) (fun _ => ?_) (fun h => absurd h (by decide))
        refine r_aload_n hC dX9_command_109 rfl (j := 4) rfl ?_
        refine r_get hC gX9_command_110 hf8_m (v := .int 1) rfl ?_
        refine r_if_ne hC dX9_command_113 (tgt := 123) (by decide) (fun _ => ?_) (fun h => absurd h (by decide))
        refine r_vret hC hE hR dX9_command_123 (by omega) (by omega) (by simp only [ew_8, ew_1, List.length_set]) ?_
        exact Or.inr ⟨k_1, lt_1, by simp only [pCmd, pArgs, hw_1, hd_8], hk_1, rfl, by simp only [ew_8, ew_1, List.set_set]⟩
    · show Wp X 0 0 w_1 [(0, .ref m)] [.int 4] 4
      refine r_istore_n hC dX9_command_4 rfl (by rw [hnl]; decide) (L' := [(1, .int 4), (0, .ref m)]) rfl ?_
      refine r_iconst hC dX9_command_5 (v := 0) (by decide) ?_
      refine r_istore_n hC dX9_command_6 rfl (by rw [hnl]; decide) (L' := [(2, .int 0), (1, .int 4), (0, .ref m)]) rfl ?_
      refine r_iconst hC dX9_command_7 (v := 0) (by decide) ?_
      refine r_istore_n hC dX9_command_8 rfl (by rw [hnl]; decide) (L' := [(3, .int 0), (2, .int 0), (1, .int 4), (0, .ref m)]) rfl ?_
      refine r_iconst hC dX9_command_9 (v := 0) (by decide) ?_
      refine r_istore hC dX9_command_10 (by rw [hnl]; decide) (L' := [(4, .int 0), (3, .int 0), (2, .int 0), (1, .int 4), (0, .ref m)]) rfl ?_
      refine r_aload_n hC dX9_command_12 rfl (j := 4) rfl ?_
      refine r_get hC gX9_command_13 hf1_m (v := .int 0) rfl ?_
      refine r_if_eq hC dX9_command_16 (tgt := 20) (by decide) (fun _ => ?_) (fun h => absurd (by decide) h)
      refine r_iload_n hC dX9_command_20 rfl (j := 3) rfl ?_
      refine r_iconst hC dX9_command_21 (v := 4) (by decide) ?_
      refine r_icmp_lt hC dX9_command_22 (tgt := 30) (by decide) (fun h => absurd h (by decide)) (fun _ => ?_)
      refine r_iload_n hC dX9_command_25 rfl (j := 3) rfl ?_
      refine r_iconst hC dX9_command_26 (v := 5) (by decide) ?_
      refine r_icmp_ne hC dX9_command_27 (tgt := 49) (by decide) (fun _ => ?_) (fun h => absurd h (by decide))
      refine r_iload_n hC dX9_command_49 rfl (j := 3) rfl ?_
      refine r_iconst hC dX9_command_50 (v := 1) (by decide) ?_
      refine r_icmp_eq hC dX9_command_51 (tgt := 59) (by decide) (fun h => absurd h (by decide)) (fun _ => ?_)
      refine r_iload_n hC dX9_command_54 rfl (j := 3) rfl ?_
      refine r_iconst hC dX9_command_55 (v := 3) (by decide) ?_
      refine r_icmp_ne hC dX9_command_56 (tgt := 72) (by decide) (fun _ => ?_) (fun h => absurd h (by decide))
      refine r_iload_n hC dX9_command_72 rfl (j := 3) rfl ?_
      refine r_iconst hC dX9_command_73 (v := 2) (by decide) ?_
      refine r_icmp_ne hC dX9_command_74 (tgt := 90) (by decide) (fun _ => ?_) (fun h => absurd h (by decide))
      refine r_iload_n hC dX9_command_90 rfl (j := 3) rfl ?_
      refine r_iconst hC dX9_command_91 (v := 1) (by decide) ?_
      refine r_icmp_ne hC dX9_command_92 (tgt := 109) (by decide) (fun _ => ?_) (fun h => absurd h (by decide))
      refine r_aload_n hC dX9_command_109 rfl (j := 4) rfl ?_
      refine r_get hC gX9_command_110 hf1_m (v := .int 0) rfl ?_
      refine r_if_ne hC dX9_command_113 (tgt := 123) (by decide) (fun h => absurd (by decide) h) (fun _ => ?_)
      refine r_aload_n hC dX9_command_116 rfl (j := 4) rfl ?_
      refine r_get hC gX9_command_117 hf1_m (v := .int 0) rfl ?_
      refine r_if_ne hC dX9_command_120 (tgt := 124) (by decide) (fun h => absurd (by decide) h) (fun _ => ?_)
      refine r_vret hC hE hR dX9_command_123 (by omega) (by omega) (by simp only [ew_1, List.length_set]) ?_
      exact Or.inl ⟨(4, 0, 0, 0), k_1, lt_1, by simp only [pCmd, pArgs, hw_1], by have := pWord_gt hw_1; omega, hk_1, rfl, by simp only [ew_1, List.set_set]⟩
    · show Wp X 0 0 w_1 [(0, .ref m)] [.int 5] 4
      refine r_istore_n hC dX9_command_4 rfl (by rw [hnl]; decide) (L' := [(1, .int 5), (0, .ref m)]) rfl ?_
      refine r_iconst hC dX9_command_5 (v := 0) (by decide) ?_
      refine r_istore_n hC dX9_command_6 rfl (by rw [hnl]; decide) (L' := [(2, .int 0), (1, .int 5), (0, .ref m)]) rfl ?_
      refine r_iconst hC dX9_command_7 (v := 0) (by decide) ?_
      refine r_istore_n hC dX9_command_8 rfl (by rw [hnl]; decide) (L' := [(3, .int 0), (2, .int 0), (1, .int 5), (0, .ref m)]) rfl ?_
      refine r_iconst hC dX9_command_9 (v := 0) (by decide) ?_
      refine r_istore hC dX9_command_10 (by rw [hnl]; decide) (L' := [(4, .int 0), (3, .int 0), (2, .int 0), (1, .int 5), (0, .ref m)]) rfl ?_
      refine r_aload_n hC dX9_command_12 rfl (j := 4) rfl ?_
      refine r_get hC gX9_command_13 hf1_m (v := .int 0) rfl ?_
      refine r_if_eq hC dX9_command_16 (tgt := 20) (by decide) (fun _ => ?_) (fun h => absurd (by decide) h)
      refine r_iload_n hC dX9_command_20 rfl (j := 3) rfl ?_
      refine r_iconst hC dX9_command_21 (v := 4) (by decide) ?_
      refine r_icmp_lt hC dX9_command_22 (tgt := 30) (by decide) (fun h => absurd h (by decide)) (fun _ => ?_)
      refine r_iload_n hC dX9_command_25 rfl (j := 3) rfl ?_
      refine r_iconst hC dX9_command_26 (v := 5) (by decide) ?_
      refine r_icmp_ne hC dX9_command_27 (tgt := 49) (by decide) (fun h => absurd (by decide) h) (fun _ => ?_)
      refine r_aload_n hC dX9_command_30 rfl (j := 4) rfl ?_
      refine r_iload_n hC dX9_command_31 rfl (j := 3) rfl ?_
      refine r_if_eq hC dX9_command_32 (tgt := 40) (by decide) (fun h => absurd h (by decide)) (fun _ => ?_)
      refine r_iload_n hC dX9_command_35 rfl (j := 3) rfl ?_
      refine r_iconst hC dX9_command_36 (v := 2) (by decide) ?_
      refine r_icmp_ne hC dX9_command_37 (tgt := 44) (by decide) (fun _ => ?_) (fun h => absurd h (by decide))
      refine r_iconst hC dX9_command_44 (v := 1) (by decide) ?_
      refine r_callV hC (vs := [.int 1]) vX9_command_45 (sm_digits1 (d := d + 7) (h := k_1) (e := e) hf1_m hf1__m___6_ he hk_1) hf1_m rfl rfl (by omega) (by omega) (by omega) (Nat.le_of_ble_eq_true rfl) (fun v_10 w_10 hP_10 hlen_10 => ?_) (fun _ _ h => h.elim)
      rcases hP_10 with ⟨x_10, k_10, hd_10, hk_10, hl_10, hv_10, ew_10⟩ | ⟨hd_10, hv_10, ew_10⟩
      · rw [hv_10]
        have hf10_m : w_10[m]? = some (mO 10 [.int 0, .int ch, .int ea, .int fa, .int sv0, .ref (m + 1), .ref (m + 2), .ref (m + 3), .ref (m + 4), .ref (m + 5), .ref (m + 6), .ref (m + 7), .ref (m + 8), .ref (m + 9), .ref (m + 10), .int tn, .int (nI k_10), .int (nI e), .int ln, .int 0, .int 0]) := by rw [ew_10]; exact List.getElem?_set_self (lt_of_get hf1_m)
        have hf10__m___6_ : w_10[(m + 6)]? = some (mI 0 60 tx) := by rw [ew_10, List.getElem?_set_ne (by omega)]; exact hf1__m___6_
        have hf10__m___8_ : w_10[(m + 8)]? = some (mI 0 8 lt_1) := by rw [ew_10, List.getElem?_set_ne (by omega)]; exact hf1__m___8_
        have hf10__m___9_ : w_10[(m + 9)]? = some (mI 0 41 wdF) := by rw [ew_10, List.getElem?_set_ne (by omega)]; exact hf1__m___9_
        have hf10__m___10_ : w_10[(m + 10)]? = some (mI 0 9 waF) := by rw [ew_10, List.getElem?_set_ne (by omega)]; exact hf1__m___10_
        show Wp X 0 0 w_10 [(4, .int 0), (3, .int 0), (2, .int 0), (1, .int 5), (0, .ref m)] [.int x_10] 48
        refine r_istore_n hC dX9_command_48 rfl (by rw [hnl]; decide) (L' := [(2, .int x_10), (4, .int 0), (3, .int 0), (1, .int 5), (0, .ref m)]) rfl ?_
        refine r_iload_n hC dX9_command_49 rfl (j := 3) rfl ?_
        refine r_iconst hC dX9_command_50 (v := 1) (by decide) ?_
        refine r_icmp_eq hC dX9_command_51 (tgt := 59) (by decide) (fun h => absurd h (by decide)) (fun _ => ?_)
        refine r_iload_n hC dX9_command_54 rfl (j := 3) rfl ?_
        refine r_iconst hC dX9_command_55 (v := 3) (by decide) ?_
        refine r_icmp_ne hC dX9_command_56 (tgt := 72) (by decide) (fun _ => ?_) (fun h => absurd h (by decide))
        refine r_iload_n hC dX9_command_72 rfl (j := 3) rfl ?_
        refine r_iconst hC dX9_command_73 (v := 2) (by decide) ?_
        refine r_icmp_ne hC dX9_command_74 (tgt := 90) (by decide) (fun _ => ?_) (fun h => absurd h (by decide))
        refine r_iload_n hC dX9_command_90 rfl (j := 3) rfl ?_
        refine r_iconst hC dX9_command_91 (v := 1) (by decide) ?_
        refine r_icmp_ne hC dX9_command_92 (tgt := 109) (by decide) (fun _ => ?_) (fun h => absurd h (by decide))
        refine r_aload_n hC dX9_command_109 rfl (j := 4) rfl ?_
        refine r_get hC gX9_command_110 hf10_m (v := .int 0) rfl ?_
        refine r_if_ne hC dX9_command_113 (tgt := 123) (by decide) (fun h => absurd (by decide) h) (fun _ => ?_)
        refine r_aload_n hC dX9_command_116 rfl (j := 4) rfl ?_
        refine r_get hC gX9_command_117 hf10_m (v := .int 0) rfl ?_
        refine r_if_ne hC dX9_command_120 (tgt := 124) (by decide) (fun h => absurd (by decide) h) (fun _ => ?_)
        refine r_vret hC hE hR dX9_command_123 (by omega) (by omega) (by simp only [ew_10, ew_1, List.length_set]) ?_
        exact Or.inl ⟨(5, x_10, 0, 0), k_10, lt_1, by simp only [pCmd, pArgs, hw_1, hd_10], by have := pWord_gt hw_1; omega, hk_10, rfl, by simp only [ew_10, ew_1, List.set_set]⟩
      · rw [hv_10]
        have hf10_m : w_10[m]? = some (mO 10 [.int 0, .int ch, .int ea, .int fa, .int sv0, .ref (m + 1), .ref (m + 2), .ref (m + 3), .ref (m + 4), .ref (m + 5), .ref (m + 6), .ref (m + 7), .ref (m + 8), .ref (m + 9), .ref (m + 10), .int tn, .int (nI k_1), .int (nI e), .int ln, .int 1, .int 0]) := by rw [ew_10]; exact List.getElem?_set_self (lt_of_get hf1_m)
        have hf10__m___6_ : w_10[(m + 6)]? = some (mI 0 60 tx) := by rw [ew_10, List.getElem?_set_ne (by omega)]; exact hf1__m___6_
        have hf10__m___8_ : w_10[(m + 8)]? = some (mI 0 8 lt_1) := by rw [ew_10, List.getElem?_set_ne (by omega)]; exact hf1__m___8_
        have hf10__m___9_ : w_10[(m + 9)]? = some (mI 0 41 wdF) := by rw [ew_10, List.getElem?_set_ne (by omega)]; exact hf1__m___9_
        have hf10__m___10_ : w_10[(m + 10)]? = some (mI 0 9 waF) := by rw [ew_10, List.getElem?_set_ne (by omega)]; exact hf1__m___10_
        show Wp X 0 0 w_10 [(4, .int 0), (3, .int 0), (2, .int 0), (1, .int 5), (0, .ref m)] [.int 0] 48
        refine r_istore_n hC dX9_command_48 rfl (by rw [hnl]; decide) (L' := [(2, .int 0), (4, .int 0), (3, .int 0), (1, .int 5), (0, .ref m)]) rfl ?_
        refine r_iload_n hC dX9_command_49 rfl (j := 3) rfl ?_
        refine r_iconst hC dX9_command_50 (v := 1) (by decide) ?_
        refine r_icmp_eq hC dX9_command_51 (tgt := 59) (by decide) (fun h => absurd h (by decide)) (fun _ => ?_)
        refine r_iload_n hC dX9_command_54 rfl (j := 3) rfl ?_
        refine r_iconst hC dX9_command_55 (v := 3) (by decide) ?_
        refine r_icmp_ne hC dX9_command_56 (tgt := 72) (by decide) (fun _ => ?_) (fun h => absurd h (by decide))
        refine r_iload_n hC dX9_command_72 rfl (j := 3) rfl ?_
        refine r_iconst hC dX9_command_73 (v := 2) (by decide) ?_
        refine r_icmp_ne hC dX9_command_74 (tgt := 90) (by decide) (fun _ => ?_) (fun h => absurd h (by decide))
        refine r_iload_n hC dX9_command_90 rfl (j := 3) rfl ?_
        refine r_iconst hC dX9_command_91 (v := 1) (by decide) ?_
        refine r_icmp_ne hC dX9_command_92 (tgt := 109) (by decide) (fun _ => ?_) (fun h => absurd h (by decide))
        refine r_aload_n hC dX9_command_109 rfl (j := 4) rfl ?_
        refine r_get hC gX9_command_110 hf10_m (v := .int 1) rfl ?_
        refine r_if_ne hC dX9_command_113 (tgt := 123) (by decide) (fun _ => ?_) (fun h => absurd h (by decide))
        refine r_vret hC hE hR dX9_command_123 (by omega) (by omega) (by simp only [ew_10, ew_1, List.length_set]) ?_
        exact Or.inr ⟨k_1, lt_1, by simp only [pCmd, pArgs, hw_1, hd_10], hk_1, rfl, by simp only [ew_10, ew_1, List.set_set]⟩
    · show Wp X 0 0 w_1 [(0, .ref m)] [.int 6] 4
      refine r_istore_n hC dX9_command_4 rfl (by rw [hnl]; decide) (L' := [(1, .int 6), (0, .ref m)]) rfl ?_
      refine r_iconst hC dX9_command_5 (v := 0) (by decide) ?_
      refine r_istore_n hC dX9_command_6 rfl (by rw [hnl]; decide) (L' := [(2, .int 0), (1, .int 6), (0, .ref m)]) rfl ?_
      refine r_iconst hC dX9_command_7 (v := 0) (by decide) ?_
      refine r_istore_n hC dX9_command_8 rfl (by rw [hnl]; decide) (L' := [(3, .int 0), (2, .int 0), (1, .int 6), (0, .ref m)]) rfl ?_
      refine r_iconst hC dX9_command_9 (v := 0) (by decide) ?_
      refine r_istore hC dX9_command_10 (by rw [hnl]; decide) (L' := [(4, .int 0), (3, .int 0), (2, .int 0), (1, .int 6), (0, .ref m)]) rfl ?_
      refine r_aload_n hC dX9_command_12 rfl (j := 4) rfl ?_
      refine r_get hC gX9_command_13 hf1_m (v := .int 0) rfl ?_
      refine r_if_eq hC dX9_command_16 (tgt := 20) (by decide) (fun _ => ?_) (fun h => absurd (by decide) h)
      refine r_iload_n hC dX9_command_20 rfl (j := 3) rfl ?_
      refine r_iconst hC dX9_command_21 (v := 4) (by decide) ?_
      refine r_icmp_lt hC dX9_command_22 (tgt := 30) (by decide) (fun h => absurd h (by decide)) (fun _ => ?_)
      refine r_iload_n hC dX9_command_25 rfl (j := 3) rfl ?_
      refine r_iconst hC dX9_command_26 (v := 5) (by decide) ?_
      refine r_icmp_ne hC dX9_command_27 (tgt := 49) (by decide) (fun _ => ?_) (fun h => absurd h (by decide))
      refine r_iload_n hC dX9_command_49 rfl (j := 3) rfl ?_
      refine r_iconst hC dX9_command_50 (v := 1) (by decide) ?_
      refine r_icmp_eq hC dX9_command_51 (tgt := 59) (by decide) (fun h => absurd h (by decide)) (fun _ => ?_)
      refine r_iload_n hC dX9_command_54 rfl (j := 3) rfl ?_
      refine r_iconst hC dX9_command_55 (v := 3) (by decide) ?_
      refine r_icmp_ne hC dX9_command_56 (tgt := 72) (by decide) (fun _ => ?_) (fun h => absurd h (by decide))
      refine r_iload_n hC dX9_command_72 rfl (j := 3) rfl ?_
      refine r_iconst hC dX9_command_73 (v := 2) (by decide) ?_
      refine r_icmp_ne hC dX9_command_74 (tgt := 90) (by decide) (fun _ => ?_) (fun h => absurd h (by decide))
      refine r_iload_n hC dX9_command_90 rfl (j := 3) rfl ?_
      refine r_iconst hC dX9_command_91 (v := 1) (by decide) ?_
      refine r_icmp_ne hC dX9_command_92 (tgt := 109) (by decide) (fun _ => ?_) (fun h => absurd h (by decide))
      refine r_aload_n hC dX9_command_109 rfl (j := 4) rfl ?_
      refine r_get hC gX9_command_110 hf1_m (v := .int 0) rfl ?_
      refine r_if_ne hC dX9_command_113 (tgt := 123) (by decide) (fun h => absurd (by decide) h) (fun _ => ?_)
      refine r_aload_n hC dX9_command_116 rfl (j := 4) rfl ?_
      refine r_get hC gX9_command_117 hf1_m (v := .int 0) rfl ?_
      refine r_if_ne hC dX9_command_120 (tgt := 124) (by decide) (fun h => absurd (by decide) h) (fun _ => ?_)
      refine r_vret hC hE hR dX9_command_123 (by omega) (by omega) (by simp only [ew_1, List.length_set]) ?_
      exact Or.inl ⟨(6, 0, 0, 0), k_1, lt_1, by simp only [pCmd, pArgs, hw_1], by have := pWord_gt hw_1; omega, hk_1, rfl, by simp only [ew_1, List.set_set]⟩
    · show Wp X 0 0 w_1 [(0, .ref m)] [.int 7] 4
      refine r_istore_n hC dX9_command_4 rfl (by rw [hnl]; decide) (L' := [(1, .int 7), (0, .ref m)]) rfl ?_
      refine r_iconst hC dX9_command_5 (v := 0) (by decide) ?_
      refine r_istore_n hC dX9_command_6 rfl (by rw [hnl]; decide) (L' := [(2, .int 0), (1, .int 7), (0, .ref m)]) rfl ?_
      refine r_iconst hC dX9_command_7 (v := 0) (by decide) ?_
      refine r_istore_n hC dX9_command_8 rfl (by rw [hnl]; decide) (L' := [(3, .int 0), (2, .int 0), (1, .int 7), (0, .ref m)]) rfl ?_
      refine r_iconst hC dX9_command_9 (v := 0) (by decide) ?_
      refine r_istore hC dX9_command_10 (by rw [hnl]; decide) (L' := [(4, .int 0), (3, .int 0), (2, .int 0), (1, .int 7), (0, .ref m)]) rfl ?_
      refine r_aload_n hC dX9_command_12 rfl (j := 4) rfl ?_
      refine r_get hC gX9_command_13 hf1_m (v := .int 0) rfl ?_
      refine r_if_eq hC dX9_command_16 (tgt := 20) (by decide) (fun _ => ?_) (fun h => absurd (by decide) h)
      refine r_iload_n hC dX9_command_20 rfl (j := 3) rfl ?_
      refine r_iconst hC dX9_command_21 (v := 4) (by decide) ?_
      refine r_icmp_lt hC dX9_command_22 (tgt := 30) (by decide) (fun h => absurd h (by decide)) (fun _ => ?_)
      refine r_iload_n hC dX9_command_25 rfl (j := 3) rfl ?_
      refine r_iconst hC dX9_command_26 (v := 5) (by decide) ?_
      refine r_icmp_ne hC dX9_command_27 (tgt := 49) (by decide) (fun _ => ?_) (fun h => absurd h (by decide))
      refine r_iload_n hC dX9_command_49 rfl (j := 3) rfl ?_
      refine r_iconst hC dX9_command_50 (v := 1) (by decide) ?_
      refine r_icmp_eq hC dX9_command_51 (tgt := 59) (by decide) (fun h => absurd h (by decide)) (fun _ => ?_)
      refine r_iload_n hC dX9_command_54 rfl (j := 3) rfl ?_
      refine r_iconst hC dX9_command_55 (v := 3) (by decide) ?_
      refine r_icmp_ne hC dX9_command_56 (tgt := 72) (by decide) (fun _ => ?_) (fun h => absurd h (by decide))
      refine r_iload_n hC dX9_command_72 rfl (j := 3) rfl ?_
      refine r_iconst hC dX9_command_73 (v := 2) (by decide) ?_
      refine r_icmp_ne hC dX9_command_74 (tgt := 90) (by decide) (fun _ => ?_) (fun h => absurd h (by decide))
      refine r_iload_n hC dX9_command_90 rfl (j := 3) rfl ?_
      refine r_iconst hC dX9_command_91 (v := 1) (by decide) ?_
      refine r_icmp_ne hC dX9_command_92 (tgt := 109) (by decide) (fun _ => ?_) (fun h => absurd h (by decide))
      refine r_aload_n hC dX9_command_109 rfl (j := 4) rfl ?_
      refine r_get hC gX9_command_110 hf1_m (v := .int 0) rfl ?_
      refine r_if_ne hC dX9_command_113 (tgt := 123) (by decide) (fun h => absurd (by decide) h) (fun _ => ?_)
      refine r_aload_n hC dX9_command_116 rfl (j := 4) rfl ?_
      refine r_get hC gX9_command_117 hf1_m (v := .int 0) rfl ?_
      refine r_if_ne hC dX9_command_120 (tgt := 124) (by decide) (fun h => absurd (by decide) h) (fun _ => ?_)
      refine r_vret hC hE hR dX9_command_123 (by omega) (by omega) (by simp only [ew_1, List.length_set]) ?_
      exact Or.inl ⟨(7, 0, 0, 0), k_1, lt_1, by simp only [pCmd, pArgs, hw_1], by have := pWord_gt hw_1; omega, hk_1, rfl, by simp only [ew_1, List.set_set]⟩
  · rw [hv_1]
    have hf1_m : w_1[m]? = some (mO 10 [.int 0, .int ch, .int ea, .int fa, .int sv0, .ref (m + 1), .ref (m + 2), .ref (m + 3), .ref (m + 4), .ref (m + 5), .ref (m + 6), .ref (m + 7), .ref (m + 8), .ref (m + 9), .ref (m + 10), .int tn, .int (nI k_1), .int (nI e), .int ln, .int 1, .int 0]) := by rw [ew_1]; exact List.getElem?_set_self (by simp only [List.length_set]; exact lt_of_get hm)
    have hf1__m___6_ : w_1[(m + 6)]? = some (mI 0 60 tx) := by rw [ew_1, List.getElem?_set_ne (by omega), List.getElem?_set_ne (by omega)]; exact htx
    have hf1__m___8_ : w_1[(m + 8)]? = some (mI 0 8 lt_1) := by rw [ew_1, List.getElem?_set_ne (by omega)]; exact List.getElem?_set_self (lt_of_get hlt)
    have hf1__m___9_ : w_1[(m + 9)]? = some (mI 0 41 wdF) := by rw [ew_1, List.getElem?_set_ne (by omega), List.getElem?_set_ne (by omega)]; exact hwd
    have hf1__m___10_ : w_1[(m + 10)]? = some (mI 0 9 waF) := by rw [ew_1, List.getElem?_set_ne (by omega), List.getElem?_set_ne (by omega)]; exact hwa
    show Wp X 0 0 w_1 [(0, .ref m)] [.int (-1)] 4
    refine r_istore_n hC dX9_command_4 rfl (by rw [hnl]; decide) (L' := [(1, .int (-1)), (0, .ref m)]) rfl ?_
    refine r_iconst hC dX9_command_5 (v := 0) (by decide) ?_
    refine r_istore_n hC dX9_command_6 rfl (by rw [hnl]; decide) (L' := [(2, .int 0), (1, .int (-1)), (0, .ref m)]) rfl ?_
    refine r_iconst hC dX9_command_7 (v := 0) (by decide) ?_
    refine r_istore_n hC dX9_command_8 rfl (by rw [hnl]; decide) (L' := [(3, .int 0), (2, .int 0), (1, .int (-1)), (0, .ref m)]) rfl ?_
    refine r_iconst hC dX9_command_9 (v := 0) (by decide) ?_
    refine r_istore hC dX9_command_10 (by rw [hnl]; decide) (L' := [(4, .int 0), (3, .int 0), (2, .int 0), (1, .int (-1)), (0, .ref m)]) rfl ?_
    refine r_aload_n hC dX9_command_12 rfl (j := 4) rfl ?_
    refine r_get hC gX9_command_13 hf1_m (v := .int 1) rfl ?_
    refine r_if_eq hC dX9_command_16 (tgt := 20) (by decide) (fun h => absurd h (by decide)) (fun _ => ?_)
    refine r_vret hC hE hR dX9_command_19 (by omega) (by omega) (by simp only [ew_1, List.length_set]) ?_
    exact Or.inr ⟨k_1, lt_1, by simp only [pCmd, pArgs, hw_1], hk_1, rfl, by simp only [ew_1, List.set_set]⟩
set_option maxRecDepth 100000 in
set_option maxHeartbeats 4000000 in
theorem sm_command1 {d : Nat} {w : mW} {m : Nat} {ch ea fa sv0 tn ln : Int32} {tx lt : Nat → Int32} {h e : Nat} {f g : Nat → Int32} {sl op lo : Int32} {hd rs : Nat → Int32} {np : Nat} {tp av lg pl tk : Int32} (hm : w[m]? = some (mO 10 [.int 0, .int ch, .int ea, .int fa, .int sv0, .ref (m + 1), .ref (m + 2), .ref (m + 3), .ref (m + 4), .ref (m + 5), .ref (m + 6), .ref (m + 7), .ref (m + 8), .ref (m + 9), .ref (m + 10), .int tn, .int (nI h), .int (nI e), .int ln, .int 0, .int 1])) (hv : w[m + 1]? = some (mI 0 67 (enc ((f, g, sl, op, lo), hd, rs, np, tp, av, lg, pl, tk)))) (htx : w[m + 6]? = some (mI 0 60 tx)) (hlt : w[m + 8]? = some (mI 0 8 lt)) (hwd : w[m + 9]? = some (mI 0 41 wdF)) (hwa : w[m + 10]? = some (mI 0 9 waF)) (he : e ≤ 60) (hh : h ≤ e) (h25 : f 25 = 0) (hop : op = 0 ∨ op = 1) (hlg : ¬ lg < 0) (hnp : np ≤ 4) (hT : ∀ C k, pCmd tx e h = (some C, k) → cmdT9 ((f, g, sl, op, lo), hd, rs, np, tp, av, lg, pl, tk) C) : Sp (d + 9) yX9_command cX9_command 6 none [.ref m] w 0 0 (fun v w' => (∃ C k lt', pCmd tx e h = (some C, k) ∧ h < k ∧ k ≤ e ∧ cmdFlt ((f, g, sl, op, lo), hd, rs, np, tp, av, lg, pl, tk) C = 1000010 ∧ v = none ∧ w' = ((w.set (m + 8) (mI 0 8 lt')).set m (mO 10 [.int 0, .int ch, .int ea, .int fa, .int sv0, .ref (m + 1), .ref (m + 2), .ref (m + 3), .ref (m + 4), .ref (m + 5), .ref (m + 6), .ref (m + 7), .ref (m + 8), .ref (m + 9), .ref (m + 10), .int tn, .int (nI k), .int (nI e), .int ln, .int 0, .int 1])).set (m + 1) (mI 0 67 (enc (cmdDo ((f, g, sl, op, lo), hd, rs, np, tp, av, lg, pl, tk) C)))) ∨ (∃ C k lt' r, pCmd tx e h = (some C, k) ∧ h < k ∧ k ≤ e ∧ ¬ cmdFlt ((f, g, sl, op, lo), hd, rs, np, tp, av, lg, pl, tk) C = 1000010 ∧ ¬ r = 0 ∧ v = none ∧ w' = (w.set (m + 8) (mI 0 8 lt')).set m (mO 10 [.int r, .int ch, .int ea, .int fa, .int sv0, .ref (m + 1), .ref (m + 2), .ref (m + 3), .ref (m + 4), .ref (m + 5), .ref (m + 6), .ref (m + 7), .ref (m + 8), .ref (m + 9), .ref (m + 10), .int tn, .int (nI k), .int (nI e), .int ln, .int 0, .int 1])) ∨ (∃ k lt', pCmd tx e h = (none, k) ∧ k ≤ e ∧ v = none ∧ w' = (w.set (m + 8) (mI 0 8 lt')).set m (mO 10 [.int 0, .int ch, .int ea, .int fa, .int sv0, .ref (m + 1), .ref (m + 2), .ref (m + 3), .ref (m + 4), .ref (m + 5), .ref (m + 6), .ref (m + 7), .ref (m + 8), .ref (m + 9), .ref (m + 10), .int tn, .int (nI k), .int (nI e), .int ln, .int 1, .int 1]))) noX := by
  refine Sp.of (by decide +kernel) (Nat.le_of_ble_eq_true rfl) (fun X hC hnl hE hR hN => ?_)
  have hC : Cx X RX9 cX9_command (d + 9) 0 0 := hC
  show Wp X 0 0 w [(0, .ref m)] [] 0
  refine r_aload_n hC dX9_command_0 rfl (j := 0) rfl ?_
  refine r_callV hC (vs := []) vX9_command_1 (sm_word (d := d + 7) (h := h) (e := e) hlt hm htx he hh hwd hwa) hm rfl rfl (by omega) (by omega) (by omega) (Nat.le_of_ble_eq_true rfl) (fun v_1 w_1 hP_1 hlen_1 => ?_) (fun _ _ h => h.elim)
  rcases hP_1 with ⟨c_1, k_1, lt_1, hw_1, hc8_1, hk_1, hv_1, ew_1⟩ | ⟨k_1, lt_1, hw_1, hk_1, hv_1, ew_1⟩
  · rw [hv_1]
    have hf1_m : w_1[m]? = some (mO 10 [.int 0, .int ch, .int ea, .int fa, .int sv0, .ref (m + 1), .ref (m + 2), .ref (m + 3), .ref (m + 4), .ref (m + 5), .ref (m + 6), .ref (m + 7), .ref (m + 8), .ref (m + 9), .ref (m + 10), .int tn, .int (nI k_1), .int (nI e), .int ln, .int 0, .int 1]) := by rw [ew_1]; exact List.getElem?_set_self (by simp only [List.length_set]; exact lt_of_get hm)
    have hf1__m___6_ : w_1[(m + 6)]? = some (mI 0 60 tx) := by rw [ew_1, List.getElem?_set_ne (by omega), List.getElem?_set_ne (by omega)]; exact htx
    have hf1__m___8_ : w_1[(m + 8)]? = some (mI 0 8 lt_1) := by rw [ew_1, List.getElem?_set_ne (by omega)]; exact List.getElem?_set_self (lt_of_get hlt)
    have hf1__m___9_ : w_1[(m + 9)]? = some (mI 0 41 wdF) := by rw [ew_1, List.getElem?_set_ne (by omega), List.getElem?_set_ne (by omega)]; exact hwd
    have hf1__m___10_ : w_1[(m + 10)]? = some (mI 0 9 waF) := by rw [ew_1, List.getElem?_set_ne (by omega), List.getElem?_set_ne (by omega)]; exact hwa
    have hf1__m___1_ : w_1[(m + 1)]? = some (mI 0 67 (enc ((f, g, sl, op, lo), hd, rs, np, tp, av, lg, pl, tk))) := by rw [ew_1, List.getElem?_set_ne (by omega), List.getElem?_set_ne (by omega)]; exact hv
    show Wp X 0 0 w_1 [(0, .ref m)] [.int (nI c_1)] 4
    rcases (show c_1 = 0 ∨ c_1 = 1 ∨ c_1 = 2 ∨ c_1 = 3 ∨ c_1 = 4 ∨ c_1 = 5 ∨ c_1 = 6 ∨ c_1 = 7 by omega) with rfl | rfl | rfl | rfl | rfl | rfl | rfl | rfl
    · show Wp X 0 0 w_1 [(0, .ref m)] [.int 0] 4
      refine r_istore_n hC dX9_command_4 rfl (by rw [hnl]; decide) (L' := [(1, .int 0), (0, .ref m)]) rfl ?_
      refine r_iconst hC dX9_command_5 (v := 0) (by decide) ?_
      refine r_istore_n hC dX9_command_6 rfl (by rw [hnl]; decide) (L' := [(2, .int 0), (1, .int 0), (0, .ref m)]) rfl ?_
      refine r_iconst hC dX9_command_7 (v := 0) (by decide) ?_
      refine r_istore_n hC dX9_command_8 rfl (by rw [hnl]; decide) (L' := [(3, .int 0), (2, .int 0), (1, .int 0), (0, .ref m)]) rfl ?_
      refine r_iconst hC dX9_command_9 (v := 0) (by decide) ?_
      refine r_istore hC dX9_command_10 (by rw [hnl]; decide) (L' := [(4, .int 0), (3, .int 0), (2, .int 0), (1, .int 0), (0, .ref m)]) rfl ?_
      refine r_aload_n hC dX9_command_12 rfl (j := 4) rfl ?_
      refine r_get hC gX9_command_13 hf1_m (v := .int 0) rfl ?_
      refine r_if_eq hC dX9_command_16 (tgt := 20) (by decide) (fun _ => ?_) (fun h => absurd (by decide) h)
      refine r_iload_n hC dX9_command_20 rfl (j := 3) rfl ?_
      refine r_iconst hC dX9_command_21 (v := 4) (by decide) ?_
      refine r_icmp_lt hC dX9_command_22 (tgt := 30) (by decide) (fun _ => ?_) (fun h => absurd (by decide) h)
      refine r_aload_n hC dX9_command_30 rfl (j := 4) rfl ?_
      refine r_iload_n hC dX9_command_31 rfl (j := 3) rfl ?_
      refine r_if_eq hC dX9_command_32 (tgt := 40) (by decide) (fun _ => ?_) (fun h => absurd (by decide) h)
      refine r_iconst hC dX9_command_40 (v := 2) (by decide) ?_
      refine r_goto hC dX9_command_41 (tgt := 45) (by decide) ?_
      refine r_callV hC (vs := [.int 2]) vX9_command_45 (sm_digits2 (d := d + 7) (h := k_1) (e := e) hf1_m hf1__m___6_ he hk_1) hf1_m rfl rfl (by omega) (by omega) (by omega) (Nat.le_of_ble_eq_true rfl) (fun v_2 w_2 hP_2 hlen_2 => ?_) (fun _ _ h => h.elim)
      rcases hP_2 with ⟨x_2, k_2, hd_2, hk_2, hl_2, hv_2, ew_2⟩ | ⟨hd_2, hv_2, ew_2⟩
      · rw [hv_2]
        have hf2_m : w_2[m]? = some (mO 10 [.int 0, .int ch, .int ea, .int fa, .int sv0, .ref (m + 1), .ref (m + 2), .ref (m + 3), .ref (m + 4), .ref (m + 5), .ref (m + 6), .ref (m + 7), .ref (m + 8), .ref (m + 9), .ref (m + 10), .int tn, .int (nI k_2), .int (nI e), .int ln, .int 0, .int 1]) := by rw [ew_2]; exact List.getElem?_set_self (lt_of_get hf1_m)
        have hf2__m___6_ : w_2[(m + 6)]? = some (mI 0 60 tx) := by rw [ew_2, List.getElem?_set_ne (by omega)]; exact hf1__m___6_
        have hf2__m___8_ : w_2[(m + 8)]? = some (mI 0 8 lt_1) := by rw [ew_2, List.getElem?_set_ne (by omega)]; exact hf1__m___8_
        have hf2__m___9_ : w_2[(m + 9)]? = some (mI 0 41 wdF) := by rw [ew_2, List.getElem?_set_ne (by omega)]; exact hf1__m___9_
        have hf2__m___10_ : w_2[(m + 10)]? = some (mI 0 9 waF) := by rw [ew_2, List.getElem?_set_ne (by omega)]; exact hf1__m___10_
        have hf2__m___1_ : w_2[(m + 1)]? = some (mI 0 67 (enc ((f, g, sl, op, lo), hd, rs, np, tp, av, lg, pl, tk))) := by rw [ew_2, List.getElem?_set_ne (by omega)]; exact hf1__m___1_
        show Wp X 0 0 w_2 [(4, .int 0), (3, .int 0), (2, .int 0), (1, .int 0), (0, .ref m)] [.int x_2] 48
        refine r_istore_n hC dX9_command_48 rfl (by rw [hnl]; decide) (L' := [(2, .int x_2), (4, .int 0), (3, .int 0), (1, .int 0), (0, .ref m)]) rfl ?_
        refine r_iload_n hC dX9_command_49 rfl (j := 3) rfl ?_
        refine r_iconst hC dX9_command_50 (v := 1) (by decide) ?_
        refine r_icmp_eq hC dX9_command_51 (tgt := 59) (by decide) (fun h => absurd h (by decide)) (fun _ => ?_)
        refine r_iload_n hC dX9_command_54 rfl (j := 3) rfl ?_
        refine r_iconst hC dX9_command_55 (v := 3) (by decide) ?_
        refine r_icmp_ne hC dX9_command_56 (tgt := 72) (by decide) (fun _ => ?_) (fun h => absurd h (by decide))
        refine r_iload_n hC dX9_command_72 rfl (j := 3) rfl ?_
        refine r_iconst hC dX9_command_73 (v := 2) (by decide) ?_
        refine r_icmp_ne hC dX9_command_74 (tgt := 90) (by decide) (fun _ => ?_) (fun h => absurd h (by decide))
        refine r_iload_n hC dX9_command_90 rfl (j := 3) rfl ?_
        refine r_iconst hC dX9_command_91 (v := 1) (by decide) ?_
        refine r_icmp_ne hC dX9_command_92 (tgt := 109) (by decide) (fun _ => ?_) (fun h => absurd h (by decide))
        refine r_aload_n hC dX9_command_109 rfl (j := 4) rfl ?_
        refine r_get hC gX9_command_110 hf2_m (v := .int 0) rfl ?_
        refine r_if_ne hC dX9_command_113 (tgt := 123) (by decide) (fun h => absurd (by decide) h) (fun _ => ?_)
        refine r_aload_n hC dX9_command_116 rfl (j := 4) rfl ?_
        refine r_get hC gX9_command_117 hf2_m (v := .int 1) rfl ?_
        refine r_if_ne hC dX9_command_120 (tgt := 124) (by decide) (fun _ => ?_) (fun h => absurd h (by decide))
        refine r_aload_n hC dX9_command_124 rfl (j := 4) rfl ?_
        refine r_iload_n hC dX9_command_125 rfl (j := 3) rfl ?_
        refine r_iload_n hC dX9_command_126 rfl (j := 0) rfl ?_
        refine r_iload_n hC dX9_command_127 rfl (j := 2) rfl ?_
        refine r_iload hC dX9_command_128 (j := 1) rfl ?_
        have e9 : pCmd tx e h = (some (0, x_2, 0, 0), k_2) := by simp only [pCmd, pArgs, hw_1, hd_2]
        refine r_callV hC (vs := [.int 0, .int x_2, .int 0, .int 0]) vX9_command_130 (sm_does0 (d := d) hf2_m hf2__m___1_ h25 hop hlg hnp) hf2_m rfl rfl (by omega) (by omega) (by omega) (Nat.le_of_ble_eq_true rfl) (fun v_3 w_3 hP_3 hlen_3 => ?_) (fun _ _ h => h.elim)
        rcases hP_3 with ⟨he_3, r_3, hv_3, ew_3⟩ | ⟨he_3, r_3, hr_3, hv_3, ew_3⟩
        · rw [hv_3]
          have hf3_m : w_3[m]? = some (mO 10 [.int 0, .int ch, .int ea, .int fa, .int sv0, .ref (m + 1), .ref (m + 2), .ref (m + 3), .ref (m + 4), .ref (m + 5), .ref (m + 6), .ref (m + 7), .ref (m + 8), .ref (m + 9), .ref (m + 10), .int tn, .int (nI k_2), .int (nI e), .int ln, .int 0, .int 1]) := by rw [ew_3, List.getElem?_set_ne (by omega)]; exact hf2_m
          have hf3__m___6_ : w_3[(m + 6)]? = some (mI 0 60 tx) := by rw [ew_3, List.getElem?_set_ne (by omega)]; exact hf2__m___6_
          have hf3__m___8_ : w_3[(m + 8)]? = some (mI 0 8 lt_1) := by rw [ew_3, List.getElem?_set_ne (by omega)]; exact hf2__m___8_
          have hf3__m___9_ : w_3[(m + 9)]? = some (mI 0 41 wdF) := by rw [ew_3, List.getElem?_set_ne (by omega)]; exact hf2__m___9_
          have hf3__m___10_ : w_3[(m + 10)]? = some (mI 0 9 waF) := by rw [ew_3, List.getElem?_set_ne (by omega)]; exact hf2__m___10_
          have hf3__m___1_ : w_3[(m + 1)]? = some (mI 0 67 (enc (((cmdDo ((f, g, sl, op, lo), hd, rs, np, tp, av, lg, pl, tk) (0, x_2, 0, 0)).1.1, (cmdDo ((f, g, sl, op, lo), hd, rs, np, tp, av, lg, pl, tk) (0, x_2, 0, 0)).1.2.1, (cmdDo ((f, g, sl, op, lo), hd, rs, np, tp, av, lg, pl, tk) (0, x_2, 0, 0)).1.2.2.1, (cmdDo ((f, g, sl, op, lo), hd, rs, np, tp, av, lg, pl, tk) (0, x_2, 0, 0)).1.2.2.2.1, (cmdDo ((f, g, sl, op, lo), hd, rs, np, tp, av, lg, pl, tk) (0, x_2, 0, 0)).1.2.2.2.2), (cmdDo ((f, g, sl, op, lo), hd, rs, np, tp, av, lg, pl, tk) (0, x_2, 0, 0)).2.1, (cmdDo ((f, g, sl, op, lo), hd, rs, np, tp, av, lg, pl, tk) (0, x_2, 0, 0)).2.2.1, (cmdDo ((f, g, sl, op, lo), hd, rs, np, tp, av, lg, pl, tk) (0, x_2, 0, 0)).2.2.2.1, (cmdDo ((f, g, sl, op, lo), hd, rs, np, tp, av, lg, pl, tk) (0, x_2, 0, 0)).2.2.2.2.1, (cmdDo ((f, g, sl, op, lo), hd, rs, np, tp, av, lg, pl, tk) (0, x_2, 0, 0)).2.2.2.2.2.1, (cmdDo ((f, g, sl, op, lo), hd, rs, np, tp, av, lg, pl, tk) (0, x_2, 0, 0)).2.2.2.2.2.2.1, (cmdDo ((f, g, sl, op, lo), hd, rs, np, tp, av, lg, pl, tk) (0, x_2, 0, 0)).2.2.2.2.2.2.2.1, (cmdDo ((f, g, sl, op, lo), hd, rs, np, tp, av, lg, pl, tk) (0, x_2, 0, 0)).2.2.2.2.2.2.2.2))) := by rw [ew_3]; exact List.getElem?_set_self (lt_of_get hf2__m___1_)
          show Wp X 0 0 w_3 [(2, .int x_2), (4, .int 0), (3, .int 0), (1, .int 0), (0, .ref m)] [.int r_3] 133
          refine r_istore hC dX9_command_133 (by rw [hnl]; decide) (L' := [(5, .int r_3), (2, .int x_2), (4, .int 0), (3, .int 0), (1, .int 0), (0, .ref m)]) rfl ?_
          refine r_vret hC hE hR dX9_command_135 (by omega) (by omega) (by simp only [ew_3, ew_2, ew_1, List.length_set]) ?_
          exact Or.inl ⟨(0, x_2, 0, 0), k_2, lt_1, e9, by have := pWord_gt hw_1; omega, hk_2, he_3, rfl, by simp only [ew_3, ew_2, ew_1, List.set_set]⟩
        · rw [hv_3]
          have hf3_m : w_3[m]? = some (mO 10 [.int r_3, .int ch, .int ea, .int fa, .int sv0, .ref (m + 1), .ref (m + 2), .ref (m + 3), .ref (m + 4), .ref (m + 5), .ref (m + 6), .ref (m + 7), .ref (m + 8), .ref (m + 9), .ref (m + 10), .int tn, .int (nI k_2), .int (nI e), .int ln, .int 0, .int 1]) := by rw [ew_3]; exact List.getElem?_set_self (lt_of_get hf2_m)
          have hf3__m___6_ : w_3[(m + 6)]? = some (mI 0 60 tx) := by rw [ew_3, List.getElem?_set_ne (by omega)]; exact hf2__m___6_
          have hf3__m___8_ : w_3[(m + 8)]? = some (mI 0 8 lt_1) := by rw [ew_3, List.getElem?_set_ne (by omega)]; exact hf2__m___8_
          have hf3__m___9_ : w_3[(m + 9)]? = some (mI 0 41 wdF) := by rw [ew_3, List.getElem?_set_ne (by omega)]; exact hf2__m___9_
          have hf3__m___10_ : w_3[(m + 10)]? = some (mI 0 9 waF) := by rw [ew_3, List.getElem?_set_ne (by omega)]; exact hf2__m___10_
          have hf3__m___1_ : w_3[(m + 1)]? = some (mI 0 67 (enc ((f, g, sl, op, lo), hd, rs, np, tp, av, lg, pl, tk))) := by rw [ew_3, List.getElem?_set_ne (by omega)]; exact hf2__m___1_
          show Wp X 0 0 w_3 [(2, .int x_2), (4, .int 0), (3, .int 0), (1, .int 0), (0, .ref m)] [.int 0] 133
          refine r_istore hC dX9_command_133 (by rw [hnl]; decide) (L' := [(5, .int 0), (2, .int x_2), (4, .int 0), (3, .int 0), (1, .int 0), (0, .ref m)]) rfl ?_
          refine r_vret hC hE hR dX9_command_135 (by omega) (by omega) (by simp only [ew_3, ew_2, ew_1, List.length_set]) ?_
          exact Or.inr (Or.inl ⟨(0, x_2, 0, 0), k_2, lt_1, r_3, e9, by have := pWord_gt hw_1; omega, hk_2, he_3, hr_3, rfl, by simp only [ew_3, ew_2, ew_1, List.set_set]⟩)
      · rw [hv_2]
        have hf2_m : w_2[m]? = some (mO 10 [.int 0, .int ch, .int ea, .int fa, .int sv0, .ref (m + 1), .ref (m + 2), .ref (m + 3), .ref (m + 4), .ref (m + 5), .ref (m + 6), .ref (m + 7), .ref (m + 8), .ref (m + 9), .ref (m + 10), .int tn, .int (nI k_1), .int (nI e), .int ln, .int 1, .int 1]) := by rw [ew_2]; exact List.getElem?_set_self (lt_of_get hf1_m)
        have hf2__m___6_ : w_2[(m + 6)]? = some (mI 0 60 tx) := by rw [ew_2, List.getElem?_set_ne (by omega)]; exact hf1__m___6_
        have hf2__m___8_ : w_2[(m + 8)]? = some (mI 0 8 lt_1) := by rw [ew_2, List.getElem?_set_ne (by omega)]; exact hf1__m___8_
        have hf2__m___9_ : w_2[(m + 9)]? = some (mI 0 41 wdF) := by rw [ew_2, List.getElem?_set_ne (by omega)]; exact hf1__m___9_
        have hf2__m___10_ : w_2[(m + 10)]? = some (mI 0 9 waF) := by rw [ew_2, List.getElem?_set_ne (by omega)]; exact hf1__m___10_
        have hf2__m___1_ : w_2[(m + 1)]? = some (mI 0 67 (enc ((f, g, sl, op, lo), hd, rs, np, tp, av, lg, pl, tk))) := by rw [ew_2, List.getElem?_set_ne (by omega)]; exact hf1__m___1_
        show Wp X 0 0 w_2 [(4, .int 0), (3, .int 0), (2, .int 0), (1, .int 0), (0, .ref m)] [.int 0] 48
        refine r_istore_n hC dX9_command_48 rfl (by rw [hnl]; decide) (L' := [(2, .int 0), (4, .int 0), (3, .int 0), (1, .int 0), (0, .ref m)]) rfl ?_
        refine r_iload_n hC dX9_command_49 rfl (j := 3) rfl ?_
        refine r_iconst hC dX9_command_50 (v := 1) (by decide) ?_
        refine r_icmp_eq hC dX9_command_51 (tgt := 59) (by decide) (fun h => absurd h (by decide)) (fun _ => ?_)
        refine r_iload_n hC dX9_command_54 rfl (j := 3) rfl ?_
        refine r_iconst hC dX9_command_55 (v := 3) (by decide) ?_
        refine r_icmp_ne hC dX9_command_56 (tgt := 72) (by decide) (fun _ => ?_) (fun h => absurd h (by decide))
        refine r_iload_n hC dX9_command_72 rfl (j := 3) rfl ?_
        refine r_iconst hC dX9_command_73 (v := 2) (by decide) ?_
        refine r_icmp_ne hC dX9_command_74 (tgt := 90) (by decide) (fun _ => ?_) (fun h => absurd h (by decide))
        refine r_iload_n hC dX9_command_90 rfl (j := 3) rfl ?_
        refine r_iconst hC dX9_command_91 (v := 1) (by decide) ?_
        refine r_icmp_ne hC dX9_command_92 (tgt := 109) (by decide) (fun _ => ?_) (fun h => absurd h (by decide))
        refine r_aload_n hC dX9_command_109 rfl (j := 4) rfl ?_
        refine r_get hC gX9_command_110 hf2_m (v := .int 1) rfl ?_
        refine r_if_ne hC dX9_command_113 (tgt := 123) (by decide) (fun _ => ?_) (fun h => absurd h (by decide))
        refine r_vret hC hE hR dX9_command_123 (by omega) (by omega) (by simp only [ew_2, ew_1, List.length_set]) ?_
        exact Or.inr (Or.inr ⟨k_1, lt_1, by simp only [pCmd, pArgs, hw_1, hd_2], hk_1, rfl, by simp only [ew_2, ew_1, List.set_set]⟩)
    · show Wp X 0 0 w_1 [(0, .ref m)] [.int 1] 4
      refine r_istore_n hC dX9_command_4 rfl (by rw [hnl]; decide) (L' := [(1, .int 1), (0, .ref m)]) rfl ?_
      refine r_iconst hC dX9_command_5 (v := 0) (by decide) ?_
      refine r_istore_n hC dX9_command_6 rfl (by rw [hnl]; decide) (L' := [(2, .int 0), (1, .int 1), (0, .ref m)]) rfl ?_
      refine r_iconst hC dX9_command_7 (v := 0) (by decide) ?_
      refine r_istore_n hC dX9_command_8 rfl (by rw [hnl]; decide) (L' := [(3, .int 0), (2, .int 0), (1, .int 1), (0, .ref m)]) rfl ?_
      refine r_iconst hC dX9_command_9 (v := 0) (by decide) ?_
      refine r_istore hC dX9_command_10 (by rw [hnl]; decide) (L' := [(4, .int 0), (3, .int 0), (2, .int 0), (1, .int 1), (0, .ref m)]) rfl ?_
      refine r_aload_n hC dX9_command_12 rfl (j := 4) rfl ?_
      refine r_get hC gX9_command_13 hf1_m (v := .int 0) rfl ?_
      refine r_if_eq hC dX9_command_16 (tgt := 20) (by decide) (fun _ => ?_) (fun h => absurd (by decide) h)
      refine r_iload_n hC dX9_command_20 rfl (j := 3) rfl ?_
      refine r_iconst hC dX9_command_21 (v := 4) (by decide) ?_
      refine r_icmp_lt hC dX9_command_22 (tgt := 30) (by decide) (fun _ => ?_) (fun h => absurd (by decide) h)
      refine r_aload_n hC dX9_command_30 rfl (j := 4) rfl ?_
      refine r_iload_n hC dX9_command_31 rfl (j := 3) rfl ?_
      refine r_if_eq hC dX9_command_32 (tgt := 40) (by decide) (fun h => absurd h (by decide)) (fun _ => ?_)
      refine r_iload_n hC dX9_command_35 rfl (j := 3) rfl ?_
      refine r_iconst hC dX9_command_36 (v := 2) (by decide) ?_
      refine r_icmp_ne hC dX9_command_37 (tgt := 44) (by decide) (fun _ => ?_) (fun h => absurd h (by decide))
      refine r_iconst hC dX9_command_44 (v := 1) (by decide) ?_
      refine r_callV hC (vs := [.int 1]) vX9_command_45 (sm_digits1 (d := d + 7) (h := k_1) (e := e) hf1_m hf1__m___6_ he hk_1) hf1_m rfl rfl (by omega) (by omega) (by omega) (Nat.le_of_ble_eq_true rfl) (fun v_4 w_4 hP_4 hlen_4 => ?_) (fun _ _ h => h.elim)
      rcases hP_4 with ⟨x_4, k_4, hd_4, hk_4, hl_4, hv_4, ew_4⟩ | ⟨hd_4, hv_4, ew_4⟩
      · rw [hv_4]
        have hf4_m : w_4[m]? = some (mO 10 [.int 0, .int ch, .int ea, .int fa, .int sv0, .ref (m + 1), .ref (m + 2), .ref (m + 3), .ref (m + 4), .ref (m + 5), .ref (m + 6), .ref (m + 7), .ref (m + 8), .ref (m + 9), .ref (m + 10), .int tn, .int (nI k_4), .int (nI e), .int ln, .int 0, .int 1]) := by rw [ew_4]; exact List.getElem?_set_self (lt_of_get hf1_m)
        have hf4__m___6_ : w_4[(m + 6)]? = some (mI 0 60 tx) := by rw [ew_4, List.getElem?_set_ne (by omega)]; exact hf1__m___6_
        have hf4__m___8_ : w_4[(m + 8)]? = some (mI 0 8 lt_1) := by rw [ew_4, List.getElem?_set_ne (by omega)]; exact hf1__m___8_
        have hf4__m___9_ : w_4[(m + 9)]? = some (mI 0 41 wdF) := by rw [ew_4, List.getElem?_set_ne (by omega)]; exact hf1__m___9_
        have hf4__m___10_ : w_4[(m + 10)]? = some (mI 0 9 waF) := by rw [ew_4, List.getElem?_set_ne (by omega)]; exact hf1__m___10_
        have hf4__m___1_ : w_4[(m + 1)]? = some (mI 0 67 (enc ((f, g, sl, op, lo), hd, rs, np, tp, av, lg, pl, tk))) := by rw [ew_4, List.getElem?_set_ne (by omega)]; exact hf1__m___1_
        show Wp X 0 0 w_4 [(4, .int 0), (3, .int 0), (2, .int 0), (1, .int 1), (0, .ref m)] [.int x_4] 48
        refine r_istore_n hC dX9_command_48 rfl (by rw [hnl]; decide) (L' := [(2, .int x_4), (4, .int 0), (3, .int 0), (1, .int 1), (0, .ref m)]) rfl ?_
        refine r_iload_n hC dX9_command_49 rfl (j := 3) rfl ?_
        refine r_iconst hC dX9_command_50 (v := 1) (by decide) ?_
        refine r_icmp_eq hC dX9_command_51 (tgt := 59) (by decide) (fun _ => ?_) (fun h => absurd (by decide) h)
        refine r_aload_n hC dX9_command_59 rfl (j := 4) rfl ?_
        refine r_get hC gX9_command_60 hf4_m (v := .int 0) rfl ?_
        refine r_if_ne hC dX9_command_63 (tgt := 72) (by decide) (fun h => absurd (by decide) h) (fun _ => ?_)
        refine r_aload_n hC dX9_command_66 rfl (j := 4) rfl ?_
        refine r_iconst hC dX9_command_67 (v := 2) (by decide) ?_
        refine r_callV hC (vs := [.int 2]) vX9_command_68 (sm_behind2 (d := d + 6) (h := k_4) (e := e) hf4_m hf4__m___6_ he hk_4) hf4_m rfl rfl (by omega) (by omega) (by omega) (Nat.le_of_ble_eq_true rfl) (fun v_5 w_5 hP_5 hlen_5 => ?_) (fun _ _ h => h.elim)
        rcases hP_5 with ⟨x_5, k_5, hd_5, hk_5, hl_5, hv_5, ew_5⟩ | ⟨k_5, hd_5, hk_5, hv_5, ew_5⟩
        · rw [hv_5]
          have hf5_m : w_5[m]? = some (mO 10 [.int 0, .int ch, .int ea, .int fa, .int sv0, .ref (m + 1), .ref (m + 2), .ref (m + 3), .ref (m + 4), .ref (m + 5), .ref (m + 6), .ref (m + 7), .ref (m + 8), .ref (m + 9), .ref (m + 10), .int tn, .int (nI k_5), .int (nI e), .int ln, .int 0, .int 1]) := by rw [ew_5]; exact List.getElem?_set_self (lt_of_get hf4_m)
          have hf5__m___6_ : w_5[(m + 6)]? = some (mI 0 60 tx) := by rw [ew_5, List.getElem?_set_ne (by omega)]; exact hf4__m___6_
          have hf5__m___8_ : w_5[(m + 8)]? = some (mI 0 8 lt_1) := by rw [ew_5, List.getElem?_set_ne (by omega)]; exact hf4__m___8_
          have hf5__m___9_ : w_5[(m + 9)]? = some (mI 0 41 wdF) := by rw [ew_5, List.getElem?_set_ne (by omega)]; exact hf4__m___9_
          have hf5__m___10_ : w_5[(m + 10)]? = some (mI 0 9 waF) := by rw [ew_5, List.getElem?_set_ne (by omega)]; exact hf4__m___10_
          have hf5__m___1_ : w_5[(m + 1)]? = some (mI 0 67 (enc ((f, g, sl, op, lo), hd, rs, np, tp, av, lg, pl, tk))) := by rw [ew_5, List.getElem?_set_ne (by omega)]; exact hf4__m___1_
          show Wp X 0 0 w_5 [(2, .int x_4), (4, .int 0), (3, .int 0), (1, .int 1), (0, .ref m)] [.int x_5] 71
          refine r_istore_n hC dX9_command_71 rfl (by rw [hnl]; decide) (L' := [(3, .int x_5), (2, .int x_4), (4, .int 0), (1, .int 1), (0, .ref m)]) rfl ?_
          refine r_iload_n hC dX9_command_72 rfl (j := 3) rfl ?_
          refine r_iconst hC dX9_command_73 (v := 2) (by decide) ?_
          refine r_icmp_ne hC dX9_command_74 (tgt := 90) (by decide) (fun _ => ?_) (fun h => absurd h (by decide))
          refine r_iload_n hC dX9_command_90 rfl (j := 3) rfl ?_
          refine r_iconst hC dX9_command_91 (v := 1) (by decide) ?_
          refine r_icmp_ne hC dX9_command_92 (tgt := 109) (by decide) (fun h => absurd (by decide) h) (fun _ => ?_)
          refine r_aload_n hC dX9_command_95 rfl (j := 4) rfl ?_
          refine r_get hC gX9_command_96 hf5_m (v := .int 0) rfl ?_
          refine r_if_ne hC dX9_command_99 (tgt := 109) (by decide) (fun h => absurd (by decide) h) (fun _ => ?_)
          refine r_aload_n hC dX9_command_102 rfl (j := 4) rfl ?_
          refine r_iconst hC dX9_command_103 (v := 1) (by decide) ?_
          refine r_callV hC (vs := [.int 1]) vX9_command_104 (sm_behind1 (d := d + 6) (h := k_5) (e := e) hf5_m hf5__m___6_ he hk_5) hf5_m rfl rfl (by omega) (by omega) (by omega) (Nat.le_of_ble_eq_true rfl) (fun v_6 w_6 hP_6 hlen_6 => ?_) (fun _ _ h => h.elim)
          rcases hP_6 with ⟨x_6, k_6, hd_6, hk_6, hl_6, hv_6, ew_6⟩ | ⟨k_6, hd_6, hk_6, hv_6, ew_6⟩
          · rw [hv_6]
            have hf6_m : w_6[m]? = some (mO 10 [.int 0, .int ch, .int ea, .int fa, .int sv0, .ref (m + 1), .ref (m + 2), .ref (m + 3), .ref (m + 4), .ref (m + 5), .ref (m + 6), .ref (m + 7), .ref (m + 8), .ref (m + 9), .ref (m + 10), .int tn, .int (nI k_6), .int (nI e), .int ln, .int 0, .int 1]) := by rw [ew_6]; exact List.getElem?_set_self (lt_of_get hf5_m)
            have hf6__m___6_ : w_6[(m + 6)]? = some (mI 0 60 tx) := by rw [ew_6, List.getElem?_set_ne (by omega)]; exact hf5__m___6_
            have hf6__m___8_ : w_6[(m + 8)]? = some (mI 0 8 lt_1) := by rw [ew_6, List.getElem?_set_ne (by omega)]; exact hf5__m___8_
            have hf6__m___9_ : w_6[(m + 9)]? = some (mI 0 41 wdF) := by rw [ew_6, List.getElem?_set_ne (by omega)]; exact hf5__m___9_
            have hf6__m___10_ : w_6[(m + 10)]? = some (mI 0 9 waF) := by rw [ew_6, List.getElem?_set_ne (by omega)]; exact hf5__m___10_
            have hf6__m___1_ : w_6[(m + 1)]? = some (mI 0 67 (enc ((f, g, sl, op, lo), hd, rs, np, tp, av, lg, pl, tk))) := by rw [ew_6, List.getElem?_set_ne (by omega)]; exact hf5__m___1_
            show Wp X 0 0 w_6 [(3, .int x_5), (2, .int x_4), (4, .int 0), (1, .int 1), (0, .ref m)] [.int x_6] 107
            refine r_istore hC dX9_command_107 (by rw [hnl]; decide) (L' := [(4, .int x_6), (3, .int x_5), (2, .int x_4), (1, .int 1), (0, .ref m)]) rfl ?_
            refine r_aload_n hC dX9_command_109 rfl (j := 4) rfl ?_
            refine r_get hC gX9_command_110 hf6_m (v := .int 0) rfl ?_
            refine r_if_ne hC dX9_command_113 (tgt := 123) (by decide) (fun h => absurd (by decide) h) (fun _ => ?_)
            refine r_aload_n hC dX9_command_116 rfl (j := 4) rfl ?_
            refine r_get hC gX9_command_117 hf6_m (v := .int 1) rfl ?_
            refine r_if_ne hC dX9_command_120 (tgt := 124) (by decide) (fun _ => ?_) (fun h => absurd h (by decide))
            refine r_aload_n hC dX9_command_124 rfl (j := 4) rfl ?_
            refine r_iload_n hC dX9_command_125 rfl (j := 3) rfl ?_
            refine r_iload_n hC dX9_command_126 rfl (j := 2) rfl ?_
            refine r_iload_n hC dX9_command_127 rfl (j := 1) rfl ?_
            refine r_iload hC dX9_command_128 (j := 0) rfl ?_
            have e9 : pCmd tx e h = (some (1, x_4, x_5, x_6), k_6) := by simp only [pCmd, pArgs, hw_1, hd_4, hd_5, hd_6]
            refine r_callV hC (vs := [.int 1, .int x_4, .int x_5, .int x_6]) vX9_command_130 (sm_does1 (d := d) hf6_m hf6__m___1_ h25 hop hlg hnp (((hT _ _ e9).resolve_left (show ¬ (1 : Nat) = 0 by decide)).resolve_left (show ¬ (1 : Nat) = 4 by decide))) hf6_m rfl rfl (by omega) (by omega) (by omega) (Nat.le_of_ble_eq_true rfl) (fun v_7 w_7 hP_7 hlen_7 => ?_) (fun _ _ h => h.elim)
            rcases hP_7 with ⟨he_7, r_7, hv_7, ew_7⟩ | ⟨he_7, r_7, hr_7, hv_7, ew_7⟩
            · rw [hv_7]
              have hf7_m : w_7[m]? = some (mO 10 [.int 0, .int ch, .int ea, .int fa, .int sv0, .ref (m + 1), .ref (m + 2), .ref (m + 3), .ref (m + 4), .ref (m + 5), .ref (m + 6), .ref (m + 7), .ref (m + 8), .ref (m + 9), .ref (m + 10), .int tn, .int (nI k_6), .int (nI e), .int ln, .int 0, .int 1]) := by rw [ew_7, List.getElem?_set_ne (by omega)]; exact hf6_m
              have hf7__m___6_ : w_7[(m + 6)]? = some (mI 0 60 tx) := by rw [ew_7, List.getElem?_set_ne (by omega)]; exact hf6__m___6_
              have hf7__m___8_ : w_7[(m + 8)]? = some (mI 0 8 lt_1) := by rw [ew_7, List.getElem?_set_ne (by omega)]; exact hf6__m___8_
              have hf7__m___9_ : w_7[(m + 9)]? = some (mI 0 41 wdF) := by rw [ew_7, List.getElem?_set_ne (by omega)]; exact hf6__m___9_
              have hf7__m___10_ : w_7[(m + 10)]? = some (mI 0 9 waF) := by rw [ew_7, List.getElem?_set_ne (by omega)]; exact hf6__m___10_
              have hf7__m___1_ : w_7[(m + 1)]? = some (mI 0 67 (enc (((cmdDo ((f, g, sl, op, lo), hd, rs, np, tp, av, lg, pl, tk) (1, x_4, x_5, x_6)).1.1, (cmdDo ((f, g, sl, op, lo), hd, rs, np, tp, av, lg, pl, tk) (1, x_4, x_5, x_6)).1.2.1, (cmdDo ((f, g, sl, op, lo), hd, rs, np, tp, av, lg, pl, tk) (1, x_4, x_5, x_6)).1.2.2.1, (cmdDo ((f, g, sl, op, lo), hd, rs, np, tp, av, lg, pl, tk) (1, x_4, x_5, x_6)).1.2.2.2.1, (cmdDo ((f, g, sl, op, lo), hd, rs, np, tp, av, lg, pl, tk) (1, x_4, x_5, x_6)).1.2.2.2.2), (cmdDo ((f, g, sl, op, lo), hd, rs, np, tp, av, lg, pl, tk) (1, x_4, x_5, x_6)).2.1, (cmdDo ((f, g, sl, op, lo), hd, rs, np, tp, av, lg, pl, tk) (1, x_4, x_5, x_6)).2.2.1, (cmdDo ((f, g, sl, op, lo), hd, rs, np, tp, av, lg, pl, tk) (1, x_4, x_5, x_6)).2.2.2.1, (cmdDo ((f, g, sl, op, lo), hd, rs, np, tp, av, lg, pl, tk) (1, x_4, x_5, x_6)).2.2.2.2.1, (cmdDo ((f, g, sl, op, lo), hd, rs, np, tp, av, lg, pl, tk) (1, x_4, x_5, x_6)).2.2.2.2.2.1, (cmdDo ((f, g, sl, op, lo), hd, rs, np, tp, av, lg, pl, tk) (1, x_4, x_5, x_6)).2.2.2.2.2.2.1, (cmdDo ((f, g, sl, op, lo), hd, rs, np, tp, av, lg, pl, tk) (1, x_4, x_5, x_6)).2.2.2.2.2.2.2.1, (cmdDo ((f, g, sl, op, lo), hd, rs, np, tp, av, lg, pl, tk) (1, x_4, x_5, x_6)).2.2.2.2.2.2.2.2))) := by rw [ew_7]; exact List.getElem?_set_self (lt_of_get hf6__m___1_)
              show Wp X 0 0 w_7 [(4, .int x_6), (3, .int x_5), (2, .int x_4), (1, .int 1), (0, .ref m)] [.int r_7] 133
              refine r_istore hC dX9_command_133 (by rw [hnl]; decide) (L' := [(5, .int r_7), (4, .int x_6), (3, .int x_5), (2, .int x_4), (1, .int 1), (0, .ref m)]) rfl ?_
              refine r_vret hC hE hR dX9_command_135 (by omega) (by omega) (by simp only [ew_7, ew_6, ew_5, ew_4, ew_1, List.length_set]) ?_
              exact Or.inl ⟨(1, x_4, x_5, x_6), k_6, lt_1, e9, by have := pWord_gt hw_1; omega, hk_6, he_7, rfl, by simp only [ew_7, ew_6, ew_5, ew_4, ew_1, List.set_set]⟩
            · rw [hv_7]
              have hf7_m : w_7[m]? = some (mO 10 [.int r_7, .int ch, .int ea, .int fa, .int sv0, .ref (m + 1), .ref (m + 2), .ref (m + 3), .ref (m + 4), .ref (m + 5), .ref (m + 6), .ref (m + 7), .ref (m + 8), .ref (m + 9), .ref (m + 10), .int tn, .int (nI k_6), .int (nI e), .int ln, .int 0, .int 1]) := by rw [ew_7]; exact List.getElem?_set_self (lt_of_get hf6_m)
              have hf7__m___6_ : w_7[(m + 6)]? = some (mI 0 60 tx) := by rw [ew_7, List.getElem?_set_ne (by omega)]; exact hf6__m___6_
              have hf7__m___8_ : w_7[(m + 8)]? = some (mI 0 8 lt_1) := by rw [ew_7, List.getElem?_set_ne (by omega)]; exact hf6__m___8_
              have hf7__m___9_ : w_7[(m + 9)]? = some (mI 0 41 wdF) := by rw [ew_7, List.getElem?_set_ne (by omega)]; exact hf6__m___9_
              have hf7__m___10_ : w_7[(m + 10)]? = some (mI 0 9 waF) := by rw [ew_7, List.getElem?_set_ne (by omega)]; exact hf6__m___10_
              have hf7__m___1_ : w_7[(m + 1)]? = some (mI 0 67 (enc ((f, g, sl, op, lo), hd, rs, np, tp, av, lg, pl, tk))) := by rw [ew_7, List.getElem?_set_ne (by omega)]; exact hf6__m___1_
              show Wp X 0 0 w_7 [(4, .int x_6), (3, .int x_5), (2, .int x_4), (1, .int 1), (0, .ref m)] [.int 0] 133
              refine r_istore hC dX9_command_133 (by rw [hnl]; decide) (L' := [(5, .int 0), (4, .int x_6), (3, .int x_5), (2, .int x_4), (1, .int 1), (0, .ref m)]) rfl ?_
              refine r_vret hC hE hR dX9_command_135 (by omega) (by omega) (by simp only [ew_7, ew_6, ew_5, ew_4, ew_1, List.length_set]) ?_
              exact Or.inr (Or.inl ⟨(1, x_4, x_5, x_6), k_6, lt_1, r_7, e9, by have := pWord_gt hw_1; omega, hk_6, he_7, hr_7, rfl, by simp only [ew_7, ew_6, ew_5, ew_4, ew_1, List.set_set]⟩)
          · rw [hv_6]
            have hf6_m : w_6[m]? = some (mO 10 [.int 0, .int ch, .int ea, .int fa, .int sv0, .ref (m + 1), .ref (m + 2), .ref (m + 3), .ref (m + 4), .ref (m + 5), .ref (m + 6), .ref (m + 7), .ref (m + 8), .ref (m + 9), .ref (m + 10), .int tn, .int (nI k_6), .int (nI e), .int ln, .int 1, .int 1]) := by rw [ew_6]; exact List.getElem?_set_self (lt_of_get hf5_m)
            have hf6__m___6_ : w_6[(m + 6)]? = some (mI 0 60 tx) := by rw [ew_6, List.getElem?_set_ne (by omega)]; exact hf5__m___6_
            have hf6__m___8_ : w_6[(m + 8)]? = some (mI 0 8 lt_1) := by rw [ew_6, List.getElem?_set_ne (by omega)]; exact hf5__m___8_
            have hf6__m___9_ : w_6[(m + 9)]? = some (mI 0 41 wdF) := by rw [ew_6, List.getElem?_set_ne (by omega)]; exact hf5__m___9_
            have hf6__m___10_ : w_6[(m + 10)]? = some (mI 0 9 waF) := by rw [ew_6, List.getElem?_set_ne (by omega)]; exact hf5__m___10_
            have hf6__m___1_ : w_6[(m + 1)]? = some (mI 0 67 (enc ((f, g, sl, op, lo), hd, rs, np, tp, av, lg, pl, tk))) := by rw [ew_6, List.getElem?_set_ne (by omega)]; exact hf5__m___1_
            show Wp X 0 0 w_6 [(3, .int x_5), (2, .int x_4), (4, .int 0), (1, .int 1), (0, .ref m)] [.int 0] 107
            refine r_istore hC dX9_command_107 (by rw [hnl]; decide) (L' := [(4, .int 0), (3, .int x_5), (2, .int x_4), (1, .int 1), (0, .ref m)]) rfl ?_
            refine r_aload_n hC dX9_command_109 rfl (j := 4) rfl ?_
            refine r_get hC gX9_command_110 hf6_m (v := .int 1) rfl ?_
            refine r_if_ne hC dX9_command_113 (tgt := 123) (by decide) (fun _ => ?_) (fun h => absurd h (by decide))
            refine r_vret hC hE hR dX9_command_123 (by omega) (by omega) (by simp only [ew_6, ew_5, ew_4, ew_1, List.length_set]) ?_
            exact Or.inr (Or.inr ⟨k_6, lt_1, by simp only [pCmd, pArgs, hw_1, hd_4, hd_5, hd_6], hk_6, rfl, by simp only [ew_6, ew_5, ew_4, ew_1, List.set_set]⟩)
        · rw [hv_5]
          have hf5_m : w_5[m]? = some (mO 10 [.int 0, .int ch, .int ea, .int fa, .int sv0, .ref (m + 1), .ref (m + 2), .ref (m + 3), .ref (m + 4), .ref (m + 5), .ref (m + 6), .ref (m + 7), .ref (m + 8), .ref (m + 9), .ref (m + 10), .int tn, .int (nI k_5), .int (nI e), .int ln, .int 1, .int 1]) := by rw [ew_5]; exact List.getElem?_set_self (lt_of_get hf4_m)
          have hf5__m___6_ : w_5[(m + 6)]? = some (mI 0 60 tx) := by rw [ew_5, List.getElem?_set_ne (by omega)]; exact hf4__m___6_
          have hf5__m___8_ : w_5[(m + 8)]? = some (mI 0 8 lt_1) := by rw [ew_5, List.getElem?_set_ne (by omega)]; exact hf4__m___8_
          have hf5__m___9_ : w_5[(m + 9)]? = some (mI 0 41 wdF) := by rw [ew_5, List.getElem?_set_ne (by omega)]; exact hf4__m___9_
          have hf5__m___10_ : w_5[(m + 10)]? = some (mI 0 9 waF) := by rw [ew_5, List.getElem?_set_ne (by omega)]; exact hf4__m___10_
          have hf5__m___1_ : w_5[(m + 1)]? = some (mI 0 67 (enc ((f, g, sl, op, lo), hd, rs, np, tp, av, lg, pl, tk))) := by rw [ew_5, List.getElem?_set_ne (by omega)]; exact hf4__m___1_
          show Wp X 0 0 w_5 [(2, .int x_4), (4, .int 0), (3, .int 0), (1, .int 1), (0, .ref m)] [.int 0] 71
          refine r_istore_n hC dX9_command_71 rfl (by rw [hnl]; decide) (L' := [(3, .int 0), (2, .int x_4), (4, .int 0), (1, .int 1), (0, .ref m)]) rfl ?_
          refine r_iload_n hC dX9_command_72 rfl (j := 3) rfl ?_
          refine r_iconst hC dX9_command_73 (v := 2) (by decide) ?_
          refine r_icmp_ne hC dX9_command_74 (tgt := 90) (by decide) (fun _ => ?_) (fun h => absurd h (by decide))
          refine r_iload_n hC dX9_command_90 rfl (j := 3) rfl ?_
          refine r_iconst hC dX9_command_91 (v := 1) (by decide) ?_
          refine r_icmp_ne hC dX9_command_92 (tgt := 109) (by decide) (fun h => absurd (by decide) h) (fun _ => ?_)
          refine r_aload_n hC dX9_command_95 rfl (j := 4) rfl ?_
          refine r_get hC gX9_command_96 hf5_m (v := .int 1) rfl ?_
          refine r_if_ne hC dX9_command_99 (tgt := 109) (by decide) (fun _ => ?_) (fun h => absurd h (by decide))
          refine r_aload_n hC dX9_command_109 rfl (j := 4) rfl ?_
          refine r_get hC gX9_command_110 hf5_m (v := .int 1) rfl ?_
          refine r_if_ne hC dX9_command_113 (tgt := 123) (by decide) (fun _ => ?_) (fun h => absurd h (by decide))
          refine r_vret hC hE hR dX9_command_123 (by omega) (by omega) (by simp only [ew_5, ew_4, ew_1, List.length_set]) ?_
          exact Or.inr (Or.inr ⟨k_5, lt_1, by simp only [pCmd, pArgs, hw_1, hd_4, hd_5], hk_5, rfl, by simp only [ew_5, ew_4, ew_1, List.set_set]⟩)
      · rw [hv_4]
        have hf4_m : w_4[m]? = some (mO 10 [.int 0, .int ch, .int ea, .int fa, .int sv0, .ref (m + 1), .ref (m + 2), .ref (m + 3), .ref (m + 4), .ref (m + 5), .ref (m + 6), .ref (m + 7), .ref (m + 8), .ref (m + 9), .ref (m + 10), .int tn, .int (nI k_1), .int (nI e), .int ln, .int 1, .int 1]) := by rw [ew_4]; exact List.getElem?_set_self (lt_of_get hf1_m)
        have hf4__m___6_ : w_4[(m + 6)]? = some (mI 0 60 tx) := by rw [ew_4, List.getElem?_set_ne (by omega)]; exact hf1__m___6_
        have hf4__m___8_ : w_4[(m + 8)]? = some (mI 0 8 lt_1) := by rw [ew_4, List.getElem?_set_ne (by omega)]; exact hf1__m___8_
        have hf4__m___9_ : w_4[(m + 9)]? = some (mI 0 41 wdF) := by rw [ew_4, List.getElem?_set_ne (by omega)]; exact hf1__m___9_
        have hf4__m___10_ : w_4[(m + 10)]? = some (mI 0 9 waF) := by rw [ew_4, List.getElem?_set_ne (by omega)]; exact hf1__m___10_
        have hf4__m___1_ : w_4[(m + 1)]? = some (mI 0 67 (enc ((f, g, sl, op, lo), hd, rs, np, tp, av, lg, pl, tk))) := by rw [ew_4, List.getElem?_set_ne (by omega)]; exact hf1__m___1_
        show Wp X 0 0 w_4 [(4, .int 0), (3, .int 0), (2, .int 0), (1, .int 1), (0, .ref m)] [.int 0] 48
        refine r_istore_n hC dX9_command_48 rfl (by rw [hnl]; decide) (L' := [(2, .int 0), (4, .int 0), (3, .int 0), (1, .int 1), (0, .ref m)]) rfl ?_
        refine r_iload_n hC dX9_command_49 rfl (j := 3) rfl ?_
        refine r_iconst hC dX9_command_50 (v := 1) (by decide) ?_
        refine r_icmp_eq hC dX9_command_51 (tgt := 59) (by decide) (fun _ => ?_) (fun h => absurd (by decide) h)
        refine r_aload_n hC dX9_command_59 rfl (j := 4) rfl ?_
        refine r_get hC gX9_command_60 hf4_m (v := .int 1) rfl ?_
        refine r_if_ne hC dX9_command_63 (tgt := 72) (by decide) (fun _ => ?_) (fun h => absurd h (by decide))
        refine r_iload_n hC dX9_command_72 rfl (j := 3) rfl ?_
        refine r_iconst hC dX9_command_73 (v := 2) (by decide) ?_
        refine r_icmp_ne hC dX9_command_74 (tgt := 90) (by decide) (fun _ => ?_) (fun h => absurd h (by decide))
        refine r_iload_n hC dX9_command_90 rfl (j := 3) rfl ?_
        refine r_iconst hC dX9_command_91 (v := 1) (by decide) ?_
        refine r_icmp_ne hC dX9_command_92 (tgt := 109) (by decide) (fun h => absurd (by decide) h) (fun _ => ?_)
        refine r_aload_n hC dX9_command_95 rfl (j := 4) rfl ?_
        refine r_get hC gX9_command_96 hf4_m (v := .int 1) rfl ?_
        refine r_if_ne hC dX9_command_99 (tgt := 109) (by decide) (fun _ => ?_) (fun h => absurd h (by decide))
        refine r_aload_n hC dX9_command_109 rfl (j := 4) rfl ?_
        refine r_get hC gX9_command_110 hf4_m (v := .int 1) rfl ?_
        refine r_if_ne hC dX9_command_113 (tgt := 123) (by decide) (fun _ => ?_) (fun h => absurd h (by decide))
        refine r_vret hC hE hR dX9_command_123 (by omega) (by omega) (by simp only [ew_4, ew_1, List.length_set]) ?_
        exact Or.inr (Or.inr ⟨k_1, lt_1, by simp only [pCmd, pArgs, hw_1, hd_4], hk_1, rfl, by simp only [ew_4, ew_1, List.set_set]⟩)
    · show Wp X 0 0 w_1 [(0, .ref m)] [.int 2] 4
      refine r_istore_n hC dX9_command_4 rfl (by rw [hnl]; decide) (L' := [(1, .int 2), (0, .ref m)]) rfl ?_
      refine r_iconst hC dX9_command_5 (v := 0) (by decide) ?_
      refine r_istore_n hC dX9_command_6 rfl (by rw [hnl]; decide) (L' := [(2, .int 0), (1, .int 2), (0, .ref m)]) rfl ?_
      refine r_iconst hC dX9_command_7 (v := 0) (by decide) ?_
      refine r_istore_n hC dX9_command_8 rfl (by rw [hnl]; decide) (L' := [(3, .int 0), (2, .int 0), (1, .int 2), (0, .ref m)]) rfl ?_
      refine r_iconst hC dX9_command_9 (v := 0) (by decide) ?_
      refine r_istore hC dX9_command_10 (by rw [hnl]; decide) (L' := [(4, .int 0), (3, .int 0), (2, .int 0), (1, .int 2), (0, .ref m)]) rfl ?_
      refine r_aload_n hC dX9_command_12 rfl (j := 4) rfl ?_
      refine r_get hC gX9_command_13 hf1_m (v := .int 0) rfl ?_
      refine r_if_eq hC dX9_command_16 (tgt := 20) (by decide) (fun _ => ?_) (fun h => absurd (by decide) h)
      refine r_iload_n hC dX9_command_20 rfl (j := 3) rfl ?_
      refine r_iconst hC dX9_command_21 (v := 4) (by decide) ?_
      refine r_icmp_lt hC dX9_command_22 (tgt := 30) (by decide) (fun _ => ?_) (fun h => absurd (by decide) h)
      refine r_aload_n hC dX9_command_30 rfl (j := 4) rfl ?_
      refine r_iload_n hC dX9_command_31 rfl (j := 3) rfl ?_
      refine r_if_eq hC dX9_command_32 (tgt := 40) (by decide) (fun h => absurd h (by decide)) (fun _ => ?_)
      refine r_iload_n hC dX9_command_35 rfl (j := 3) rfl ?_
      refine r_iconst hC dX9_command_36 (v := 2) (by decide) ?_
      refine r_icmp_ne hC dX9_command_37 (tgt := 44) (by decide) (fun h => absurd (by decide) h) (fun _ => ?_)
      refine r_iconst hC dX9_command_40 (v := 2) (by decide) ?_
      refine r_goto hC dX9_command_41 (tgt := 45) (by decide) ?_
      refine r_callV hC (vs := [.int 2]) vX9_command_45 (sm_digits2 (d := d + 7) (h := k_1) (e := e) hf1_m hf1__m___6_ he hk_1) hf1_m rfl rfl (by omega) (by omega) (by omega) (Nat.le_of_ble_eq_true rfl) (fun v_8 w_8 hP_8 hlen_8 => ?_) (fun _ _ h => h.elim)
      rcases hP_8 with ⟨x_8, k_8, hd_8, hk_8, hl_8, hv_8, ew_8⟩ | ⟨hd_8, hv_8, ew_8⟩
      · rw [hv_8]
        have hf8_m : w_8[m]? = some (mO 10 [.int 0, .int ch, .int ea, .int fa, .int sv0, .ref (m + 1), .ref (m + 2), .ref (m + 3), .ref (m + 4), .ref (m + 5), .ref (m + 6), .ref (m + 7), .ref (m + 8), .ref (m + 9), .ref (m + 10), .int tn, .int (nI k_8), .int (nI e), .int ln, .int 0, .int 1]) := by rw [ew_8]; exact List.getElem?_set_self (lt_of_get hf1_m)
        have hf8__m___6_ : w_8[(m + 6)]? = some (mI 0 60 tx) := by rw [ew_8, List.getElem?_set_ne (by omega)]; exact hf1__m___6_
        have hf8__m___8_ : w_8[(m + 8)]? = some (mI 0 8 lt_1) := by rw [ew_8, List.getElem?_set_ne (by omega)]; exact hf1__m___8_
        have hf8__m___9_ : w_8[(m + 9)]? = some (mI 0 41 wdF) := by rw [ew_8, List.getElem?_set_ne (by omega)]; exact hf1__m___9_
        have hf8__m___10_ : w_8[(m + 10)]? = some (mI 0 9 waF) := by rw [ew_8, List.getElem?_set_ne (by omega)]; exact hf1__m___10_
        have hf8__m___1_ : w_8[(m + 1)]? = some (mI 0 67 (enc ((f, g, sl, op, lo), hd, rs, np, tp, av, lg, pl, tk))) := by rw [ew_8, List.getElem?_set_ne (by omega)]; exact hf1__m___1_
        show Wp X 0 0 w_8 [(4, .int 0), (3, .int 0), (2, .int 0), (1, .int 2), (0, .ref m)] [.int x_8] 48
        refine r_istore_n hC dX9_command_48 rfl (by rw [hnl]; decide) (L' := [(2, .int x_8), (4, .int 0), (3, .int 0), (1, .int 2), (0, .ref m)]) rfl ?_
        refine r_iload_n hC dX9_command_49 rfl (j := 3) rfl ?_
        refine r_iconst hC dX9_command_50 (v := 1) (by decide) ?_
        refine r_icmp_eq hC dX9_command_51 (tgt := 59) (by decide) (fun h => absurd h (by decide)) (fun _ => ?_)
        refine r_iload_n hC dX9_command_54 rfl (j := 3) rfl ?_
        refine r_iconst hC dX9_command_55 (v := 3) (by decide) ?_
        refine r_icmp_ne hC dX9_command_56 (tgt := 72) (by decide) (fun _ => ?_) (fun h => absurd h (by decide))
        refine r_iload_n hC dX9_command_72 rfl (j := 3) rfl ?_
        refine r_iconst hC dX9_command_73 (v := 2) (by decide) ?_
        refine r_icmp_ne hC dX9_command_74 (tgt := 90) (by decide) (fun h => absurd (by decide) h) (fun _ => ?_)
        refine r_aload_n hC dX9_command_77 rfl (j := 4) rfl ?_
        refine r_get hC gX9_command_78 hf8_m (v := .int 0) rfl ?_
        refine r_if_ne hC dX9_command_81 (tgt := 90) (by decide) (fun h => absurd (by decide) h) (fun _ => ?_)
        refine r_aload_n hC dX9_command_84 rfl (j := 4) rfl ?_
        refine r_iconst hC dX9_command_85 (v := 1) (by decide) ?_
        refine r_callV hC (vs := [.int 1]) vX9_command_86 (sm_behind1 (d := d + 6) (h := k_8) (e := e) hf8_m hf8__m___6_ he hk_8) hf8_m rfl rfl (by omega) (by omega) (by omega) (Nat.le_of_ble_eq_true rfl) (fun v_9 w_9 hP_9 hlen_9 => ?_) (fun _ _ h => h.elim)
        rcases hP_9 with ⟨x_9, k_9, hd_9, hk_9, hl_9, hv_9, ew_9⟩ | ⟨k_9, hd_9, hk_9, hv_9, ew_9⟩
        · rw [hv_9]
          have hf9_m : w_9[m]? = some (mO 10 [.int 0, .int ch, .int ea, .int fa, .int sv0, .ref (m + 1), .ref (m + 2), .ref (m + 3), .ref (m + 4), .ref (m + 5), .ref (m + 6), .ref (m + 7), .ref (m + 8), .ref (m + 9), .ref (m + 10), .int tn, .int (nI k_9), .int (nI e), .int ln, .int 0, .int 1]) := by rw [ew_9]; exact List.getElem?_set_self (lt_of_get hf8_m)
          have hf9__m___6_ : w_9[(m + 6)]? = some (mI 0 60 tx) := by rw [ew_9, List.getElem?_set_ne (by omega)]; exact hf8__m___6_
          have hf9__m___8_ : w_9[(m + 8)]? = some (mI 0 8 lt_1) := by rw [ew_9, List.getElem?_set_ne (by omega)]; exact hf8__m___8_
          have hf9__m___9_ : w_9[(m + 9)]? = some (mI 0 41 wdF) := by rw [ew_9, List.getElem?_set_ne (by omega)]; exact hf8__m___9_
          have hf9__m___10_ : w_9[(m + 10)]? = some (mI 0 9 waF) := by rw [ew_9, List.getElem?_set_ne (by omega)]; exact hf8__m___10_
          have hf9__m___1_ : w_9[(m + 1)]? = some (mI 0 67 (enc ((f, g, sl, op, lo), hd, rs, np, tp, av, lg, pl, tk))) := by rw [ew_9, List.getElem?_set_ne (by omega)]; exact hf8__m___1_
          show Wp X 0 0 w_9 [(2, .int x_8), (4, .int 0), (3, .int 0), (1, .int 2), (0, .ref m)] [.int x_9] 89
          refine r_istore_n hC dX9_command_89 rfl (by rw [hnl]; decide) (L' := [(3, .int x_9), (2, .int x_8), (4, .int 0), (1, .int 2), (0, .ref m)]) rfl ?_
          refine r_iload_n hC dX9_command_90 rfl (j := 3) rfl ?_
          refine r_iconst hC dX9_command_91 (v := 1) (by decide) ?_
          refine r_icmp_ne hC dX9_command_92 (tgt := 109) (by decide) (fun _ => ?_) (fun h => absurd h (by decide))
          refine r_aload_n hC dX9_command_109 rfl (j := 4) rfl ?_
          refine r_get hC gX9_command_110 hf9_m (v := .int 0) rfl ?_
          refine r_if_ne hC dX9_command_113 (tgt := 123) (by decide) (fun h => absurd (by decide) h) (fun _ => ?_)
          refine r_aload_n hC dX9_command_116 rfl (j := 4) rfl ?_
          refine r_get hC gX9_command_117 hf9_m (v := .int 1) rfl ?_
          refine r_if_ne hC dX9_command_120 (tgt := 124) (by decide) (fun _ => ?_) (fun h => absurd h (by decide))
          refine r_aload_n hC dX9_command_124 rfl (j := 4) rfl ?_
          refine r_iload_n hC dX9_command_125 rfl (j := 3) rfl ?_
          refine r_iload_n hC dX9_command_126 rfl (j := 1) rfl ?_
          refine r_iload_n hC dX9_command_127 rfl (j := 0) rfl ?_
          refine r_iload hC dX9_command_128 (j := 2) rfl ?_
          have e9 : pCmd tx e h = (some (2, x_8, x_9, 0), k_9) := by simp only [pCmd, pArgs, hw_1, hd_8, hd_9]
          refine r_callV hC (vs := [.int 2, .int x_8, .int x_9, .int 0]) vX9_command_130 (sm_does2 (d := d) hf9_m hf9__m___1_ h25 hop hlg hnp (((hT _ _ e9).resolve_left (show ¬ (2 : Nat) = 0 by decide)).resolve_left (show ¬ (2 : Nat) = 4 by decide))) hf9_m rfl rfl (by omega) (by omega) (by omega) (Nat.le_of_ble_eq_true rfl) (fun v_10 w_10 hP_10 hlen_10 => ?_) (fun _ _ h => h.elim)
          rcases hP_10 with ⟨he_10, r_10, hv_10, ew_10⟩ | ⟨he_10, r_10, hr_10, hv_10, ew_10⟩
          · rw [hv_10]
            have hf10_m : w_10[m]? = some (mO 10 [.int 0, .int ch, .int ea, .int fa, .int sv0, .ref (m + 1), .ref (m + 2), .ref (m + 3), .ref (m + 4), .ref (m + 5), .ref (m + 6), .ref (m + 7), .ref (m + 8), .ref (m + 9), .ref (m + 10), .int tn, .int (nI k_9), .int (nI e), .int ln, .int 0, .int 1]) := by rw [ew_10, List.getElem?_set_ne (by omega)]; exact hf9_m
            have hf10__m___6_ : w_10[(m + 6)]? = some (mI 0 60 tx) := by rw [ew_10, List.getElem?_set_ne (by omega)]; exact hf9__m___6_
            have hf10__m___8_ : w_10[(m + 8)]? = some (mI 0 8 lt_1) := by rw [ew_10, List.getElem?_set_ne (by omega)]; exact hf9__m___8_
            have hf10__m___9_ : w_10[(m + 9)]? = some (mI 0 41 wdF) := by rw [ew_10, List.getElem?_set_ne (by omega)]; exact hf9__m___9_
            have hf10__m___10_ : w_10[(m + 10)]? = some (mI 0 9 waF) := by rw [ew_10, List.getElem?_set_ne (by omega)]; exact hf9__m___10_
            have hf10__m___1_ : w_10[(m + 1)]? = some (mI 0 67 (enc (((cmdDo ((f, g, sl, op, lo), hd, rs, np, tp, av, lg, pl, tk) (2, x_8, x_9, 0)).1.1, (cmdDo ((f, g, sl, op, lo), hd, rs, np, tp, av, lg, pl, tk) (2, x_8, x_9, 0)).1.2.1, (cmdDo ((f, g, sl, op, lo), hd, rs, np, tp, av, lg, pl, tk) (2, x_8, x_9, 0)).1.2.2.1, (cmdDo ((f, g, sl, op, lo), hd, rs, np, tp, av, lg, pl, tk) (2, x_8, x_9, 0)).1.2.2.2.1, (cmdDo ((f, g, sl, op, lo), hd, rs, np, tp, av, lg, pl, tk) (2, x_8, x_9, 0)).1.2.2.2.2), (cmdDo ((f, g, sl, op, lo), hd, rs, np, tp, av, lg, pl, tk) (2, x_8, x_9, 0)).2.1, (cmdDo ((f, g, sl, op, lo), hd, rs, np, tp, av, lg, pl, tk) (2, x_8, x_9, 0)).2.2.1, (cmdDo ((f, g, sl, op, lo), hd, rs, np, tp, av, lg, pl, tk) (2, x_8, x_9, 0)).2.2.2.1, (cmdDo ((f, g, sl, op, lo), hd, rs, np, tp, av, lg, pl, tk) (2, x_8, x_9, 0)).2.2.2.2.1, (cmdDo ((f, g, sl, op, lo), hd, rs, np, tp, av, lg, pl, tk) (2, x_8, x_9, 0)).2.2.2.2.2.1, (cmdDo ((f, g, sl, op, lo), hd, rs, np, tp, av, lg, pl, tk) (2, x_8, x_9, 0)).2.2.2.2.2.2.1, (cmdDo ((f, g, sl, op, lo), hd, rs, np, tp, av, lg, pl, tk) (2, x_8, x_9, 0)).2.2.2.2.2.2.2.1, (cmdDo ((f, g, sl, op, lo), hd, rs, np, tp, av, lg, pl, tk) (2, x_8, x_9, 0)).2.2.2.2.2.2.2.2))) := by rw [ew_10]; exact List.getElem?_set_self (lt_of_get hf9__m___1_)
            show Wp X 0 0 w_10 [(3, .int x_9), (2, .int x_8), (4, .int 0), (1, .int 2), (0, .ref m)] [.int r_10] 133
            refine r_istore hC dX9_command_133 (by rw [hnl]; decide) (L' := [(5, .int r_10), (3, .int x_9), (2, .int x_8), (4, .int 0), (1, .int 2), (0, .ref m)]) rfl ?_
            refine r_vret hC hE hR dX9_command_135 (by omega) (by omega) (by simp only [ew_10, ew_9, ew_8, ew_1, List.length_set]) ?_
            exact Or.inl ⟨(2, x_8, x_9, 0), k_9, lt_1, e9, by have := pWord_gt hw_1; omega, hk_9, he_10, rfl, by simp only [ew_10, ew_9, ew_8, ew_1, List.set_set]⟩
          · rw [hv_10]
            have hf10_m : w_10[m]? = some (mO 10 [.int r_10, .int ch, .int ea, .int fa, .int sv0, .ref (m + 1), .ref (m + 2), .ref (m + 3), .ref (m + 4), .ref (m + 5), .ref (m + 6), .ref (m + 7), .ref (m + 8), .ref (m + 9), .ref (m + 10), .int tn, .int (nI k_9), .int (nI e), .int ln, .int 0, .int 1]) := by rw [ew_10]; exact List.getElem?_set_self (lt_of_get hf9_m)
            have hf10__m___6_ : w_10[(m + 6)]? = some (mI 0 60 tx) := by rw [ew_10, List.getElem?_set_ne (by omega)]; exact hf9__m___6_
            have hf10__m___8_ : w_10[(m + 8)]? = some (mI 0 8 lt_1) := by rw [ew_10, List.getElem?_set_ne (by omega)]; exact hf9__m___8_
            have hf10__m___9_ : w_10[(m + 9)]? = some (mI 0 41 wdF) := by rw [ew_10, List.getElem?_set_ne (by omega)]; exact hf9__m___9_
            have hf10__m___10_ : w_10[(m + 10)]? = some (mI 0 9 waF) := by rw [ew_10, List.getElem?_set_ne (by omega)]; exact hf9__m___10_
            have hf10__m___1_ : w_10[(m + 1)]? = some (mI 0 67 (enc ((f, g, sl, op, lo), hd, rs, np, tp, av, lg, pl, tk))) := by rw [ew_10, List.getElem?_set_ne (by omega)]; exact hf9__m___1_
            show Wp X 0 0 w_10 [(3, .int x_9), (2, .int x_8), (4, .int 0), (1, .int 2), (0, .ref m)] [.int 0] 133
            refine r_istore hC dX9_command_133 (by rw [hnl]; decide) (L' := [(5, .int 0), (3, .int x_9), (2, .int x_8), (4, .int 0), (1, .int 2), (0, .ref m)]) rfl ?_
            refine r_vret hC hE hR dX9_command_135 (by omega) (by omega) (by simp only [ew_10, ew_9, ew_8, ew_1, List.length_set]) ?_
            exact Or.inr (Or.inl ⟨(2, x_8, x_9, 0), k_9, lt_1, r_10, e9, by have := pWord_gt hw_1; omega, hk_9, he_10, hr_10, rfl, by simp only [ew_10, ew_9, ew_8, ew_1, List.set_set]⟩)
        · rw [hv_9]
          have hf9_m : w_9[m]? = some (mO 10 [.int 0, .int ch, .int ea, .int fa, .int sv0, .ref (m + 1), .ref (m + 2), .ref (m + 3), .ref (m + 4), .ref (m + 5), .ref (m + 6), .ref (m + 7), .ref (m + 8), .ref (m + 9), .ref (m + 10), .int tn, .int (nI k_9), .int (nI e), .int ln, .int 1, .int 1]) := by rw [ew_9]; exact List.getElem?_set_self (lt_of_get hf8_m)
          have hf9__m___6_ : w_9[(m + 6)]? = some (mI 0 60 tx) := by rw [ew_9, List.getElem?_set_ne (by omega)]; exact hf8__m___6_
          have hf9__m___8_ : w_9[(m + 8)]? = some (mI 0 8 lt_1) := by rw [ew_9, List.getElem?_set_ne (by omega)]; exact hf8__m___8_
          have hf9__m___9_ : w_9[(m + 9)]? = some (mI 0 41 wdF) := by rw [ew_9, List.getElem?_set_ne (by omega)]; exact hf8__m___9_
          have hf9__m___10_ : w_9[(m + 10)]? = some (mI 0 9 waF) := by rw [ew_9, List.getElem?_set_ne (by omega)]; exact hf8__m___10_
          have hf9__m___1_ : w_9[(m + 1)]? = some (mI 0 67 (enc ((f, g, sl, op, lo), hd, rs, np, tp, av, lg, pl, tk))) := by rw [ew_9, List.getElem?_set_ne (by omega)]; exact hf8__m___1_
          show Wp X 0 0 w_9 [(2, .int x_8), (4, .int 0), (3, .int 0), (1, .int 2), (0, .ref m)] [.int 0] 89
          refine r_istore_n hC dX9_command_89 rfl (by rw [hnl]; decide) (L' := [(3, .int 0), (2, .int x_8), (4, .int 0), (1, .int 2), (0, .ref m)]) rfl ?_
          refine r_iload_n hC dX9_command_90 rfl (j := 3) rfl ?_
          refine r_iconst hC dX9_command_91 (v := 1) (by decide) ?_
          refine r_icmp_ne hC dX9_command_92 (tgt := 109) (by decide) (fun _ => ?_) (fun h => absurd h (by decide))
          refine r_aload_n hC dX9_command_109 rfl (j := 4) rfl ?_
          refine r_get hC gX9_command_110 hf9_m (v := .int 1) rfl ?_
          refine r_if_ne hC dX9_command_113 (tgt := 123) (by decide) (fun _ => ?_) (fun h => absurd h (by decide))
          refine r_vret hC hE hR dX9_command_123 (by omega) (by omega) (by simp only [ew_9, ew_8, ew_1, List.length_set]) ?_
          exact Or.inr (Or.inr ⟨k_9, lt_1, by simp only [pCmd, pArgs, hw_1, hd_8, hd_9], hk_9, rfl, by simp only [ew_9, ew_8, ew_1, List.set_set]⟩)
      · rw [hv_8]
        have hf8_m : w_8[m]? = some (mO 10 [.int 0, .int ch, .int ea, .int fa, .int sv0, .ref (m + 1), .ref (m + 2), .ref (m + 3), .ref (m + 4), .ref (m + 5), .ref (m + 6), .ref (m + 7), .ref (m + 8), .ref (m + 9), .ref (m + 10), .int tn, .int (nI k_1), .int (nI e), .int ln, .int 1, .int 1]) := by rw [ew_8]; exact List.getElem?_set_self (lt_of_get hf1_m)
        have hf8__m___6_ : w_8[(m + 6)]? = some (mI 0 60 tx) := by rw [ew_8, List.getElem?_set_ne (by omega)]; exact hf1__m___6_
        have hf8__m___8_ : w_8[(m + 8)]? = some (mI 0 8 lt_1) := by rw [ew_8, List.getElem?_set_ne (by omega)]; exact hf1__m___8_
        have hf8__m___9_ : w_8[(m + 9)]? = some (mI 0 41 wdF) := by rw [ew_8, List.getElem?_set_ne (by omega)]; exact hf1__m___9_
        have hf8__m___10_ : w_8[(m + 10)]? = some (mI 0 9 waF) := by rw [ew_8, List.getElem?_set_ne (by omega)]; exact hf1__m___10_
        have hf8__m___1_ : w_8[(m + 1)]? = some (mI 0 67 (enc ((f, g, sl, op, lo), hd, rs, np, tp, av, lg, pl, tk))) := by rw [ew_8, List.getElem?_set_ne (by omega)]; exact hf1__m___1_
        show Wp X 0 0 w_8 [(4, .int 0), (3, .int 0), (2, .int 0), (1, .int 2), (0, .ref m)] [.int 0] 48
        refine r_istore_n hC dX9_command_48 rfl (by rw [hnl]; decide) (L' := [(2, .int 0), (4, .int 0), (3, .int 0), (1, .int 2), (0, .ref m)]) rfl ?_
        refine r_iload_n hC dX9_command_49 rfl (j := 3) rfl ?_
        refine r_iconst hC dX9_command_50 (v := 1) (by decide) ?_
        refine r_icmp_eq hC dX9_command_51 (tgt := 59) (by decide) (fun h => absurd h (by decide)) (fun _ => ?_)
        refine r_iload_n hC dX9_command_54 rfl (j := 3) rfl ?_
        refine r_iconst hC dX9_command_55 (v := 3) (by decide) ?_
        refine r_icmp_ne hC dX9_command_56 (tgt := 72) (by decide) (fun _ => ?_) (fun h => absurd h (by decide))
        refine r_iload_n hC dX9_command_72 rfl (j := 3) rfl ?_
        refine r_iconst hC dX9_command_73 (v := 2) (by decide) ?_
        refine r_icmp_ne hC dX9_command_74 (tgt := 90) (by decide) (fun h => absurd (by decide) h) (fun _ => ?_)
        refine r_aload_n hC dX9_command_77 rfl (j := 4) rfl ?_
        refine r_get hC gX9_command_78 hf8_m (v := .int 1) rfl ?_
        refine r_if_ne hC dX9_command_81 (tgt := 90) (by decide) (fun _ => ?_) (fun h => absurd h (by decide))
        refine r_iload_n hC dX9_command_90 rfl (j := 3) rfl ?_
        refine r_iconst hC dX9_command_91 (v := 1) (by decide) ?_
        refine r_icmp_ne hC dX9_command_92 (tgt := 109) (by decide) (fun _ => ?_) (fun h => absurd h (by decide))
        refine r_aload_n hC dX9_command_109 rfl (j := 4) rfl ?_
        refine r_get hC gX9_command_110 hf8_m (v := .int 1) rfl ?_
        refine r_if_ne hC dX9_command_113 (tgt := 123) (by decide) (fun _ => ?_) (fun h => absurd h (by decide))
        refine r_vret hC hE hR dX9_command_123 (by omega) (by omega) (by simp only [ew_8, ew_1, List.length_set]) ?_
        exact Or.inr (Or.inr ⟨k_1, lt_1, by simp only [pCmd, pArgs, hw_1, hd_8], hk_1, rfl, by simp only [ew_8, ew_1, List.set_set]⟩)
    · show Wp X 0 0 w_1 [(0, .ref m)] [.int 3] 4
      refine r_istore_n hC dX9_command_4 rfl (by rw [hnl]; decide) (L' := [(1, .int 3), (0, .ref m)]) rfl ?_
      refine r_iconst hC dX9_command_5 (v := 0) (by decide) ?_
      refine r_istore_n hC dX9_command_6 rfl (by rw [hnl]; decide) (L' := [(2, .int 0), (1, .int 3), (0, .ref m)]) rfl ?_
      refine r_iconst hC dX9_command_7 (v := 0) (by decide) ?_
      refine r_istore_n hC dX9_command_8 rfl (by rw [hnl]; decide) (L' := [(3, .int 0), (2, .int 0), (1, .int 3), (0, .ref m)]) rfl ?_
      refine r_iconst hC dX9_command_9 (v := 0) (by decide) ?_
      refine r_istore hC dX9_command_10 (by rw [hnl]; decide) (L' := [(4, .int 0), (3, .int 0), (2, .int 0), (1, .int 3), (0, .ref m)]) rfl ?_
      refine r_aload_n hC dX9_command_12 rfl (j := 4) rfl ?_
      refine r_get hC gX9_command_13 hf1_m (v := .int 0) rfl ?_
      refine r_if_eq hC dX9_command_16 (tgt := 20) (by decide) (fun _ => ?_) (fun h => absurd (by decide) h)
      refine r_iload_n hC dX9_command_20 rfl (j := 3) rfl ?_
      refine r_iconst hC dX9_command_21 (v := 4) (by decide) ?_
      refine r_icmp_lt hC dX9_command_22 (tgt := 30) (by decide) (fun _ => ?_) (fun h => absurd (by decide) h)
      refine r_aload_n hC dX9_command_30 rfl (j := 4) rfl ?_
      refine r_iload_n hC dX9_command_31 rfl (j := 3) rfl ?_
      refine r_if_eq hC dX9_command_32 (tgt := 40) (by decide) (fun h => absurd h (by decide)) (fun _ => ?_)
      refine r_iload_n hC dX9_command_35 rfl (j := 3) rfl ?_
      refine r_iconst hC dX9_command_36 (v := 2) (by decide) ?_
      refine r_icmp_ne hC dX9_command_37 (tgt := 44) (by decide) (fun _ => ?_) (fun h => absurd h (by decide))
      refine r_iconst hC dX9_command_44 (v := 1) (by decide) ?_
      refine r_callV hC (vs := [.int 1]) vX9_command_45 (sm_digits1 (d := d + 7) (h := k_1) (e := e) hf1_m hf1__m___6_ he hk_1) hf1_m rfl rfl (by omega) (by omega) (by omega) (Nat.le_of_ble_eq_true rfl) (fun v_11 w_11 hP_11 hlen_11 => ?_) (fun _ _ h => h.elim)
      rcases hP_11 with ⟨x_11, k_11, hd_11, hk_11, hl_11, hv_11, ew_11⟩ | ⟨hd_11, hv_11, ew_11⟩
      · rw [hv_11]
        have hf11_m : w_11[m]? = some (mO 10 [.int 0, .int ch, .int ea, .int fa, .int sv0, .ref (m + 1), .ref (m + 2), .ref (m + 3), .ref (m + 4), .ref (m + 5), .ref (m + 6), .ref (m + 7), .ref (m + 8), .ref (m + 9), .ref (m + 10), .int tn, .int (nI k_11), .int (nI e), .int ln, .int 0, .int 1]) := by rw [ew_11]; exact List.getElem?_set_self (lt_of_get hf1_m)
        have hf11__m___6_ : w_11[(m + 6)]? = some (mI 0 60 tx) := by rw [ew_11, List.getElem?_set_ne (by omega)]; exact hf1__m___6_
        have hf11__m___8_ : w_11[(m + 8)]? = some (mI 0 8 lt_1) := by rw [ew_11, List.getElem?_set_ne (by omega)]; exact hf1__m___8_
        have hf11__m___9_ : w_11[(m + 9)]? = some (mI 0 41 wdF) := by rw [ew_11, List.getElem?_set_ne (by omega)]; exact hf1__m___9_
        have hf11__m___10_ : w_11[(m + 10)]? = some (mI 0 9 waF) := by rw [ew_11, List.getElem?_set_ne (by omega)]; exact hf1__m___10_
        have hf11__m___1_ : w_11[(m + 1)]? = some (mI 0 67 (enc ((f, g, sl, op, lo), hd, rs, np, tp, av, lg, pl, tk))) := by rw [ew_11, List.getElem?_set_ne (by omega)]; exact hf1__m___1_
        show Wp X 0 0 w_11 [(4, .int 0), (3, .int 0), (2, .int 0), (1, .int 3), (0, .ref m)] [.int x_11] 48
        refine r_istore_n hC dX9_command_48 rfl (by rw [hnl]; decide) (L' := [(2, .int x_11), (4, .int 0), (3, .int 0), (1, .int 3), (0, .ref m)]) rfl ?_
        refine r_iload_n hC dX9_command_49 rfl (j := 3) rfl ?_
        refine r_iconst hC dX9_command_50 (v := 1) (by decide) ?_
        refine r_icmp_eq hC dX9_command_51 (tgt := 59) (by decide) (fun h => absurd h (by decide)) (fun _ => ?_)
        refine r_iload_n hC dX9_command_54 rfl (j := 3) rfl ?_
        refine r_iconst hC dX9_command_55 (v := 3) (by decide) ?_
        refine r_icmp_ne hC dX9_command_56 (tgt := 72) (by decide) (fun h => absurd (by decide) h) (fun _ => ?_)
        refine r_aload_n hC dX9_command_59 rfl (j := 4) rfl ?_
        refine r_get hC gX9_command_60 hf11_m (v := .int 0) rfl ?_
        refine r_if_ne hC dX9_command_63 (tgt := 72) (by decide) (fun h => absurd (by decide) h) (fun _ => ?_)
        refine r_aload_n hC dX9_command_66 rfl (j := 4) rfl ?_
        refine r_iconst hC dX9_command_67 (v := 2) (by decide) ?_
        refine r_callV hC (vs := [.int 2]) vX9_command_68 (sm_behind2 (d := d + 6) (h := k_11) (e := e) hf11_m hf11__m___6_ he hk_11) hf11_m rfl rfl (by omega) (by omega) (by omega) (Nat.le_of_ble_eq_true rfl) (fun v_12 w_12 hP_12 hlen_12 => ?_) (fun _ _ h => h.elim)
        rcases hP_12 with ⟨x_12, k_12, hd_12, hk_12, hl_12, hv_12, ew_12⟩ | ⟨k_12, hd_12, hk_12, hv_12, ew_12⟩
        · rw [hv_12]
          have hf12_m : w_12[m]? = some (mO 10 [.int 0, .int ch, .int ea, .int fa, .int sv0, .ref (m + 1), .ref (m + 2), .ref (m + 3), .ref (m + 4), .ref (m + 5), .ref (m + 6), .ref (m + 7), .ref (m + 8), .ref (m + 9), .ref (m + 10), .int tn, .int (nI k_12), .int (nI e), .int ln, .int 0, .int 1]) := by rw [ew_12]; exact List.getElem?_set_self (lt_of_get hf11_m)
          have hf12__m___6_ : w_12[(m + 6)]? = some (mI 0 60 tx) := by rw [ew_12, List.getElem?_set_ne (by omega)]; exact hf11__m___6_
          have hf12__m___8_ : w_12[(m + 8)]? = some (mI 0 8 lt_1) := by rw [ew_12, List.getElem?_set_ne (by omega)]; exact hf11__m___8_
          have hf12__m___9_ : w_12[(m + 9)]? = some (mI 0 41 wdF) := by rw [ew_12, List.getElem?_set_ne (by omega)]; exact hf11__m___9_
          have hf12__m___10_ : w_12[(m + 10)]? = some (mI 0 9 waF) := by rw [ew_12, List.getElem?_set_ne (by omega)]; exact hf11__m___10_
          have hf12__m___1_ : w_12[(m + 1)]? = some (mI 0 67 (enc ((f, g, sl, op, lo), hd, rs, np, tp, av, lg, pl, tk))) := by rw [ew_12, List.getElem?_set_ne (by omega)]; exact hf11__m___1_
          show Wp X 0 0 w_12 [(2, .int x_11), (4, .int 0), (3, .int 0), (1, .int 3), (0, .ref m)] [.int x_12] 71
          refine r_istore_n hC dX9_command_71 rfl (by rw [hnl]; decide) (L' := [(3, .int x_12), (2, .int x_11), (4, .int 0), (1, .int 3), (0, .ref m)]) rfl ?_
          refine r_iload_n hC dX9_command_72 rfl (j := 3) rfl ?_
          refine r_iconst hC dX9_command_73 (v := 2) (by decide) ?_
          refine r_icmp_ne hC dX9_command_74 (tgt := 90) (by decide) (fun _ => ?_) (fun h => absurd h (by decide))
          refine r_iload_n hC dX9_command_90 rfl (j := 3) rfl ?_
          refine r_iconst hC dX9_command_91 (v := 1) (by decide) ?_
          refine r_icmp_ne hC dX9_command_92 (tgt := 109) (by decide) (fun _ => ?_) (fun h => absurd h (by decide))
          refine r_aload_n hC dX9_command_109 rfl (j := 4) rfl ?_
          refine r_get hC gX9_command_110 hf12_m (v := .int 0) rfl ?_
          refine r_if_ne hC dX9_command_113 (tgt := 123) (by decide) (fun h => absurd (by decide) h) (fun _ => ?_)
          refine r_aload_n hC dX9_command_116 rfl (j := 4) rfl ?_
          refine r_get hC gX9_command_117 hf12_m (v := .int 1) rfl ?_
          refine r_if_ne hC dX9_command_120 (tgt := 124) (by decide) (fun _ => ?_) (fun h => absurd h (by decide))
          refine r_aload_n hC dX9_command_124 rfl (j := 4) rfl ?_
          refine r_iload_n hC dX9_command_125 rfl (j := 3) rfl ?_
          refine r_iload_n hC dX9_command_126 rfl (j := 1) rfl ?_
          refine r_iload_n hC dX9_command_127 rfl (j := 0) rfl ?_
          refine r_iload hC dX9_command_128 (j := 2) rfl ?_
          have e9 : pCmd tx e h = (some (3, x_11, x_12, 0), k_12) := by simp only [pCmd, pArgs, hw_1, hd_11, hd_12]
          refine r_callV hC (vs := [.int 3, .int x_11, .int x_12, .int 0]) vX9_command_130 (sm_does3 (d := d) hf12_m hf12__m___1_ h25 hop hlg hnp (((hT _ _ e9).resolve_left (show ¬ (3 : Nat) = 0 by decide)).resolve_left (show ¬ (3 : Nat) = 4 by decide))) hf12_m rfl rfl (by omega) (by omega) (by omega) (Nat.le_of_ble_eq_true rfl) (fun v_13 w_13 hP_13 hlen_13 => ?_) (fun _ _ h => h.elim)
          rcases hP_13 with ⟨he_13, r_13, hv_13, ew_13⟩ | ⟨he_13, r_13, hr_13, hv_13, ew_13⟩
          · rw [hv_13]
            have hf13_m : w_13[m]? = some (mO 10 [.int 0, .int ch, .int ea, .int fa, .int sv0, .ref (m + 1), .ref (m + 2), .ref (m + 3), .ref (m + 4), .ref (m + 5), .ref (m + 6), .ref (m + 7), .ref (m + 8), .ref (m + 9), .ref (m + 10), .int tn, .int (nI k_12), .int (nI e), .int ln, .int 0, .int 1]) := by rw [ew_13, List.getElem?_set_ne (by omega)]; exact hf12_m
            have hf13__m___6_ : w_13[(m + 6)]? = some (mI 0 60 tx) := by rw [ew_13, List.getElem?_set_ne (by omega)]; exact hf12__m___6_
            have hf13__m___8_ : w_13[(m + 8)]? = some (mI 0 8 lt_1) := by rw [ew_13, List.getElem?_set_ne (by omega)]; exact hf12__m___8_
            have hf13__m___9_ : w_13[(m + 9)]? = some (mI 0 41 wdF) := by rw [ew_13, List.getElem?_set_ne (by omega)]; exact hf12__m___9_
            have hf13__m___10_ : w_13[(m + 10)]? = some (mI 0 9 waF) := by rw [ew_13, List.getElem?_set_ne (by omega)]; exact hf12__m___10_
            have hf13__m___1_ : w_13[(m + 1)]? = some (mI 0 67 (enc (((cmdDo ((f, g, sl, op, lo), hd, rs, np, tp, av, lg, pl, tk) (3, x_11, x_12, 0)).1.1, (cmdDo ((f, g, sl, op, lo), hd, rs, np, tp, av, lg, pl, tk) (3, x_11, x_12, 0)).1.2.1, (cmdDo ((f, g, sl, op, lo), hd, rs, np, tp, av, lg, pl, tk) (3, x_11, x_12, 0)).1.2.2.1, (cmdDo ((f, g, sl, op, lo), hd, rs, np, tp, av, lg, pl, tk) (3, x_11, x_12, 0)).1.2.2.2.1, (cmdDo ((f, g, sl, op, lo), hd, rs, np, tp, av, lg, pl, tk) (3, x_11, x_12, 0)).1.2.2.2.2), (cmdDo ((f, g, sl, op, lo), hd, rs, np, tp, av, lg, pl, tk) (3, x_11, x_12, 0)).2.1, (cmdDo ((f, g, sl, op, lo), hd, rs, np, tp, av, lg, pl, tk) (3, x_11, x_12, 0)).2.2.1, (cmdDo ((f, g, sl, op, lo), hd, rs, np, tp, av, lg, pl, tk) (3, x_11, x_12, 0)).2.2.2.1, (cmdDo ((f, g, sl, op, lo), hd, rs, np, tp, av, lg, pl, tk) (3, x_11, x_12, 0)).2.2.2.2.1, (cmdDo ((f, g, sl, op, lo), hd, rs, np, tp, av, lg, pl, tk) (3, x_11, x_12, 0)).2.2.2.2.2.1, (cmdDo ((f, g, sl, op, lo), hd, rs, np, tp, av, lg, pl, tk) (3, x_11, x_12, 0)).2.2.2.2.2.2.1, (cmdDo ((f, g, sl, op, lo), hd, rs, np, tp, av, lg, pl, tk) (3, x_11, x_12, 0)).2.2.2.2.2.2.2.1, (cmdDo ((f, g, sl, op, lo), hd, rs, np, tp, av, lg, pl, tk) (3, x_11, x_12, 0)).2.2.2.2.2.2.2.2))) := by rw [ew_13]; exact List.getElem?_set_self (lt_of_get hf12__m___1_)
            show Wp X 0 0 w_13 [(3, .int x_12), (2, .int x_11), (4, .int 0), (1, .int 3), (0, .ref m)] [.int r_13] 133
            refine r_istore hC dX9_command_133 (by rw [hnl]; decide) (L' := [(5, .int r_13), (3, .int x_12), (2, .int x_11), (4, .int 0), (1, .int 3), (0, .ref m)]) rfl ?_
            refine r_vret hC hE hR dX9_command_135 (by omega) (by omega) (by simp only [ew_13, ew_12, ew_11, ew_1, List.length_set]) ?_
            exact Or.inl ⟨(3, x_11, x_12, 0), k_12, lt_1, e9, by have := pWord_gt hw_1; omega, hk_12, he_13, rfl, by simp only [ew_13, ew_12, ew_11, ew_1, List.set_set]⟩
          · rw [hv_13]
            have hf13_m : w_13[m]? = some (mO 10 [.int r_13, .int ch, .int ea, .int fa, .int sv0, .ref (m + 1), .ref (m + 2), .ref (m + 3), .ref (m + 4), .ref (m + 5), .ref (m + 6), .ref (m + 7), .ref (m + 8), .ref (m + 9), .ref (m + 10), .int tn, .int (nI k_12), .int (nI e), .int ln, .int 0, .int 1]) := by rw [ew_13]; exact List.getElem?_set_self (lt_of_get hf12_m)
            have hf13__m___6_ : w_13[(m + 6)]? = some (mI 0 60 tx) := by rw [ew_13, List.getElem?_set_ne (by omega)]; exact hf12__m___6_
            have hf13__m___8_ : w_13[(m + 8)]? = some (mI 0 8 lt_1) := by rw [ew_13, List.getElem?_set_ne (by omega)]; exact hf12__m___8_
            have hf13__m___9_ : w_13[(m + 9)]? = some (mI 0 41 wdF) := by rw [ew_13, List.getElem?_set_ne (by omega)]; exact hf12__m___9_
            have hf13__m___10_ : w_13[(m + 10)]? = some (mI 0 9 waF) := by rw [ew_13, List.getElem?_set_ne (by omega)]; exact hf12__m___10_
            have hf13__m___1_ : w_13[(m + 1)]? = some (mI 0 67 (enc ((f, g, sl, op, lo), hd, rs, np, tp, av, lg, pl, tk))) := by rw [ew_13, List.getElem?_set_ne (by omega)]; exact hf12__m___1_
            show Wp X 0 0 w_13 [(3, .int x_12), (2, .int x_11), (4, .int 0), (1, .int 3), (0, .ref m)] [.int 0] 133
            refine r_istore hC dX9_command_133 (by rw [hnl]; decide) (L' := [(5, .int 0), (3, .int x_12), (2, .int x_11), (4, .int 0), (1, .int 3), (0, .ref m)]) rfl ?_
            refine r_vret hC hE hR dX9_command_135 (by omega) (by omega) (by simp only [ew_13, ew_12, ew_11, ew_1, List.length_set]) ?_
            exact Or.inr (Or.inl ⟨(3, x_11, x_12, 0), k_12, lt_1, r_13, e9, by have := pWord_gt hw_1; omega, hk_12, he_13, hr_13, rfl, by simp only [ew_13, ew_12, ew_11, ew_1, List.set_set]⟩)
        · rw [hv_12]
          have hf12_m : w_12[m]? = some (mO 10 [.int 0, .int ch, .int ea, .int fa, .int sv0, .ref (m + 1), .ref (m + 2), .ref (m + 3), .ref (m + 4), .ref (m + 5), .ref (m + 6), .ref (m + 7), .ref (m + 8), .ref (m + 9), .ref (m + 10), .int tn, .int (nI k_12), .int (nI e), .int ln, .int 1, .int 1]) := by rw [ew_12]; exact List.getElem?_set_self (lt_of_get hf11_m)
          have hf12__m___6_ : w_12[(m + 6)]? = some (mI 0 60 tx) := by rw [ew_12, List.getElem?_set_ne (by omega)]; exact hf11__m___6_
          have hf12__m___8_ : w_12[(m + 8)]? = some (mI 0 8 lt_1) := by rw [ew_12, List.getElem?_set_ne (by omega)]; exact hf11__m___8_
          have hf12__m___9_ : w_12[(m + 9)]? = some (mI 0 41 wdF) := by rw [ew_12, List.getElem?_set_ne (by omega)]; exact hf11__m___9_
          have hf12__m___10_ : w_12[(m + 10)]? = some (mI 0 9 waF) := by rw [ew_12, List.getElem?_set_ne (by omega)]; exact hf11__m___10_
          have hf12__m___1_ : w_12[(m + 1)]? = some (mI 0 67 (enc ((f, g, sl, op, lo), hd, rs, np, tp, av, lg, pl, tk))) := by rw [ew_12, List.getElem?_set_ne (by omega)]; exact hf11__m___1_
          show Wp X 0 0 w_12 [(2, .int x_11), (4, .int 0), (3, .int 0), (1, .int 3), (0, .ref m)] [.int 0] 71
          refine r_istore_n hC dX9_command_71 rfl (by rw [hnl]; decide) (L' := [(3, .int 0), (2, .int x_11), (4, .int 0), (1, .int 3), (0, .ref m)]) rfl ?_
          refine r_iload_n hC dX9_command_72 rfl (j := 3) rfl ?_
          refine r_iconst hC dX9_command_73 (v := 2) (by decide) ?_
          refine r_icmp_ne hC dX9_command_74 (tgt := 90) (by decide) (fun _ => ?_) (fun h => absurd h (by decide))
          refine r_iload_n hC dX9_command_90 rfl (j := 3) rfl ?_
          refine r_iconst hC dX9_command_91 (v := 1) (by decide) ?_
          refine r_icmp_ne hC dX9_command_92 (tgt := 109) (by decide) (fun _ => ?_) (fun h => absurd h (by decide))
          refine r_aload_n hC dX9_command_109 rfl (j := 4) rfl ?_
          refine r_get hC gX9_command_110 hf12_m (v := .int 1) rfl ?_
          refine r_if_ne hC dX9_command_113 (tgt := 123) (by decide) (fun _ => ?_) (fun h => absurd h (by decide))
          refine r_vret hC hE hR dX9_command_123 (by omega) (by omega) (by simp only [ew_12, ew_11, ew_1, List.length_set]) ?_
          exact Or.inr (Or.inr ⟨k_12, lt_1, by simp only [pCmd, pArgs, hw_1, hd_11, hd_12], hk_12, rfl, by simp only [ew_12, ew_11, ew_1, List.set_set]⟩)
      · rw [hv_11]
        have hf11_m : w_11[m]? = some (mO 10 [.int 0, .int ch, .int ea, .int fa, .int sv0, .ref (m + 1), .ref (m + 2), .ref (m + 3), .ref (m + 4), .ref (m + 5), .ref (m + 6), .ref (m + 7), .ref (m + 8), .ref (m + 9), .ref (m + 10), .int tn, .int (nI k_1), .int (nI e), .int ln, .int 1, .int 1]) := by rw [ew_11]; exact List.getElem?_set_self (lt_of_get hf1_m)
        have hf11__m___6_ : w_11[(m + 6)]? = some (mI 0 60 tx) := by rw [ew_11, List.getElem?_set_ne (by omega)]; exact hf1__m___6_
        have hf11__m___8_ : w_11[(m + 8)]? = some (mI 0 8 lt_1) := by rw [ew_11, List.getElem?_set_ne (by omega)]; exact hf1__m___8_
        have hf11__m___9_ : w_11[(m + 9)]? = some (mI 0 41 wdF) := by rw [ew_11, List.getElem?_set_ne (by omega)]; exact hf1__m___9_
        have hf11__m___10_ : w_11[(m + 10)]? = some (mI 0 9 waF) := by rw [ew_11, List.getElem?_set_ne (by omega)]; exact hf1__m___10_
        have hf11__m___1_ : w_11[(m + 1)]? = some (mI 0 67 (enc ((f, g, sl, op, lo), hd, rs, np, tp, av, lg, pl, tk))) := by rw [ew_11, List.getElem?_set_ne (by omega)]; exact hf1__m___1_
        show Wp X 0 0 w_11 [(4, .int 0), (3, .int 0), (2, .int 0), (1, .int 3), (0, .ref m)] [.int 0] 48
        refine r_istore_n hC dX9_command_48 rfl (by rw [hnl]; decide) (L' := [(2, .int 0), (4, .int 0), (3, .int 0), (1, .int 3), (0, .ref m)]) rfl ?_
        refine r_iload_n hC dX9_command_49 rfl (j := 3) rfl ?_
        refine r_iconst hC dX9_command_50 (v := 1) (by decide) ?_
        refine r_icmp_eq hC dX9_command_51 (tgt := 59) (by decide) (fun h => absurd h (by decide)) (fun _ => ?_)
        refine r_iload_n hC dX9_command_54 rfl (j := 3) rfl ?_
        refine r_iconst hC dX9_command_55 (v := 3) (by decide) ?_
        refine r_icmp_ne hC dX9_command_56 (tgt := 72) (by decide) (fun h => absurd (by decide) h) (fun _ => ?_)
        refine r_aload_n hC dX9_command_59 rfl (j := 4) rfl ?_
        refine r_get hC gX9_command_60 hf11_m (v := .int 1) rfl ?_
        refine r_if_ne hC dX9_command_63 (tgt := 72) (by decide) (fun _ => ?_) (fun h => absurd h (by decide))
        refine r_iload_n hC dX9_command_72 rfl (j := 3) rfl ?_
        refine r_iconst hC dX9_command_73 (v := 2) (by decide) ?_
        refine r_icmp_ne hC dX9_command_74 (tgt := 90) (by decide) (fun _ => ?_) (fun h => absurd h (by decide))
        refine r_iload_n hC dX9_command_90 rfl (j := 3) rfl ?_
        refine r_iconst hC dX9_command_91 (v := 1) (by decide) ?_
        refine r_icmp_ne hC dX9_command_92 (tgt := 109) (by decide) (fun _ => ?_) (fun h => absurd h (by decide))
        refine r_aload_n hC dX9_command_109 rfl (j := 4) rfl ?_
        refine r_get hC gX9_command_110 hf11_m (v := .int 1) rfl ?_
        refine r_if_ne hC dX9_command_113 (tgt := 123) (by decide) (fun _ => ?_) (fun h => absurd h (by decide))
        refine r_vret hC hE hR dX9_command_123 (by omega) (by omega) (by simp only [ew_11, ew_1, List.length_set]) ?_
        exact Or.inr (Or.inr ⟨k_1, lt_1, by simp only [pCmd, pArgs, hw_1, hd_11], hk_1, rfl, by simp only [ew_11, ew_1, List.set_set]⟩)
    · show Wp X 0 0 w_1 [(0, .ref m)] [.int 4] 4
      refine r_istore_n hC dX9_command_4 rfl (by rw [hnl]; decide) (L' := [(1, .int 4), (0, .ref m)]) rfl ?_
      refine r_iconst hC dX9_command_5 (v := 0) (by decide) ?_
      refine r_istore_n hC dX9_command_6 rfl (by rw [hnl]; decide) (L' := [(2, .int 0), (1, .int 4), (0, .ref m)]) rfl ?_
      refine r_iconst hC dX9_command_7 (v := 0) (by decide) ?_
      refine r_istore_n hC dX9_command_8 rfl (by rw [hnl]; decide) (L' := [(3, .int 0), (2, .int 0), (1, .int 4), (0, .ref m)]) rfl ?_
      refine r_iconst hC dX9_command_9 (v := 0) (by decide) ?_
      refine r_istore hC dX9_command_10 (by rw [hnl]; decide) (L' := [(4, .int 0), (3, .int 0), (2, .int 0), (1, .int 4), (0, .ref m)]) rfl ?_
      refine r_aload_n hC dX9_command_12 rfl (j := 4) rfl ?_
      refine r_get hC gX9_command_13 hf1_m (v := .int 0) rfl ?_
      refine r_if_eq hC dX9_command_16 (tgt := 20) (by decide) (fun _ => ?_) (fun h => absurd (by decide) h)
      refine r_iload_n hC dX9_command_20 rfl (j := 3) rfl ?_
      refine r_iconst hC dX9_command_21 (v := 4) (by decide) ?_
      refine r_icmp_lt hC dX9_command_22 (tgt := 30) (by decide) (fun h => absurd h (by decide)) (fun _ => ?_)
      refine r_iload_n hC dX9_command_25 rfl (j := 3) rfl ?_
      refine r_iconst hC dX9_command_26 (v := 5) (by decide) ?_
      refine r_icmp_ne hC dX9_command_27 (tgt := 49) (by decide) (fun _ => ?_) (fun h => absurd h (by decide))
      refine r_iload_n hC dX9_command_49 rfl (j := 3) rfl ?_
      refine r_iconst hC dX9_command_50 (v := 1) (by decide) ?_
      refine r_icmp_eq hC dX9_command_51 (tgt := 59) (by decide) (fun h => absurd h (by decide)) (fun _ => ?_)
      refine r_iload_n hC dX9_command_54 rfl (j := 3) rfl ?_
      refine r_iconst hC dX9_command_55 (v := 3) (by decide) ?_
      refine r_icmp_ne hC dX9_command_56 (tgt := 72) (by decide) (fun _ => ?_) (fun h => absurd h (by decide))
      refine r_iload_n hC dX9_command_72 rfl (j := 3) rfl ?_
      refine r_iconst hC dX9_command_73 (v := 2) (by decide) ?_
      refine r_icmp_ne hC dX9_command_74 (tgt := 90) (by decide) (fun _ => ?_) (fun h => absurd h (by decide))
      refine r_iload_n hC dX9_command_90 rfl (j := 3) rfl ?_
      refine r_iconst hC dX9_command_91 (v := 1) (by decide) ?_
      refine r_icmp_ne hC dX9_command_92 (tgt := 109) (by decide) (fun _ => ?_) (fun h => absurd h (by decide))
      refine r_aload_n hC dX9_command_109 rfl (j := 4) rfl ?_
      refine r_get hC gX9_command_110 hf1_m (v := .int 0) rfl ?_
      refine r_if_ne hC dX9_command_113 (tgt := 123) (by decide) (fun h => absurd (by decide) h) (fun _ => ?_)
      refine r_aload_n hC dX9_command_116 rfl (j := 4) rfl ?_
      refine r_get hC gX9_command_117 hf1_m (v := .int 1) rfl ?_
      refine r_if_ne hC dX9_command_120 (tgt := 124) (by decide) (fun _ => ?_) (fun h => absurd h (by decide))
      refine r_aload_n hC dX9_command_124 rfl (j := 4) rfl ?_
      refine r_iload_n hC dX9_command_125 rfl (j := 3) rfl ?_
      refine r_iload_n hC dX9_command_126 rfl (j := 2) rfl ?_
      refine r_iload_n hC dX9_command_127 rfl (j := 1) rfl ?_
      refine r_iload hC dX9_command_128 (j := 0) rfl ?_
      have e9 : pCmd tx e h = (some (4, 0, 0, 0), k_1) := by simp only [pCmd, pArgs, hw_1]
      refine r_callV hC (vs := [.int 4, .int 0, .int 0, .int 0]) vX9_command_130 (sm_does4 (d := d) hf1_m hf1__m___1_ h25 hop hlg hnp) hf1_m rfl rfl (by omega) (by omega) (by omega) (Nat.le_of_ble_eq_true rfl) (fun v_14 w_14 hP_14 hlen_14 => ?_) (fun _ _ h => h.elim)
      rcases hP_14 with ⟨he_14, r_14, hv_14, ew_14⟩ | ⟨he_14, r_14, hr_14, hv_14, ew_14⟩
      · rw [hv_14]
        have hf14_m : w_14[m]? = some (mO 10 [.int 0, .int ch, .int ea, .int fa, .int sv0, .ref (m + 1), .ref (m + 2), .ref (m + 3), .ref (m + 4), .ref (m + 5), .ref (m + 6), .ref (m + 7), .ref (m + 8), .ref (m + 9), .ref (m + 10), .int tn, .int (nI k_1), .int (nI e), .int ln, .int 0, .int 1]) := by rw [ew_14, List.getElem?_set_ne (by omega)]; exact hf1_m
        have hf14__m___6_ : w_14[(m + 6)]? = some (mI 0 60 tx) := by rw [ew_14, List.getElem?_set_ne (by omega)]; exact hf1__m___6_
        have hf14__m___8_ : w_14[(m + 8)]? = some (mI 0 8 lt_1) := by rw [ew_14, List.getElem?_set_ne (by omega)]; exact hf1__m___8_
        have hf14__m___9_ : w_14[(m + 9)]? = some (mI 0 41 wdF) := by rw [ew_14, List.getElem?_set_ne (by omega)]; exact hf1__m___9_
        have hf14__m___10_ : w_14[(m + 10)]? = some (mI 0 9 waF) := by rw [ew_14, List.getElem?_set_ne (by omega)]; exact hf1__m___10_
        have hf14__m___1_ : w_14[(m + 1)]? = some (mI 0 67 (enc (((cmdDo ((f, g, sl, op, lo), hd, rs, np, tp, av, lg, pl, tk) (4, 0, 0, 0)).1.1, (cmdDo ((f, g, sl, op, lo), hd, rs, np, tp, av, lg, pl, tk) (4, 0, 0, 0)).1.2.1, (cmdDo ((f, g, sl, op, lo), hd, rs, np, tp, av, lg, pl, tk) (4, 0, 0, 0)).1.2.2.1, (cmdDo ((f, g, sl, op, lo), hd, rs, np, tp, av, lg, pl, tk) (4, 0, 0, 0)).1.2.2.2.1, (cmdDo ((f, g, sl, op, lo), hd, rs, np, tp, av, lg, pl, tk) (4, 0, 0, 0)).1.2.2.2.2), (cmdDo ((f, g, sl, op, lo), hd, rs, np, tp, av, lg, pl, tk) (4, 0, 0, 0)).2.1, (cmdDo ((f, g, sl, op, lo), hd, rs, np, tp, av, lg, pl, tk) (4, 0, 0, 0)).2.2.1, (cmdDo ((f, g, sl, op, lo), hd, rs, np, tp, av, lg, pl, tk) (4, 0, 0, 0)).2.2.2.1, (cmdDo ((f, g, sl, op, lo), hd, rs, np, tp, av, lg, pl, tk) (4, 0, 0, 0)).2.2.2.2.1, (cmdDo ((f, g, sl, op, lo), hd, rs, np, tp, av, lg, pl, tk) (4, 0, 0, 0)).2.2.2.2.2.1, (cmdDo ((f, g, sl, op, lo), hd, rs, np, tp, av, lg, pl, tk) (4, 0, 0, 0)).2.2.2.2.2.2.1, (cmdDo ((f, g, sl, op, lo), hd, rs, np, tp, av, lg, pl, tk) (4, 0, 0, 0)).2.2.2.2.2.2.2.1, (cmdDo ((f, g, sl, op, lo), hd, rs, np, tp, av, lg, pl, tk) (4, 0, 0, 0)).2.2.2.2.2.2.2.2))) := by rw [ew_14]; exact List.getElem?_set_self (lt_of_get hf1__m___1_)
        show Wp X 0 0 w_14 [(4, .int 0), (3, .int 0), (2, .int 0), (1, .int 4), (0, .ref m)] [.int r_14] 133
        refine r_istore hC dX9_command_133 (by rw [hnl]; decide) (L' := [(5, .int r_14), (4, .int 0), (3, .int 0), (2, .int 0), (1, .int 4), (0, .ref m)]) rfl ?_
        refine r_vret hC hE hR dX9_command_135 (by omega) (by omega) (by simp only [ew_14, ew_1, List.length_set]) ?_
        exact Or.inl ⟨(4, 0, 0, 0), k_1, lt_1, e9, by have := pWord_gt hw_1; omega, hk_1, he_14, rfl, by simp only [ew_14, ew_1, List.set_set]⟩
      · rw [hv_14]
        have hf14_m : w_14[m]? = some (mO 10 [.int r_14, .int ch, .int ea, .int fa, .int sv0, .ref (m + 1), .ref (m + 2), .ref (m + 3), .ref (m + 4), .ref (m + 5), .ref (m + 6), .ref (m + 7), .ref (m + 8), .ref (m + 9), .ref (m + 10), .int tn, .int (nI k_1), .int (nI e), .int ln, .int 0, .int 1]) := by rw [ew_14]; exact List.getElem?_set_self (lt_of_get hf1_m)
        have hf14__m___6_ : w_14[(m + 6)]? = some (mI 0 60 tx) := by rw [ew_14, List.getElem?_set_ne (by omega)]; exact hf1__m___6_
        have hf14__m___8_ : w_14[(m + 8)]? = some (mI 0 8 lt_1) := by rw [ew_14, List.getElem?_set_ne (by omega)]; exact hf1__m___8_
        have hf14__m___9_ : w_14[(m + 9)]? = some (mI 0 41 wdF) := by rw [ew_14, List.getElem?_set_ne (by omega)]; exact hf1__m___9_
        have hf14__m___10_ : w_14[(m + 10)]? = some (mI 0 9 waF) := by rw [ew_14, List.getElem?_set_ne (by omega)]; exact hf1__m___10_
        have hf14__m___1_ : w_14[(m + 1)]? = some (mI 0 67 (enc ((f, g, sl, op, lo), hd, rs, np, tp, av, lg, pl, tk))) := by rw [ew_14, List.getElem?_set_ne (by omega)]; exact hf1__m___1_
        show Wp X 0 0 w_14 [(4, .int 0), (3, .int 0), (2, .int 0), (1, .int 4), (0, .ref m)] [.int 0] 133
        refine r_istore hC dX9_command_133 (by rw [hnl]; decide) (L' := [(5, .int 0), (4, .int 0), (3, .int 0), (2, .int 0), (1, .int 4), (0, .ref m)]) rfl ?_
        refine r_vret hC hE hR dX9_command_135 (by omega) (by omega) (by simp only [ew_14, ew_1, List.length_set]) ?_
        exact Or.inr (Or.inl ⟨(4, 0, 0, 0), k_1, lt_1, r_14, e9, by have := pWord_gt hw_1; omega, hk_1, he_14, hr_14, rfl, by simp only [ew_14, ew_1, List.set_set]⟩)
    · show Wp X 0 0 w_1 [(0, .ref m)] [.int 5] 4
      refine r_istore_n hC dX9_command_4 rfl (by rw [hnl]; decide) (L' := [(1, .int 5), (0, .ref m)]) rfl ?_
      refine r_iconst hC dX9_command_5 (v := 0) (by decide) ?_
      refine r_istore_n hC dX9_command_6 rfl (by rw [hnl]; decide) (L' := [(2, .int 0), (1, .int 5), (0, .ref m)]) rfl ?_
      refine r_iconst hC dX9_command_7 (v := 0) (by decide) ?_
      refine r_istore_n hC dX9_command_8 rfl (by rw [hnl]; decide) (L' := [(3, .int 0), (2, .int 0), (1, .int 5), (0, .ref m)]) rfl ?_
      refine r_iconst hC dX9_command_9 (v := 0) (by decide) ?_
      refine r_istore hC dX9_command_10 (by rw [hnl]; decide) (L' := [(4, .int 0), (3, .int 0), (2, .int 0), (1, .int 5), (0, .ref m)]) rfl ?_
      refine r_aload_n hC dX9_command_12 rfl (j := 4) rfl ?_
      refine r_get hC gX9_command_13 hf1_m (v := .int 0) rfl ?_
      refine r_if_eq hC dX9_command_16 (tgt := 20) (by decide) (fun _ => ?_) (fun h => absurd (by decide) h)
      refine r_iload_n hC dX9_command_20 rfl (j := 3) rfl ?_
      refine r_iconst hC dX9_command_21 (v := 4) (by decide) ?_
      refine r_icmp_lt hC dX9_command_22 (tgt := 30) (by decide) (fun h => absurd h (by decide)) (fun _ => ?_)
      refine r_iload_n hC dX9_command_25 rfl (j := 3) rfl ?_
      refine r_iconst hC dX9_command_26 (v := 5) (by decide) ?_
      refine r_icmp_ne hC dX9_command_27 (tgt := 49) (by decide) (fun h => absurd (by decide) h) (fun _ => ?_)
      refine r_aload_n hC dX9_command_30 rfl (j := 4) rfl ?_
      refine r_iload_n hC dX9_command_31 rfl (j := 3) rfl ?_
      refine r_if_eq hC dX9_command_32 (tgt := 40) (by decide) (fun h => absurd h (by decide)) (fun _ => ?_)
      refine r_iload_n hC dX9_command_35 rfl (j := 3) rfl ?_
      refine r_iconst hC dX9_command_36 (v := 2) (by decide) ?_
      refine r_icmp_ne hC dX9_command_37 (tgt := 44) (by decide) (fun _ => ?_) (fun h => absurd h (by decide))
      refine r_iconst hC dX9_command_44 (v := 1) (by decide) ?_
      refine r_callV hC (vs := [.int 1]) vX9_command_45 (sm_digits1 (d := d + 7) (h := k_1) (e := e) hf1_m hf1__m___6_ he hk_1) hf1_m rfl rfl (by omega) (by omega) (by omega) (Nat.le_of_ble_eq_true rfl) (fun v_15 w_15 hP_15 hlen_15 => ?_) (fun _ _ h => h.elim)
      rcases hP_15 with ⟨x_15, k_15, hd_15, hk_15, hl_15, hv_15, ew_15⟩ | ⟨hd_15, hv_15, ew_15⟩
      · rw [hv_15]
        have hf15_m : w_15[m]? = some (mO 10 [.int 0, .int ch, .int ea, .int fa, .int sv0, .ref (m + 1), .ref (m + 2), .ref (m + 3), .ref (m + 4), .ref (m + 5), .ref (m + 6), .ref (m + 7), .ref (m + 8), .ref (m + 9), .ref (m + 10), .int tn, .int (nI k_15), .int (nI e), .int ln, .int 0, .int 1]) := by rw [ew_15]; exact List.getElem?_set_self (lt_of_get hf1_m)
        have hf15__m___6_ : w_15[(m + 6)]? = some (mI 0 60 tx) := by rw [ew_15, List.getElem?_set_ne (by omega)]; exact hf1__m___6_
        have hf15__m___8_ : w_15[(m + 8)]? = some (mI 0 8 lt_1) := by rw [ew_15, List.getElem?_set_ne (by omega)]; exact hf1__m___8_
        have hf15__m___9_ : w_15[(m + 9)]? = some (mI 0 41 wdF) := by rw [ew_15, List.getElem?_set_ne (by omega)]; exact hf1__m___9_
        have hf15__m___10_ : w_15[(m + 10)]? = some (mI 0 9 waF) := by rw [ew_15, List.getElem?_set_ne (by omega)]; exact hf1__m___10_
        have hf15__m___1_ : w_15[(m + 1)]? = some (mI 0 67 (enc ((f, g, sl, op, lo), hd, rs, np, tp, av, lg, pl, tk))) := by rw [ew_15, List.getElem?_set_ne (by omega)]; exact hf1__m___1_
        show Wp X 0 0 w_15 [(4, .int 0), (3, .int 0), (2, .int 0), (1, .int 5), (0, .ref m)] [.int x_15] 48
        refine r_istore_n hC dX9_command_48 rfl (by rw [hnl]; decide) (L' := [(2, .int x_15), (4, .int 0), (3, .int 0), (1, .int 5), (0, .ref m)]) rfl ?_
        refine r_iload_n hC dX9_command_49 rfl (j := 3) rfl ?_
        refine r_iconst hC dX9_command_50 (v := 1) (by decide) ?_
        refine r_icmp_eq hC dX9_command_51 (tgt := 59) (by decide) (fun h => absurd h (by decide)) (fun _ => ?_)
        refine r_iload_n hC dX9_command_54 rfl (j := 3) rfl ?_
        refine r_iconst hC dX9_command_55 (v := 3) (by decide) ?_
        refine r_icmp_ne hC dX9_command_56 (tgt := 72) (by decide) (fun _ => ?_) (fun h => absurd h (by decide))
        refine r_iload_n hC dX9_command_72 rfl (j := 3) rfl ?_
        refine r_iconst hC dX9_command_73 (v := 2) (by decide) ?_
        refine r_icmp_ne hC dX9_command_74 (tgt := 90) (by decide) (fun _ => ?_) (fun h => absurd h (by decide))
        refine r_iload_n hC dX9_command_90 rfl (j := 3) rfl ?_
        refine r_iconst hC dX9_command_91 (v := 1) (by decide) ?_
        refine r_icmp_ne hC dX9_command_92 (tgt := 109) (by decide) (fun _ => ?_) (fun h => absurd h (by decide))
        refine r_aload_n hC dX9_command_109 rfl (j := 4) rfl ?_
        refine r_get hC gX9_command_110 hf15_m (v := .int 0) rfl ?_
        refine r_if_ne hC dX9_command_113 (tgt := 123) (by decide) (fun h => absurd (by decide) h) (fun _ => ?_)
        refine r_aload_n hC dX9_command_116 rfl (j := 4) rfl ?_
        refine r_get hC gX9_command_117 hf15_m (v := .int 1) rfl ?_
        refine r_if_ne hC dX9_command_120 (tgt := 124) (by decide) (fun _ => ?_) (fun h => absurd h (by decide))
        refine r_aload_n hC dX9_command_124 rfl (j := 4) rfl ?_
        refine r_iload_n hC dX9_command_125 rfl (j := 3) rfl ?_
        refine r_iload_n hC dX9_command_126 rfl (j := 0) rfl ?_
        refine r_iload_n hC dX9_command_127 rfl (j := 2) rfl ?_
        refine r_iload hC dX9_command_128 (j := 1) rfl ?_
        have e9 : pCmd tx e h = (some (5, x_15, 0, 0), k_15) := by simp only [pCmd, pArgs, hw_1, hd_15]
        refine r_callV hC (vs := [.int 5, .int x_15, .int 0, .int 0]) vX9_command_130 (sm_does5 (d := d) hf15_m hf15__m___1_ h25 hop hlg hnp (((hT _ _ e9).resolve_left (show ¬ (5 : Nat) = 0 by decide)).resolve_left (show ¬ (5 : Nat) = 4 by decide))) hf15_m rfl rfl (by omega) (by omega) (by omega) (Nat.le_of_ble_eq_true rfl) (fun v_16 w_16 hP_16 hlen_16 => ?_) (fun _ _ h => h.elim)
        rcases hP_16 with ⟨he_16, r_16, hv_16, ew_16⟩ | ⟨he_16, r_16, hr_16, hv_16, ew_16⟩
        · rw [hv_16]
          have hf16_m : w_16[m]? = some (mO 10 [.int 0, .int ch, .int ea, .int fa, .int sv0, .ref (m + 1), .ref (m + 2), .ref (m + 3), .ref (m + 4), .ref (m + 5), .ref (m + 6), .ref (m + 7), .ref (m + 8), .ref (m + 9), .ref (m + 10), .int tn, .int (nI k_15), .int (nI e), .int ln, .int 0, .int 1]) := by rw [ew_16, List.getElem?_set_ne (by omega)]; exact hf15_m
          have hf16__m___6_ : w_16[(m + 6)]? = some (mI 0 60 tx) := by rw [ew_16, List.getElem?_set_ne (by omega)]; exact hf15__m___6_
          have hf16__m___8_ : w_16[(m + 8)]? = some (mI 0 8 lt_1) := by rw [ew_16, List.getElem?_set_ne (by omega)]; exact hf15__m___8_
          have hf16__m___9_ : w_16[(m + 9)]? = some (mI 0 41 wdF) := by rw [ew_16, List.getElem?_set_ne (by omega)]; exact hf15__m___9_
          have hf16__m___10_ : w_16[(m + 10)]? = some (mI 0 9 waF) := by rw [ew_16, List.getElem?_set_ne (by omega)]; exact hf15__m___10_
          have hf16__m___1_ : w_16[(m + 1)]? = some (mI 0 67 (enc (((cmdDo ((f, g, sl, op, lo), hd, rs, np, tp, av, lg, pl, tk) (5, x_15, 0, 0)).1.1, (cmdDo ((f, g, sl, op, lo), hd, rs, np, tp, av, lg, pl, tk) (5, x_15, 0, 0)).1.2.1, (cmdDo ((f, g, sl, op, lo), hd, rs, np, tp, av, lg, pl, tk) (5, x_15, 0, 0)).1.2.2.1, (cmdDo ((f, g, sl, op, lo), hd, rs, np, tp, av, lg, pl, tk) (5, x_15, 0, 0)).1.2.2.2.1, (cmdDo ((f, g, sl, op, lo), hd, rs, np, tp, av, lg, pl, tk) (5, x_15, 0, 0)).1.2.2.2.2), (cmdDo ((f, g, sl, op, lo), hd, rs, np, tp, av, lg, pl, tk) (5, x_15, 0, 0)).2.1, (cmdDo ((f, g, sl, op, lo), hd, rs, np, tp, av, lg, pl, tk) (5, x_15, 0, 0)).2.2.1, (cmdDo ((f, g, sl, op, lo), hd, rs, np, tp, av, lg, pl, tk) (5, x_15, 0, 0)).2.2.2.1, (cmdDo ((f, g, sl, op, lo), hd, rs, np, tp, av, lg, pl, tk) (5, x_15, 0, 0)).2.2.2.2.1, (cmdDo ((f, g, sl, op, lo), hd, rs, np, tp, av, lg, pl, tk) (5, x_15, 0, 0)).2.2.2.2.2.1, (cmdDo ((f, g, sl, op, lo), hd, rs, np, tp, av, lg, pl, tk) (5, x_15, 0, 0)).2.2.2.2.2.2.1, (cmdDo ((f, g, sl, op, lo), hd, rs, np, tp, av, lg, pl, tk) (5, x_15, 0, 0)).2.2.2.2.2.2.2.1, (cmdDo ((f, g, sl, op, lo), hd, rs, np, tp, av, lg, pl, tk) (5, x_15, 0, 0)).2.2.2.2.2.2.2.2))) := by rw [ew_16]; exact List.getElem?_set_self (lt_of_get hf15__m___1_)
          show Wp X 0 0 w_16 [(2, .int x_15), (4, .int 0), (3, .int 0), (1, .int 5), (0, .ref m)] [.int r_16] 133
          refine r_istore hC dX9_command_133 (by rw [hnl]; decide) (L' := [(5, .int r_16), (2, .int x_15), (4, .int 0), (3, .int 0), (1, .int 5), (0, .ref m)]) rfl ?_
          refine r_vret hC hE hR dX9_command_135 (by omega) (by omega) (by simp only [ew_16, ew_15, ew_1, List.length_set]) ?_
          exact Or.inl ⟨(5, x_15, 0, 0), k_15, lt_1, e9, by have := pWord_gt hw_1; omega, hk_15, he_16, rfl, by simp only [ew_16, ew_15, ew_1, List.set_set]⟩
        · rw [hv_16]
          have hf16_m : w_16[m]? = some (mO 10 [.int r_16, .int ch, .int ea, .int fa, .int sv0, .ref (m + 1), .ref (m + 2), .ref (m + 3), .ref (m + 4), .ref (m + 5), .ref (m + 6), .ref (m + 7), .ref (m + 8), .ref (m + 9), .ref (m + 10), .int tn, .int (nI k_15), .int (nI e), .int ln, .int 0, .int 1]) := by rw [ew_16]; exact List.getElem?_set_self (lt_of_get hf15_m)
          have hf16__m___6_ : w_16[(m + 6)]? = some (mI 0 60 tx) := by rw [ew_16, List.getElem?_set_ne (by omega)]; exact hf15__m___6_
          have hf16__m___8_ : w_16[(m + 8)]? = some (mI 0 8 lt_1) := by rw [ew_16, List.getElem?_set_ne (by omega)]; exact hf15__m___8_
          have hf16__m___9_ : w_16[(m + 9)]? = some (mI 0 41 wdF) := by rw [ew_16, List.getElem?_set_ne (by omega)]; exact hf15__m___9_
          have hf16__m___10_ : w_16[(m + 10)]? = some (mI 0 9 waF) := by rw [ew_16, List.getElem?_set_ne (by omega)]; exact hf15__m___10_
          have hf16__m___1_ : w_16[(m + 1)]? = some (mI 0 67 (enc ((f, g, sl, op, lo), hd, rs, np, tp, av, lg, pl, tk))) := by rw [ew_16, List.getElem?_set_ne (by omega)]; exact hf15__m___1_
          show Wp X 0 0 w_16 [(2, .int x_15), (4, .int 0), (3, .int 0), (1, .int 5), (0, .ref m)] [.int 0] 133
          refine r_istore hC dX9_command_133 (by rw [hnl]; decide) (L' := [(5, .int 0), (2, .int x_15), (4, .int 0), (3, .int 0), (1, .int 5), (0, .ref m)]) rfl ?_
          refine r_vret hC hE hR dX9_command_135 (by omega) (by omega) (by simp only [ew_16, ew_15, ew_1, List.length_set]) ?_
          exact Or.inr (Or.inl ⟨(5, x_15, 0, 0), k_15, lt_1, r_16, e9, by have := pWord_gt hw_1; omega, hk_15, he_16, hr_16, rfl, by simp only [ew_16, ew_15, ew_1, List.set_set]⟩)
      · rw [hv_15]
        have hf15_m : w_15[m]? = some (mO 10 [.int 0, .int ch, .int ea, .int fa, .int sv0, .ref (m + 1), .ref (m + 2), .ref (m + 3), .ref (m + 4), .ref (m + 5), .ref (m + 6), .ref (m + 7), .ref (m + 8), .ref (m + 9), .ref (m + 10), .int tn, .int (nI k_1), .int (nI e), .int ln, .int 1, .int 1]) := by rw [ew_15]; exact List.getElem?_set_self (lt_of_get hf1_m)
        have hf15__m___6_ : w_15[(m + 6)]? = some (mI 0 60 tx) := by rw [ew_15, List.getElem?_set_ne (by omega)]; exact hf1__m___6_
        have hf15__m___8_ : w_15[(m + 8)]? = some (mI 0 8 lt_1) := by rw [ew_15, List.getElem?_set_ne (by omega)]; exact hf1__m___8_
        have hf15__m___9_ : w_15[(m + 9)]? = some (mI 0 41 wdF) := by rw [ew_15, List.getElem?_set_ne (by omega)]; exact hf1__m___9_
        have hf15__m___10_ : w_15[(m + 10)]? = some (mI 0 9 waF) := by rw [ew_15, List.getElem?_set_ne (by omega)]; exact hf1__m___10_
        have hf15__m___1_ : w_15[(m + 1)]? = some (mI 0 67 (enc ((f, g, sl, op, lo), hd, rs, np, tp, av, lg, pl, tk))) := by rw [ew_15, List.getElem?_set_ne (by omega)]; exact hf1__m___1_
        show Wp X 0 0 w_15 [(4, .int 0), (3, .int 0), (2, .int 0), (1, .int 5), (0, .ref m)] [.int 0] 48
        refine r_istore_n hC dX9_command_48 rfl (by rw [hnl]; decide) (L' := [(2, .int 0), (4, .int 0), (3, .int 0), (1, .int 5), (0, .ref m)]) rfl ?_
        refine r_iload_n hC dX9_command_49 rfl (j := 3) rfl ?_
        refine r_iconst hC dX9_command_50 (v := 1) (by decide) ?_
        refine r_icmp_eq hC dX9_command_51 (tgt := 59) (by decide) (fun h => absurd h (by decide)) (fun _ => ?_)
        refine r_iload_n hC dX9_command_54 rfl (j := 3) rfl ?_
        refine r_iconst hC dX9_command_55 (v := 3) (by decide) ?_
        refine r_icmp_ne hC dX9_command_56 (tgt := 72) (by decide) (fun _ => ?_) (fun h => absurd h (by decide))
        refine r_iload_n hC dX9_command_72 rfl (j := 3) rfl ?_
        refine r_iconst hC dX9_command_73 (v := 2) (by decide) ?_
        refine r_icmp_ne hC dX9_command_74 (tgt := 90) (by decide) (fun _ => ?_) (fun h => absurd h (by decide))
        refine r_iload_n hC dX9_command_90 rfl (j := 3) rfl ?_
        refine r_iconst hC dX9_command_91 (v := 1) (by decide) ?_
        refine r_icmp_ne hC dX9_command_92 (tgt := 109) (by decide) (fun _ => ?_) (fun h => absurd h (by decide))
        refine r_aload_n hC dX9_command_109 rfl (j := 4) rfl ?_
        refine r_get hC gX9_command_110 hf15_m (v := .int 1) rfl ?_
        refine r_if_ne hC dX9_command_113 (tgt := 123) (by decide) (fun _ => ?_) (fun h => absurd h (by decide))
        refine r_vret hC hE hR dX9_command_123 (by omega) (by omega) (by simp only [ew_15, ew_1, List.length_set]) ?_
        exact Or.inr (Or.inr ⟨k_1, lt_1, by simp only [pCmd, pArgs, hw_1, hd_15], hk_1, rfl, by simp only [ew_15, ew_1, List.set_set]⟩)
    · show Wp X 0 0 w_1 [(0, .ref m)] [.int 6] 4
      refine r_istore_n hC dX9_command_4 rfl (by rw [hnl]; decide) (L' := [(1, .int 6), (0, .ref m)]) rfl ?_
      refine r_iconst hC dX9_command_5 (v := 0) (by decide) ?_
      refine r_istore_n hC dX9_command_6 rfl (by rw [hnl]; decide) (L' := [(2, .int 0), (1, .int 6), (0, .ref m)]) rfl ?_
      refine r_iconst hC dX9_command_7 (v := 0) (by decide) ?_
      refine r_istore_n hC dX9_command_8 rfl (by rw [hnl]; decide) (L' := [(3, .int 0), (2, .int 0), (1, .int 6), (0, .ref m)]) rfl ?_
      refine r_iconst hC dX9_command_9 (v := 0) (by decide) ?_
      refine r_istore hC dX9_command_10 (by rw [hnl]; decide) (L' := [(4, .int 0), (3, .int 0), (2, .int 0), (1, .int 6), (0, .ref m)]) rfl ?_
      refine r_aload_n hC dX9_command_12 rfl (j := 4) rfl ?_
      refine r_get hC gX9_command_13 hf1_m (v := .int 0) rfl ?_
      refine r_if_eq hC dX9_command_16 (tgt := 20) (by decide) (fun _ => ?_) (fun h => absurd (by decide) h)
      refine r_iload_n hC dX9_command_20 rfl (j := 3) rfl ?_
      refine r_iconst hC dX9_command_21 (v := 4) (by decide) ?_
      refine r_icmp_lt hC dX9_command_22 (tgt := 30) (by decide) (fun h => absurd h (by decide)) (fun _ => ?_)
      refine r_iload_n hC dX9_command_25 rfl (j := 3) rfl ?_
      refine r_iconst hC dX9_command_26 (v := 5) (by decide) ?_
      refine r_icmp_ne hC dX9_command_27 (tgt := 49) (by decide) (fun _ => ?_) (fun h => absurd h (by decide))
      refine r_iload_n hC dX9_command_49 rfl (j := 3) rfl ?_
      refine r_iconst hC dX9_command_50 (v := 1) (by decide) ?_
      refine r_icmp_eq hC dX9_command_51 (tgt := 59) (by decide) (fun h => absurd h (by decide)) (fun _ => ?_)
      refine r_iload_n hC dX9_command_54 rfl (j := 3) rfl ?_
      refine r_iconst hC dX9_command_55 (v := 3) (by decide) ?_
      refine r_icmp_ne hC dX9_command_56 (tgt := 72) (by decide) (fun _ => ?_) (fun h => absurd h (by decide))
      refine r_iload_n hC dX9_command_72 rfl (j := 3) rfl ?_
      refine r_iconst hC dX9_command_73 (v := 2) (by decide) ?_
      refine r_icmp_ne hC dX9_command_74 (tgt := 90) (by decide) (fun _ => ?_) (fun h => absurd h (by decide))
      refine r_iload_n hC dX9_command_90 rfl (j := 3) rfl ?_
      refine r_iconst hC dX9_command_91 (v := 1) (by decide) ?_
      refine r_icmp_ne hC dX9_command_92 (tgt := 109) (by decide) (fun _ => ?_) (fun h => absurd h (by decide))
      refine r_aload_n hC dX9_command_109 rfl (j := 4) rfl ?_
      refine r_get hC gX9_command_110 hf1_m (v := .int 0) rfl ?_
      refine r_if_ne hC dX9_command_113 (tgt := 123) (by decide) (fun h => absurd (by decide) h) (fun _ => ?_)
      refine r_aload_n hC dX9_command_116 rfl (j := 4) rfl ?_
      refine r_get hC gX9_command_117 hf1_m (v := .int 1) rfl ?_
      refine r_if_ne hC dX9_command_120 (tgt := 124) (by decide) (fun _ => ?_) (fun h => absurd h (by decide))
      refine r_aload_n hC dX9_command_124 rfl (j := 4) rfl ?_
      refine r_iload_n hC dX9_command_125 rfl (j := 3) rfl ?_
      refine r_iload_n hC dX9_command_126 rfl (j := 2) rfl ?_
      refine r_iload_n hC dX9_command_127 rfl (j := 1) rfl ?_
      refine r_iload hC dX9_command_128 (j := 0) rfl ?_
      have e9 : pCmd tx e h = (some (6, 0, 0, 0), k_1) := by simp only [pCmd, pArgs, hw_1]
      refine r_callV hC (vs := [.int 6, .int 0, .int 0, .int 0]) vX9_command_130 (sm_does6 (d := d) hf1_m hf1__m___1_ h25 hop hlg hnp (((hT _ _ e9).resolve_left (show ¬ (6 : Nat) = 0 by decide)).resolve_left (show ¬ (6 : Nat) = 4 by decide))) hf1_m rfl rfl (by omega) (by omega) (by omega) (Nat.le_of_ble_eq_true rfl) (fun v_17 w_17 hP_17 hlen_17 => ?_) (fun _ _ h => h.elim)
      rcases hP_17 with ⟨he_17, r_17, hv_17, ew_17⟩ | ⟨he_17, r_17, hr_17, hv_17, ew_17⟩
      · rw [hv_17]
        have hf17_m : w_17[m]? = some (mO 10 [.int 0, .int ch, .int ea, .int fa, .int sv0, .ref (m + 1), .ref (m + 2), .ref (m + 3), .ref (m + 4), .ref (m + 5), .ref (m + 6), .ref (m + 7), .ref (m + 8), .ref (m + 9), .ref (m + 10), .int tn, .int (nI k_1), .int (nI e), .int ln, .int 0, .int 1]) := by rw [ew_17, List.getElem?_set_ne (by omega)]; exact hf1_m
        have hf17__m___6_ : w_17[(m + 6)]? = some (mI 0 60 tx) := by rw [ew_17, List.getElem?_set_ne (by omega)]; exact hf1__m___6_
        have hf17__m___8_ : w_17[(m + 8)]? = some (mI 0 8 lt_1) := by rw [ew_17, List.getElem?_set_ne (by omega)]; exact hf1__m___8_
        have hf17__m___9_ : w_17[(m + 9)]? = some (mI 0 41 wdF) := by rw [ew_17, List.getElem?_set_ne (by omega)]; exact hf1__m___9_
        have hf17__m___10_ : w_17[(m + 10)]? = some (mI 0 9 waF) := by rw [ew_17, List.getElem?_set_ne (by omega)]; exact hf1__m___10_
        have hf17__m___1_ : w_17[(m + 1)]? = some (mI 0 67 (enc (((cmdDo ((f, g, sl, op, lo), hd, rs, np, tp, av, lg, pl, tk) (6, 0, 0, 0)).1.1, (cmdDo ((f, g, sl, op, lo), hd, rs, np, tp, av, lg, pl, tk) (6, 0, 0, 0)).1.2.1, (cmdDo ((f, g, sl, op, lo), hd, rs, np, tp, av, lg, pl, tk) (6, 0, 0, 0)).1.2.2.1, (cmdDo ((f, g, sl, op, lo), hd, rs, np, tp, av, lg, pl, tk) (6, 0, 0, 0)).1.2.2.2.1, (cmdDo ((f, g, sl, op, lo), hd, rs, np, tp, av, lg, pl, tk) (6, 0, 0, 0)).1.2.2.2.2), (cmdDo ((f, g, sl, op, lo), hd, rs, np, tp, av, lg, pl, tk) (6, 0, 0, 0)).2.1, (cmdDo ((f, g, sl, op, lo), hd, rs, np, tp, av, lg, pl, tk) (6, 0, 0, 0)).2.2.1, (cmdDo ((f, g, sl, op, lo), hd, rs, np, tp, av, lg, pl, tk) (6, 0, 0, 0)).2.2.2.1, (cmdDo ((f, g, sl, op, lo), hd, rs, np, tp, av, lg, pl, tk) (6, 0, 0, 0)).2.2.2.2.1, (cmdDo ((f, g, sl, op, lo), hd, rs, np, tp, av, lg, pl, tk) (6, 0, 0, 0)).2.2.2.2.2.1, (cmdDo ((f, g, sl, op, lo), hd, rs, np, tp, av, lg, pl, tk) (6, 0, 0, 0)).2.2.2.2.2.2.1, (cmdDo ((f, g, sl, op, lo), hd, rs, np, tp, av, lg, pl, tk) (6, 0, 0, 0)).2.2.2.2.2.2.2.1, (cmdDo ((f, g, sl, op, lo), hd, rs, np, tp, av, lg, pl, tk) (6, 0, 0, 0)).2.2.2.2.2.2.2.2))) := by rw [ew_17]; exact List.getElem?_set_self (lt_of_get hf1__m___1_)
        show Wp X 0 0 w_17 [(4, .int 0), (3, .int 0), (2, .int 0), (1, .int 6), (0, .ref m)] [.int r_17] 133
        refine r_istore hC dX9_command_133 (by rw [hnl]; decide) (L' := [(5, .int r_17), (4, .int 0), (3, .int 0), (2, .int 0), (1, .int 6), (0, .ref m)]) rfl ?_
        refine r_vret hC hE hR dX9_command_135 (by omega) (by omega) (by simp only [ew_17, ew_1, List.length_set]) ?_
        exact Or.inl ⟨(6, 0, 0, 0), k_1, lt_1, e9, by have := pWord_gt hw_1; omega, hk_1, he_17, rfl, by simp only [ew_17, ew_1, List.set_set]⟩
      · rw [hv_17]
        have hf17_m : w_17[m]? = some (mO 10 [.int r_17, .int ch, .int ea, .int fa, .int sv0, .ref (m + 1), .ref (m + 2), .ref (m + 3), .ref (m + 4), .ref (m + 5), .ref (m + 6), .ref (m + 7), .ref (m + 8), .ref (m + 9), .ref (m + 10), .int tn, .int (nI k_1), .int (nI e), .int ln, .int 0, .int 1]) := by rw [ew_17]; exact List.getElem?_set_self (lt_of_get hf1_m)
        have hf17__m___6_ : w_17[(m + 6)]? = some (mI 0 60 tx) := by rw [ew_17, List.getElem?_set_ne (by omega)]; exact hf1__m___6_
        have hf17__m___8_ : w_17[(m + 8)]? = some (mI 0 8 lt_1) := by rw [ew_17, List.getElem?_set_ne (by omega)]; exact hf1__m___8_
        have hf17__m___9_ : w_17[(m + 9)]? = some (mI 0 41 wdF) := by rw [ew_17, List.getElem?_set_ne (by omega)]; exact hf1__m___9_
        have hf17__m___10_ : w_17[(m + 10)]? = some (mI 0 9 waF) := by rw [ew_17, List.getElem?_set_ne (by omega)]; exact hf1__m___10_
        have hf17__m___1_ : w_17[(m + 1)]? = some (mI 0 67 (enc ((f, g, sl, op, lo), hd, rs, np, tp, av, lg, pl, tk))) := by rw [ew_17, List.getElem?_set_ne (by omega)]; exact hf1__m___1_
        show Wp X 0 0 w_17 [(4, .int 0), (3, .int 0), (2, .int 0), (1, .int 6), (0, .ref m)] [.int 0] 133
        refine r_istore hC dX9_command_133 (by rw [hnl]; decide) (L' := [(5, .int 0), (4, .int 0), (3, .int 0), (2, .int 0), (1, .int 6), (0, .ref m)]) rfl ?_
        refine r_vret hC hE hR dX9_command_135 (by omega) (by omega) (by simp only [ew_17, ew_1, List.length_set]) ?_
        exact Or.inr (Or.inl ⟨(6, 0, 0, 0), k_1, lt_1, r_17, e9, by have := pWord_gt hw_1; omega, hk_1, he_17, hr_17, rfl, by simp only [ew_17, ew_1, List.set_set]⟩)
    · show Wp X 0 0 w_1 [(0, .ref m)] [.int 7] 4
      refine r_istore_n hC dX9_command_4 rfl (by rw [hnl]; decide) (L' := [(1, .int 7), (0, .ref m)]) rfl ?_
      refine r_iconst hC dX9_command_5 (v := 0) (by decide) ?_
      refine r_istore_n hC dX9_command_6 rfl (by rw [hnl]; decide) (L' := [(2, .int 0), (1, .int 7), (0, .ref m)]) rfl ?_
      refine r_iconst hC dX9_command_7 (v := 0) (by decide) ?_
      refine r_istore_n hC dX9_command_8 rfl (by rw [hnl]; decide) (L' := [(3, .int 0), (2, .int 0), (1, .int 7), (0, .ref m)]) rfl ?_
      refine r_iconst hC dX9_command_9 (v := 0) (by decide) ?_
      refine r_istore hC dX9_command_10 (by rw [hnl]; decide) (L' := [(4, .int 0), (3, .int 0), (2, .int 0), (1, .int 7), (0, .ref m)]) rfl ?_
      refine r_aload_n hC dX9_command_12 rfl (j := 4) rfl ?_
      refine r_get hC gX9_command_13 hf1_m (v := .int 0) rfl ?_
      refine r_if_eq hC dX9_command_16 (tgt := 20) (by decide) (fun _ => ?_) (fun h => absurd (by decide) h)
      refine r_iload_n hC dX9_command_20 rfl (j := 3) rfl ?_
      refine r_iconst hC dX9_command_21 (v := 4) (by decide) ?_
      refine r_icmp_lt hC dX9_command_22 (tgt := 30) (by decide) (fun h => absurd h (by decide)) (fun _ => ?_)
      refine r_iload_n hC dX9_command_25 rfl (j := 3) rfl ?_
      refine r_iconst hC dX9_command_26 (v := 5) (by decide) ?_
      refine r_icmp_ne hC dX9_command_27 (tgt := 49) (by decide) (fun _ => ?_) (fun h => absurd h (by decide))
      refine r_iload_n hC dX9_command_49 rfl (j := 3) rfl ?_
      refine r_iconst hC dX9_command_50 (v := 1) (by decide) ?_
      refine r_icmp_eq hC dX9_command_51 (tgt := 59) (by decide) (fun h => absurd h (by decide)) (fun _ => ?_)
      refine r_iload_n hC dX9_command_54 rfl (j := 3) rfl ?_
      refine r_iconst hC dX9_command_55 (v := 3) (by decide) ?_
      refine r_icmp_ne hC dX9_command_56 (tgt := 72) (by decide) (fun _ => ?_) (fun h => absurd h (by decide))
      refine r_iload_n hC dX9_command_72 rfl (j := 3) rfl ?_
      refine r_iconst hC dX9_command_73 (v := 2) (by decide) ?_
      refine r_icmp_ne hC dX9_command_74 (tgt := 90) (by decide) (fun _ => ?_) (fun h => absurd h (by decide))
      refine r_iload_n hC dX9_command_90 rfl (j := 3) rfl ?_
      refine r_iconst hC dX9_command_91 (v := 1) (by decide) ?_
      refine r_icmp_ne hC dX9_command_92 (tgt := 109) (by decide) (fun _ => ?_) (fun h => absurd h (by decide))
      refine r_aload_n hC dX9_command_109 rfl (j := 4) rfl ?_
      refine r_get hC gX9_command_110 hf1_m (v := .int 0) rfl ?_
      refine r_if_ne hC dX9_command_113 (tgt := 123) (by decide) (fun h => absurd (by decide) h) (fun _ => ?_)
      refine r_aload_n hC dX9_command_116 rfl (j := 4) rfl ?_
      refine r_get hC gX9_command_117 hf1_m (v := .int 1) rfl ?_
      refine r_if_ne hC dX9_command_120 (tgt := 124) (by decide) (fun _ => ?_) (fun h => absurd h (by decide))
      refine r_aload_n hC dX9_command_124 rfl (j := 4) rfl ?_
      refine r_iload_n hC dX9_command_125 rfl (j := 3) rfl ?_
      refine r_iload_n hC dX9_command_126 rfl (j := 2) rfl ?_
      refine r_iload_n hC dX9_command_127 rfl (j := 1) rfl ?_
      refine r_iload hC dX9_command_128 (j := 0) rfl ?_
      have e9 : pCmd tx e h = (some (7, 0, 0, 0), k_1) := by simp only [pCmd, pArgs, hw_1]
      refine r_callV hC (vs := [.int 7, .int 0, .int 0, .int 0]) vX9_command_130 (sm_does7 (d := d) hf1_m hf1__m___1_ h25 hop hlg hnp (((hT _ _ e9).resolve_left (show ¬ (7 : Nat) = 0 by decide)).resolve_left (show ¬ (7 : Nat) = 4 by decide))) hf1_m rfl rfl (by omega) (by omega) (by omega) (Nat.le_of_ble_eq_true rfl) (fun v_18 w_18 hP_18 hlen_18 => ?_) (fun _ _ h => h.elim)
      rcases hP_18 with ⟨he_18, r_18, hv_18, ew_18⟩ | ⟨he_18, r_18, hr_18, hv_18, ew_18⟩
      · rw [hv_18]
        have hf18_m : w_18[m]? = some (mO 10 [.int 0, .int ch, .int ea, .int fa, .int sv0, .ref (m + 1), .ref (m + 2), .ref (m + 3), .ref (m + 4), .ref (m + 5), .ref (m + 6), .ref (m + 7), .ref (m + 8), .ref (m + 9), .ref (m + 10), .int tn, .int (nI k_1), .int (nI e), .int ln, .int 0, .int 1]) := by rw [ew_18, List.getElem?_set_ne (by omega)]; exact hf1_m
        have hf18__m___6_ : w_18[(m + 6)]? = some (mI 0 60 tx) := by rw [ew_18, List.getElem?_set_ne (by omega)]; exact hf1__m___6_
        have hf18__m___8_ : w_18[(m + 8)]? = some (mI 0 8 lt_1) := by rw [ew_18, List.getElem?_set_ne (by omega)]; exact hf1__m___8_
        have hf18__m___9_ : w_18[(m + 9)]? = some (mI 0 41 wdF) := by rw [ew_18, List.getElem?_set_ne (by omega)]; exact hf1__m___9_
        have hf18__m___10_ : w_18[(m + 10)]? = some (mI 0 9 waF) := by rw [ew_18, List.getElem?_set_ne (by omega)]; exact hf1__m___10_
        have hf18__m___1_ : w_18[(m + 1)]? = some (mI 0 67 (enc (((cmdDo ((f, g, sl, op, lo), hd, rs, np, tp, av, lg, pl, tk) (7, 0, 0, 0)).1.1, (cmdDo ((f, g, sl, op, lo), hd, rs, np, tp, av, lg, pl, tk) (7, 0, 0, 0)).1.2.1, (cmdDo ((f, g, sl, op, lo), hd, rs, np, tp, av, lg, pl, tk) (7, 0, 0, 0)).1.2.2.1, (cmdDo ((f, g, sl, op, lo), hd, rs, np, tp, av, lg, pl, tk) (7, 0, 0, 0)).1.2.2.2.1, (cmdDo ((f, g, sl, op, lo), hd, rs, np, tp, av, lg, pl, tk) (7, 0, 0, 0)).1.2.2.2.2), (cmdDo ((f, g, sl, op, lo), hd, rs, np, tp, av, lg, pl, tk) (7, 0, 0, 0)).2.1, (cmdDo ((f, g, sl, op, lo), hd, rs, np, tp, av, lg, pl, tk) (7, 0, 0, 0)).2.2.1, (cmdDo ((f, g, sl, op, lo), hd, rs, np, tp, av, lg, pl, tk) (7, 0, 0, 0)).2.2.2.1, (cmdDo ((f, g, sl, op, lo), hd, rs, np, tp, av, lg, pl, tk) (7, 0, 0, 0)).2.2.2.2.1, (cmdDo ((f, g, sl, op, lo), hd, rs, np, tp, av, lg, pl, tk) (7, 0, 0, 0)).2.2.2.2.2.1, (cmdDo ((f, g, sl, op, lo), hd, rs, np, tp, av, lg, pl, tk) (7, 0, 0, 0)).2.2.2.2.2.2.1, (cmdDo ((f, g, sl, op, lo), hd, rs, np, tp, av, lg, pl, tk) (7, 0, 0, 0)).2.2.2.2.2.2.2.1, (cmdDo ((f, g, sl, op, lo), hd, rs, np, tp, av, lg, pl, tk) (7, 0, 0, 0)).2.2.2.2.2.2.2.2))) := by rw [ew_18]; exact List.getElem?_set_self (lt_of_get hf1__m___1_)
        show Wp X 0 0 w_18 [(4, .int 0), (3, .int 0), (2, .int 0), (1, .int 7), (0, .ref m)] [.int r_18] 133
        refine r_istore hC dX9_command_133 (by rw [hnl]; decide) (L' := [(5, .int r_18), (4, .int 0), (3, .int 0), (2, .int 0), (1, .int 7), (0, .ref m)]) rfl ?_
        refine r_vret hC hE hR dX9_command_135 (by omega) (by omega) (by simp only [ew_18, ew_1, List.length_set]) ?_
        exact Or.inl ⟨(7, 0, 0, 0), k_1, lt_1, e9, by have := pWord_gt hw_1; omega, hk_1, he_18, rfl, by simp only [ew_18, ew_1, List.set_set]⟩
      · rw [hv_18]
        have hf18_m : w_18[m]? = some (mO 10 [.int r_18, .int ch, .int ea, .int fa, .int sv0, .ref (m + 1), .ref (m + 2), .ref (m + 3), .ref (m + 4), .ref (m + 5), .ref (m + 6), .ref (m + 7), .ref (m + 8), .ref (m + 9), .ref (m + 10), .int tn, .int (nI k_1), .int (nI e), .int ln, .int 0, .int 1]) := by rw [ew_18]; exact List.getElem?_set_self (lt_of_get hf1_m)
        have hf18__m___6_ : w_18[(m + 6)]? = some (mI 0 60 tx) := by rw [ew_18, List.getElem?_set_ne (by omega)]; exact hf1__m___6_
        have hf18__m___8_ : w_18[(m + 8)]? = some (mI 0 8 lt_1) := by rw [ew_18, List.getElem?_set_ne (by omega)]; exact hf1__m___8_
        have hf18__m___9_ : w_18[(m + 9)]? = some (mI 0 41 wdF) := by rw [ew_18, List.getElem?_set_ne (by omega)]; exact hf1__m___9_
        have hf18__m___10_ : w_18[(m + 10)]? = some (mI 0 9 waF) := by rw [ew_18, List.getElem?_set_ne (by omega)]; exact hf1__m___10_
        have hf18__m___1_ : w_18[(m + 1)]? = some (mI 0 67 (enc ((f, g, sl, op, lo), hd, rs, np, tp, av, lg, pl, tk))) := by rw [ew_18, List.getElem?_set_ne (by omega)]; exact hf1__m___1_
        show Wp X 0 0 w_18 [(4, .int 0), (3, .int 0), (2, .int 0), (1, .int 7), (0, .ref m)] [.int 0] 133
        refine r_istore hC dX9_command_133 (by rw [hnl]; decide) (L' := [(5, .int 0), (4, .int 0), (3, .int 0), (2, .int 0), (1, .int 7), (0, .ref m)]) rfl ?_
        refine r_vret hC hE hR dX9_command_135 (by omega) (by omega) (by simp only [ew_18, ew_1, List.length_set]) ?_
        exact Or.inr (Or.inl ⟨(7, 0, 0, 0), k_1, lt_1, r_18, e9, by have := pWord_gt hw_1; omega, hk_1, he_18, hr_18, rfl, by simp only [ew_18, ew_1, List.set_set]⟩)
  · rw [hv_1]
    have hf1_m : w_1[m]? = some (mO 10 [.int 0, .int ch, .int ea, .int fa, .int sv0, .ref (m + 1), .ref (m + 2), .ref (m + 3), .ref (m + 4), .ref (m + 5), .ref (m + 6), .ref (m + 7), .ref (m + 8), .ref (m + 9), .ref (m + 10), .int tn, .int (nI k_1), .int (nI e), .int ln, .int 1, .int 1]) := by rw [ew_1]; exact List.getElem?_set_self (by simp only [List.length_set]; exact lt_of_get hm)
    have hf1__m___6_ : w_1[(m + 6)]? = some (mI 0 60 tx) := by rw [ew_1, List.getElem?_set_ne (by omega), List.getElem?_set_ne (by omega)]; exact htx
    have hf1__m___8_ : w_1[(m + 8)]? = some (mI 0 8 lt_1) := by rw [ew_1, List.getElem?_set_ne (by omega)]; exact List.getElem?_set_self (lt_of_get hlt)
    have hf1__m___9_ : w_1[(m + 9)]? = some (mI 0 41 wdF) := by rw [ew_1, List.getElem?_set_ne (by omega), List.getElem?_set_ne (by omega)]; exact hwd
    have hf1__m___10_ : w_1[(m + 10)]? = some (mI 0 9 waF) := by rw [ew_1, List.getElem?_set_ne (by omega), List.getElem?_set_ne (by omega)]; exact hwa
    have hf1__m___1_ : w_1[(m + 1)]? = some (mI 0 67 (enc ((f, g, sl, op, lo), hd, rs, np, tp, av, lg, pl, tk))) := by rw [ew_1, List.getElem?_set_ne (by omega), List.getElem?_set_ne (by omega)]; exact hv
    show Wp X 0 0 w_1 [(0, .ref m)] [.int (-1)] 4
    refine r_istore_n hC dX9_command_4 rfl (by rw [hnl]; decide) (L' := [(1, .int (-1)), (0, .ref m)]) rfl ?_
    refine r_iconst hC dX9_command_5 (v := 0) (by decide) ?_
    refine r_istore_n hC dX9_command_6 rfl (by rw [hnl]; decide) (L' := [(2, .int 0), (1, .int (-1)), (0, .ref m)]) rfl ?_
    refine r_iconst hC dX9_command_7 (v := 0) (by decide) ?_
    refine r_istore_n hC dX9_command_8 rfl (by rw [hnl]; decide) (L' := [(3, .int 0), (2, .int 0), (1, .int (-1)), (0, .ref m)]) rfl ?_
    refine r_iconst hC dX9_command_9 (v := 0) (by decide) ?_
    refine r_istore hC dX9_command_10 (by rw [hnl]; decide) (L' := [(4, .int 0), (3, .int 0), (2, .int 0), (1, .int (-1)), (0, .ref m)]) rfl ?_
    refine r_aload_n hC dX9_command_12 rfl (j := 4) rfl ?_
    refine r_get hC gX9_command_13 hf1_m (v := .int 1) rfl ?_
    refine r_if_eq hC dX9_command_16 (tgt := 20) (by decide) (fun h => absurd h (by decide)) (fun _ => ?_)
    refine r_vret hC hE hR dX9_command_19 (by omega) (by omega) (by simp only [ew_1, List.length_set]) ?_
    exact Or.inr (Or.inr ⟨k_1, lt_1, by simp only [pCmd, pArgs, hw_1], hk_1, rfl, by simp only [ew_1, List.set_set]⟩)
end TX5
