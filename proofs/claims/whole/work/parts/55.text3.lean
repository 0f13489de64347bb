section TX3
set_option maxRecDepth 100000 in
set_option maxHeartbeats 4000000 in
theorem wx_it {X : mC} {d : Nat} {w : mW} {c m : Nat} {x1 : Int32} (hC : Cx X RX9 cX9_word (d + 1) 0 0) (hnl : mNL X = 5) (hc : c < 8) (kk : Wp X 0 0 w [(2, .int (nI c)), (0, .ref m)] [] 222) : Wp X 0 0 w [(2, .int (nI c)), (1, .int x1), (0, .ref m)] [] 25 := by
  refine r_iload_n hC dX9_word_25 rfl (j := 0) rfl ?_
  refine r_if_ge hC dX9_word_26 (tgt := 222) (by decide) (fun _ => ?_) (fun h => absurd (Int32.not_lt.mp (nI_pos (by omega))) h)
  refine r_locals [0, 2] (L' := [(2, .int (nI c)), (0, .ref m)]) rfl ?_
  exact kk
set_option maxRecDepth 100000 in
set_option maxHeartbeats 4000000 in
theorem wx2_it {X : mC} {d : Nat} {w : mW} {m : Nat} {x1 th ch ea fa sv0 tn he en ln id0 : Int32} (hC : Cx X RX9 cX9_word (d + 1) 0 0) (hnl : mNL X = 5) (hm : w[m]? = some (mO 10 [.int th, .int ch, .int ea, .int fa, .int sv0, .ref (m + 1), .ref (m + 2), .ref (m + 3), .ref (m + 4), .ref (m + 5), .ref (m + 6), .ref (m + 7), .ref (m + 8), .ref (m + 9), .ref (m + 10), .int tn, .int he, .int en, .int ln, .int 1, .int id0])) (kk : Wp X 0 0 w [(2, .int (-1)), (0, .ref m)] [] 222) : Wp X 0 0 w [(2, .int (-1)), (1, .int x1), (0, .ref m)] [] 25 := by
  refine r_iload_n hC dX9_word_25 rfl (j := 0) rfl ?_
  refine r_if_ge hC dX9_word_26 (tgt := 222) (by decide) (fun h => absurd h (by decide)) (fun _ => ?_)
  refine r_aload_n hC dX9_word_29 rfl (j := 2) rfl ?_
  refine r_get hC gX9_word_30 hm (v := .int 1) rfl ?_
  refine r_if_ne hC dX9_word_33 (tgt := 222) (by decide) (fun _ => ?_) (fun h => absurd h (by decide))
  refine r_locals [0, 2] (L' := [(2, .int (-1)), (0, .ref m)]) rfl ?_
  exact kk
set_option maxRecDepth 100000 in
set_option maxHeartbeats 4000000 in
theorem wm_loop {X : mC} {d : Nat} {m : Nat} {th ch ea fa sv0 tn ln id0 : Int32} {tx : Nat → Int32} {h e : Nat} (hC : Cx X RX9 cX9_word (d + 1) 0 0) (hnl : mNL X = 5) (he : e ≤ 60) : ∀ (k n : Nat) (w : mW) (lt : Nat → Int32), n + k = 8 → (n = 0 ∨ anyA tx e h n 8 = true) → w[m + 8]? = some (mI 0 8 lt) → (∀ j, j < 8 → lt j = bI (al tx e h j n)) → w[m]? = some (mO 10 [.int th, .int ch, .int ea, .int fa, .int sv0, .ref (m + 1), .ref (m + 2), .ref (m + 3), .ref (m + 4), .ref (m + 5), .ref (m + 6), .ref (m + 7), .ref (m + 8), .ref (m + 9), .ref (m + 10), .int tn, .int (nI (h + n)), .int (nI e), .int ln, .int 0, .int id0]) → w[m + 6]? = some (mI 0 60 tx) → w[m + 9]? = some (mI 0 41 wdF) → w[m + 10]? = some (mI 0 9 waF) → h + n ≤ e → (∀ (c n' : Nat) (w' : mW) (lt' : Nat → Int32), wordR tx e h k n = (some c, n') → c < 8 → h + n' ≤ e → w' = (w.set (m + 8) (mI 0 8 lt')).set m (mO 10 [.int th, .int ch, .int ea, .int fa, .int sv0, .ref (m + 1), .ref (m + 2), .ref (m + 3), .ref (m + 4), .ref (m + 5), .ref (m + 6), .ref (m + 7), .ref (m + 8), .ref (m + 9), .ref (m + 10), .int tn, .int (nI (h + n')), .int (nI e), .int ln, .int 0, .int id0]) → Wp X 0 0 w' [(2, .int (nI c)), (0, .ref m)] [] 222) → (∀ (n' : Nat) (w' : mW) (lt' : Nat → Int32), wordR tx e h k n = (none, n') → h + n' ≤ e → w' = (w.set (m + 8) (mI 0 8 lt')).set m (mO 10 [.int th, .int ch, .int ea, .int fa, .int sv0, .ref (m + 1), .ref (m + 2), .ref (m + 3), .ref (m + 4), .ref (m + 5), .ref (m + 6), .ref (m + 7), .ref (m + 8), .ref (m + 9), .ref (m + 10), .int tn, .int (nI (h + n')), .int (nI e), .int ln, .int 1, .int id0]) → Wp X 0 0 w' [(2, .int (-1)), (0, .ref m)] [] 222) → Wp X 0 0 w [(2, .int (-1)), (1, .int (nI n)), (0, .ref m)] [] 25 := by
  intro k
  induction k with
  | zero =>
    intro n w lt h9 hA
    obtain rfl : n = 8 := by omega
    obtain ⟨c, hc, q⟩ := anyA_ex (hA.resolve_left (by decide))
    have q1 := al_len q (by decide)
    have q2 := waN_gap hc
    omega
  | succ k ih =>
    intro n w lt h9 hA hlt hq hm htx hwd hwa hh kOK kNO
    refine r_iload_n hC dX9_word_25 rfl (j := 0) rfl ?_
    refine r_if_ge hC dX9_word_26 (tgt := 222) (by decide) (fun h => absurd h (by decide)) (fun _ => ?_)
    refine r_aload_n hC dX9_word_29 rfl (j := 2) rfl ?_
    refine r_get hC gX9_word_30 hm (v := .int 0) rfl ?_
    refine r_if_ne hC dX9_word_33 (tgt := 222) (by decide) (fun h => absurd (by decide) h) (fun _ => ?_)
    refine r_iconst hC dX9_word_36 (v := 0) (by decide) ?_
    refine r_istore_n hC dX9_word_37 rfl (by rw [hnl]; decide) (L' := [(3, .int 0), (2, .int (-1)), (1, .int (nI n)), (0, .ref m)]) rfl ?_
    refine r_iconst hC dX9_word_38 (v := 0) (by decide) ?_
    refine r_istore hC dX9_word_39 (by rw [hnl]; decide) (L' := [(4, .int 0), (3, .int 0), (2, .int (-1)), (1, .int (nI n)), (0, .ref m)]) rfl ?_
    refine r_arrEq (t := 0) (a := m + 8) (N := 8) (f := lt) (f' := ltF tx e h n 0) hlt (fun j hj => by rw [ltF_0, hq j hj]) ?_
    refine wi1_all (w0 := w) (n := n) hC hnl (lt_of_get hlt) hm htx hwd hwa he hh (fun w2 e2 => ?_) 8 0 _ rfl rfl
    have hlt2 : w2[m + 8]? = some (mI 0 8 (ltF tx e h n 8)) := by rw [e2]; exact List.getElem?_set_self (lt_of_get hlt)
    have hm2 : w2[m]? = some (mO 10 [.int th, .int ch, .int ea, .int fa, .int sv0, .ref (m + 1), .ref (m + 2), .ref (m + 3), .ref (m + 4), .ref (m + 5), .ref (m + 6), .ref (m + 7), .ref (m + 8), .ref (m + 9), .ref (m + 10), .int tn, .int (nI (h + n)), .int (nI e), .int ln, .int 0, .int id0]) := by rw [e2, List.getElem?_set_ne (by omega)]; exact hm
    have htx2 : w2[m + 6]? = some (mI 0 60 tx) := by rw [e2, List.getElem?_set_ne (by omega)]; exact htx
    have hwd2 : w2[m + 9]? = some (mI 0 41 wdF) := by rw [e2, List.getElem?_set_ne (by omega)]; exact hwd
    have hwa2 : w2[m + 10]? = some (mI 0 9 waF) := by rw [e2, List.getElem?_set_ne (by omega)]; exact hwa
    have hq2 : ∀ j, j < 8 → ltF tx e h n 8 j = bI (al tx e h j (n + 1)) := fun j hj => if_pos hj
    refine r_iload hC dX9_word_41 (j := 0) rfl ?_
    refine r_bipush hC dX9_word_43 (v := 8) (by decide) ?_
    refine r_icmp_ge hC dX9_word_45 (tgt := 130) (by decide) (fun _ => ?_) (fun h => absurd (lit_le rfl (Nat.le_refl 8) (by decide)) h)
    refine r_aload_n hC dX9_word_130 rfl (j := 4) rfl ?_
    refine r_iload_n hC dX9_word_131 rfl (j := 1) rfl ?_
    refine r_if_ne hC dX9_word_132 (tgt := 139) (by decide) (fun c132 => ?_) (fun c132 => ?_)
    · refine r_iconst hC dX9_word_139 (v := 0) (by decide) ?_
      refine r_put' hC pX9_word_140 hm2 (Nat.le_of_ble_eq_true rfl) (fun _ => rfl) (fun _ => rfl) (fun w_1 ew_1 => ?_)
      replace ew_1 : w_1 = (w2).set (m) (mO 10 [.int th, .int ch, .int ea, .int fa, .int sv0, .ref (m + 1), .ref (m + 2), .ref (m + 3), .ref (m + 4), .ref (m + 5), .ref (m + 6), .ref (m + 7), .ref (m + 8), .ref (m + 9), .ref (m + 10), .int tn, .int (nI (h + n)), .int (nI e), .int ln, .int 0, .int id0]) := ew_1
      have hf1_m : w_1[m]? = some (mO 10 [.int th, .int ch, .int ea, .int fa, .int sv0, .ref (m + 1), .ref (m + 2), .ref (m + 3), .ref (m + 4), .ref (m + 5), .ref (m + 6), .ref (m + 7), .ref (m + 8), .ref (m + 9), .ref (m + 10), .int tn, .int (nI (h + n)), .int (nI e), .int ln, .int 0, .int id0]) := by rw [ew_1]; exact List.getElem?_set_self (lt_of_get hm2)
      have hf1__m___8_ : w_1[(m + 8)]? = some (mI 0 8 (ltF tx e h n 8)) := by rw [ew_1, List.getElem?_set_ne (by omega)]; exact hlt2
      have hf1__m___6_ : w_1[(m + 6)]? = some (mI 0 60 tx) := by rw [ew_1, List.getElem?_set_ne (by omega)]; exact htx2
      have hf1__m___9_ : w_1[(m + 9)]? = some (mI 0 41 wdF) := by rw [ew_1, List.getElem?_set_ne (by omega)]; exact hwd2
      have hf1__m___10_ : w_1[(m + 10)]? = some (mI 0 9 waF) := by rw [ew_1, List.getElem?_set_ne (by omega)]; exact hwa2
      refine r_aload_n hC dX9_word_143 rfl (j := 4) rfl ?_
      refine r_dup hC dX9_word_144 rfl ?_
      refine r_get hC gX9_word_145 hf1_m (v := .int (nI (h + n))) rfl ?_
      refine r_iload_n hC dX9_word_148 rfl (j := 1) rfl ?_
      refine r_if_eq hC dX9_word_149 (tgt := 156) (by decide) (fun h => absurd h c132) (fun _ => ?_)
      refine r_iconst hC dX9_word_152 (v := 1) (by decide) ?_
      refine r_goto hC dX9_word_153 (tgt := 157) (by decide) ?_
      refine r_iadd hC dX9_word_157 ?_
      rw [show nI (h + n) + 1 = nI (h + (n + 1)) from (nI_succ _).symm]
      refine r_put' hC pX9_word_158 hf1_m (Nat.le_of_ble_eq_true rfl) (fun _ => rfl) (fun _ => rfl) (fun w_2 ew_2 => ?_)
      replace ew_2 : w_2 = (w_1).set (m) (mO 10 [.int th, .int ch, .int ea, .int fa, .int sv0, .ref (m + 1), .ref (m + 2), .ref (m + 3), .ref (m + 4), .ref (m + 5), .ref (m + 6), .ref (m + 7), .ref (m + 8), .ref (m + 9), .ref (m + 10), .int tn, .int (nI (h + (n + 1))), .int (nI e), .int ln, .int 0, .int id0]) := ew_2
      have hf2_m : w_2[m]? = some (mO 10 [.int th, .int ch, .int ea, .int fa, .int sv0, .ref (m + 1), .ref (m + 2), .ref (m + 3), .ref (m + 4), .ref (m + 5), .ref (m + 6), .ref (m + 7), .ref (m + 8), .ref (m + 9), .ref (m + 10), .int tn, .int (nI (h + (n + 1))), .int (nI e), .int ln, .int 0, .int id0]) := by rw [ew_2]; exact List.getElem?_set_self (lt_of_get hf1_m)
      have hf2__m___8_ : w_2[(m + 8)]? = some (mI 0 8 (ltF tx e h n 8)) := by rw [ew_2, List.getElem?_set_ne (by omega)]; exact hf1__m___8_
      have hf2__m___6_ : w_2[(m + 6)]? = some (mI 0 60 tx) := by rw [ew_2, List.getElem?_set_ne (by omega)]; exact hf1__m___6_
      have hf2__m___9_ : w_2[(m + 9)]? = some (mI 0 41 wdF) := by rw [ew_2, List.getElem?_set_ne (by omega)]; exact hf1__m___9_
      have hf2__m___10_ : w_2[(m + 10)]? = some (mI 0 9 waF) := by rw [ew_2, List.getElem?_set_ne (by omega)]; exact hf1__m___10_
      refine r_iinc hC dX9_word_161 (j := 3) rfl (v := nI (n + 1)) (nI_succ n).symm (by rw [hnl]; decide) (L' := [(1, .int (nI (n + 1))), (4, .int (nI 8)), (3, .int (bI (anyA tx e h (n + 1) 8))), (2, .int (-1)), (0, .ref m)]) rfl ?_
      refine r_iconst hC dX9_word_164 (v := 0) (by decide) ?_
      refine r_istore hC dX9_word_165 (by rw [hnl]; decide) (L' := [(4, .int 0), (1, .int (nI (n + 1))), (3, .int (bI (anyA tx e h (n + 1) 8))), (2, .int (-1)), (0, .ref m)]) rfl ?_
      refine r_locals [0, 3, 2, 1, 4] (L' := [(4, .int 0), (2, .int (-1)), (3, .int (bI (anyA tx e h (n + 1) 8))), (1, .int (nI (n + 1))), (0, .ref m)]) rfl ?_
      refine wi2_all (n := n + 1) (q := ltF tx e h n 8) hC hnl hf2__m___8_ hf2_m hf2__m___10_ hq2 (by omega) ?_ 8 0 rfl
      refine r_iload hC dX9_word_167 (j := 0) rfl ?_
      refine r_bipush hC dX9_word_169 (v := 8) (by decide) ?_
      refine r_icmp_ge hC dX9_word_171 (tgt := 219) (by decide) (fun _ => ?_) (fun h => absurd (lit_le rfl (Nat.le_refl 8) (by decide)) h)
      refine r_goto hC dX9_word_219 (tgt := 25) (by decide) ?_
      refine r_locals [1, 3, 4] (L' := [(2, .int (oI (finO tx e h (n + 1) 8))), (1, .int (nI (n + 1))), (0, .ref m)]) rfl ?_
      have y1 : (anyA tx e h (n + 1) 8) = true := bI_ne.mp c132
      have hh2 : h + (n + 1) ≤ e := by
        obtain ⟨c9, hc9, q9⟩ := anyA_ex y1
        exact al_lt hc9 q9 (by omega)
      cases hf : finO tx e h (n + 1) 8 with
      | none =>
        have e5 : wordR tx e h (k + 1) n = wordR tx e h k (n + 1) := by
          show (if anyA tx e h (n + 1) 8 = true then (match finO tx e h (n + 1) 8 with | some c => (some c, n + 1) | none => wordR tx e h k (n + 1)) else (none, n)) = _
          rw [if_pos y1, hf]
        rw [e5] at kOK kNO
        refine ih (n + 1) w_2 (ltF tx e h n 8) (by omega) (Or.inr y1) hf2__m___8_ hq2 hf2_m hf2__m___6_ hf2__m___9_ hf2__m___10_ hh2 (fun c n' w' lt' z1 z2 z3 z4 => kOK c n' w' lt' z1 z2 z3 ?_) (fun n' w' lt' z1 z2 z3 => kNO n' w' lt' z1 z2 ?_)
        · rw [z4, ew_2, ew_1, e2]
          simp only [List.set_set]
          rw [List.set_comm _ _ (show m ≠ m + 8 by omega)]
          simp only [List.set_set]
        · rw [z3, ew_2, ew_1, e2]
          simp only [List.set_set]
          rw [List.set_comm _ _ (show m ≠ m + 8 by omega)]
          simp only [List.set_set]
      | some c9 =>
        have hc9 : c9 < 8 := finO_lt hf
        have e5 : wordR tx e h (k + 1) n = (some c9, n + 1) := by
          show (if anyA tx e h (n + 1) 8 = true then (match finO tx e h (n + 1) 8 with | some c => (some c, n + 1) | none => wordR tx e h k (n + 1)) else (none, n)) = _
          rw [if_pos y1, hf]
        show Wp X 0 0 w_2 [(2, .int (nI c9)), (1, .int (nI (n + 1))), (0, .ref m)] [] 25
        refine wx_it hC hnl hc9 ?_
        exact kOK c9 (n + 1) w_2 (ltF tx e h n 8) e5 hc9 hh2 (by rw [ew_2, ew_1, e2]; simp only [List.set_set])
    · refine r_iconst hC dX9_word_135 (v := 1) (by decide) ?_
      refine r_goto hC dX9_word_136 (tgt := 140) (by decide) ?_
      refine r_put' hC pX9_word_140 hm2 (Nat.le_of_ble_eq_true rfl) (fun _ => rfl) (fun _ => rfl) (fun w_3 ew_3 => ?_)
      replace ew_3 : w_3 = (w2).set (m) (mO 10 [.int th, .int ch, .int ea, .int fa, .int sv0, .ref (m + 1), .ref (m + 2), .ref (m + 3), .ref (m + 4), .ref (m + 5), .ref (m + 6), .ref (m + 7), .ref (m + 8), .ref (m + 9), .ref (m + 10), .int tn, .int (nI (h + n)), .int (nI e), .int ln, .int 1, .int id0]) := ew_3
      have hf3_m : w_3[m]? = some (mO 10 [.int th, .int ch, .int ea, .int fa, .int sv0, .ref (m + 1), .ref (m + 2), .ref (m + 3), .ref (m + 4), .ref (m + 5), .ref (m + 6), .ref (m + 7), .ref (m + 8), .ref (m + 9), .ref (m + 10), .int tn, .int (nI (h + n)), .int (nI e), .int ln, .int 1, .int id0]) := by rw [ew_3]; exact List.getElem?_set_self (lt_of_get hm2)
      have hf3__m___8_ : w_3[(m + 8)]? = some (mI 0 8 (ltF tx e h n 8)) := by rw [ew_3, List.getElem?_set_ne (by omega)]; exact hlt2
      have hf3__m___6_ : w_3[(m + 6)]? = some (mI 0 60 tx) := by rw [ew_3, List.getElem?_set_ne (by omega)]; exact htx2
      have hf3__m___9_ : w_3[(m + 9)]? = some (mI 0 41 wdF) := by rw [ew_3, List.getElem?_set_ne (by omega)]; exact hwd2
      have hf3__m___10_ : w_3[(m + 10)]? = some (mI 0 9 waF) := by rw [ew_3, List.getElem?_set_ne (by omega)]; exact hwa2
      refine r_aload_n hC dX9_word_143 rfl (j := 4) rfl ?_
      refine r_dup hC dX9_word_144 rfl ?_
      refine r_get hC gX9_word_145 hf3_m (v := .int (nI (h + n))) rfl ?_
      refine r_iload_n hC dX9_word_148 rfl (j := 1) rfl ?_
      refine r_if_eq hC dX9_word_149 (tgt := 156) (by decide) (fun _ => ?_) (fun h => absurd c132 h)
      refine r_iconst hC dX9_word_156 (v := 0) (by decide) ?_
      refine r_iadd hC dX9_word_157 ?_
      rw [Int32.add_zero]
      refine r_put' hC pX9_word_158 hf3_m (Nat.le_of_ble_eq_true rfl) (fun _ => rfl) (fun _ => rfl) (fun w_4 ew_4 => ?_)
      replace ew_4 : w_4 = (w_3).set (m) (mO 10 [.int th, .int ch, .int ea, .int fa, .int sv0, .ref (m + 1), .ref (m + 2), .ref (m + 3), .ref (m + 4), .ref (m + 5), .ref (m + 6), .ref (m + 7), .ref (m + 8), .ref (m + 9), .ref (m + 10), .int tn, .int (nI (h + n)), .int (nI e), .int ln, .int 1, .int id0]) := ew_4
      have hf4_m : w_4[m]? = some (mO 10 [.int th, .int ch, .int ea, .int fa, .int sv0, .ref (m + 1), .ref (m + 2), .ref (m + 3), .ref (m + 4), .ref (m + 5), .ref (m + 6), .ref (m + 7), .ref (m + 8), .ref (m + 9), .ref (m + 10), .int tn, .int (nI (h + n)), .int (nI e), .int ln, .int 1, .int id0]) := by rw [ew_4]; exact List.getElem?_set_self (lt_of_get hf3_m)
      have hf4__m___8_ : w_4[(m + 8)]? = some (mI 0 8 (ltF tx e h n 8)) := by rw [ew_4, List.getElem?_set_ne (by omega)]; exact hf3__m___8_
      have hf4__m___6_ : w_4[(m + 6)]? = some (mI 0 60 tx) := by rw [ew_4, List.getElem?_set_ne (by omega)]; exact hf3__m___6_
      have hf4__m___9_ : w_4[(m + 9)]? = some (mI 0 41 wdF) := by rw [ew_4, List.getElem?_set_ne (by omega)]; exact hf3__m___9_
      have hf4__m___10_ : w_4[(m + 10)]? = some (mI 0 9 waF) := by rw [ew_4, List.getElem?_set_ne (by omega)]; exact hf3__m___10_
      refine r_iinc hC dX9_word_161 (j := 3) rfl (v := nI (n + 1)) (nI_succ n).symm (by rw [hnl]; decide) (L' := [(1, .int (nI (n + 1))), (4, .int (nI 8)), (3, .int (bI (anyA tx e h (n + 1) 8))), (2, .int (-1)), (0, .ref m)]) rfl ?_
      refine r_iconst hC dX9_word_164 (v := 0) (by decide) ?_
      refine r_istore hC dX9_word_165 (by rw [hnl]; decide) (L' := [(4, .int 0), (1, .int (nI (n + 1))), (3, .int (bI (anyA tx e h (n + 1) 8))), (2, .int (-1)), (0, .ref m)]) rfl ?_
      refine r_locals [0, 3, 2, 1, 4] (L' := [(4, .int 0), (2, .int (-1)), (3, .int (bI (anyA tx e h (n + 1) 8))), (1, .int (nI (n + 1))), (0, .ref m)]) rfl ?_
      refine wi2_all (n := n + 1) (q := ltF tx e h n 8) hC hnl hf4__m___8_ hf4_m hf4__m___10_ hq2 (by omega) ?_ 8 0 rfl
      refine r_iload hC dX9_word_167 (j := 0) rfl ?_
      refine r_bipush hC dX9_word_169 (v := 8) (by decide) ?_
      refine r_icmp_ge hC dX9_word_171 (tgt := 219) (by decide) (fun _ => ?_) (fun h => absurd (lit_le rfl (Nat.le_refl 8) (by decide)) h)
      refine r_goto hC dX9_word_219 (tgt := 25) (by decide) ?_
      refine r_locals [1, 3, 4] (L' := [(2, .int (oI (finO tx e h (n + 1) 8))), (1, .int (nI (n + 1))), (0, .ref m)]) rfl ?_
      have y1 : (anyA tx e h (n + 1) 8) = false := bI_0.mp c132
      have y2 : finO tx e h (n + 1) 8 = none := finO_no (anyA_no y1)
      rw [y2]
      show Wp X 0 0 w_4 [(2, .int (-1)), (1, .int (nI (n + 1))), (0, .ref m)] [] 25
      refine wx2_it hC hnl hf4_m ?_
      exact kNO n w_4 (ltF tx e h n 8) (if_neg (by rw [y1]; decide)) hh (by rw [ew_4, ew_3, e2]; simp only [List.set_set])
def pWord (t : Nat → Int32) (e h : Nat) : Option Nat × Nat := ((wordR t e h 8 0).1, h + (wordR t e h 8 0).2)
set_option maxRecDepth 100000 in
set_option maxHeartbeats 4000000 in
theorem sm_word {d : Nat} {lt : Nat → Int32} {w : mW} {m : Nat} {th ch ea fa sv0 tn ln id0 : Int32} {tx : Nat → Int32} {h e : Nat} (hlt : w[m + 8]? = some (mI 0 8 lt)) (hm : w[m]? = some (mO 10 [.int th, .int ch, .int ea, .int fa, .int sv0, .ref (m + 1), .ref (m + 2), .ref (m + 3), .ref (m + 4), .ref (m + 5), .ref (m + 6), .ref (m + 7), .ref (m + 8), .ref (m + 9), .ref (m + 10), .int tn, .int (nI h), .int (nI e), .int ln, .int 0, .int id0])) (htx : w[m + 6]? = some (mI 0 60 tx)) (he : e ≤ 60) (hh : h ≤ e) (hwd : w[m + 9]? = some (mI 0 41 wdF)) (hwa : w[m + 10]? = some (mI 0 9 waF)) : Sp (d + 1) yX9_word cX9_word 5 (some .int) [.ref m] w 0 0 (fun v w' => (∃ c k lt', pWord tx e h = (some c, k) ∧ c < 8 ∧ k ≤ e ∧ v = some (.int (nI c)) ∧ w' = (w.set (m + 8) (mI 0 8 lt')).set m (mO 10 [.int th, .int ch, .int ea, .int fa, .int sv0, .ref (m + 1), .ref (m + 2), .ref (m + 3), .ref (m + 4), .ref (m + 5), .ref (m + 6), .ref (m + 7), .ref (m + 8), .ref (m + 9), .ref (m + 10), .int tn, .int (nI k), .int (nI e), .int ln, .int 0, .int id0])) ∨ (∃ k lt', pWord tx e h = (none, k) ∧ k ≤ e ∧ v = some (.int (-1)) ∧ w' = (w.set (m + 8) (mI 0 8 lt')).set m (mO 10 [.int th, .int ch, .int ea, .int fa, .int sv0, .ref (m + 1), .ref (m + 2), .ref (m + 3), .ref (m + 4), .ref (m + 5), .ref (m + 6), .ref (m + 7), .ref (m + 8), .ref (m + 9), .ref (m + 10), .int tn, .int (nI k), .int (nI e), .int ln, .int 1, .int id0]))) noX := by
  refine Sp.of (by decide +kernel) (Nat.le_of_ble_eq_true rfl) (fun X hC hnl hE hR hN => ?_)
  have hC : Cx X RX9 cX9_word (d + 1) 0 0 := hC
  show Wp X 0 0 w [(0, .ref m)] [] 0
  refine r_iconst hC dX9_word_0 (v := 0) (by decide) ?_
  refine r_istore_n hC dX9_word_1 rfl (by rw [hnl]; decide) (L' := [(1, .int 0), (0, .ref m)]) rfl ?_
  refine wi0_all (q := lt) (w0 := w) hC hnl (lt_of_get hlt) hm (fun w2 e2 => ?_) 8 0 w rfl (set_same (by rw [show cpTo lt (fun _ => 1) 0 = lt from rfl]; exact hlt)).symm
  have hlt2 : w2[m + 8]? = some (mI 0 8 (cpTo lt (fun _ => 1) 8)) := by rw [e2]; exact List.getElem?_set_self (lt_of_get hlt)
  have hm2 : w2[m]? = some (mO 10 [.int th, .int ch, .int ea, .int fa, .int sv0, .ref (m + 1), .ref (m + 2), .ref (m + 3), .ref (m + 4), .ref (m + 5), .ref (m + 6), .ref (m + 7), .ref (m + 8), .ref (m + 9), .ref (m + 10), .int tn, .int (nI h), .int (nI e), .int ln, .int 0, .int id0]) := by rw [e2, List.getElem?_set_ne (by omega)]; exact hm
  have htx2 : w2[m + 6]? = some (mI 0 60 tx) := by rw [e2, List.getElem?_set_ne (by omega)]; exact htx
  have hwd2 : w2[m + 9]? = some (mI 0 41 wdF) := by rw [e2, List.getElem?_set_ne (by omega)]; exact hwd
  have hwa2 : w2[m + 10]? = some (mI 0 9 waF) := by rw [e2, List.getElem?_set_ne (by omega)]; exact hwa
  refine r_iload_n hC dX9_word_2 rfl (j := 0) rfl ?_
  refine r_bipush hC dX9_word_3 (v := 8) (by decide) ?_
  refine r_icmp_ge hC dX9_word_5 (tgt := 21) (by decide) (fun _ => ?_) (fun h => absurd (lit_le rfl (Nat.le_refl 8) (by decide)) h)
  refine r_iconst hC dX9_word_21 (v := 0) (by decide) ?_
  refine r_istore_n hC dX9_word_22 rfl (by rw [hnl]; decide) (L' := [(1, .int 0), (0, .ref m)]) rfl ?_
  refine r_iconst hC dX9_word_23 (v := (-1)) (by decide) ?_
  refine r_istore_n hC dX9_word_24 rfl (by rw [hnl]; decide) (L' := [(2, .int (-1)), (1, .int 0), (0, .ref m)]) rfl ?_
  refine wm_loop (tx := tx) (h := h) (e := e) hC hnl he 8 0 w2 _ rfl (Or.inl rfl) hlt2 (fun j hj => if_pos hj) hm2 htx2 hwd2 hwa2 hh (fun c n' w' lt' z1 z2 z3 z4 => ?_) (fun n' w' lt' z1 z3 z4 => ?_)
  · refine r_iload_n hC dX9_word_222 rfl (j := 0) rfl ?_
    refine r_iret hC hE hR dX9_word_223 (by omega) (by omega) (by rw [z4, e2]; simp only [List.length_set]) ?_
    exact Or.inl ⟨c, h + n', lt', by unfold pWord; rw [z1], z2, z3, rfl, by rw [z4, e2]; simp only [List.set_set]⟩
  · refine r_iload_n hC dX9_word_222 rfl (j := 0) rfl ?_
    refine r_iret hC hE hR dX9_word_223 (by omega) (by omega) (by rw [z4, e2]; simp only [List.length_set]) ?_
    exact Or.inr ⟨h + n', lt', by unfold pWord; rw [z1], z3, rfl, by rw [z4, e2]; simp only [List.set_set]⟩
end TX3
