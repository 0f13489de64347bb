section MD7
def shTo (q : Nat → Int32) (c j : Nat) : Int32 := if j < c then q (j + 67) else q j
theorem shTo_upd {q : Nat → Int32} {c : Nat} : upd (shTo q c) c (shTo q c (c + 67)) = shTo q (c + 1) := by
  funext j
  by_cases h : j = c
  · subst h
    rw [pk_us]
    unfold shTo
    rw [if_neg (by omega), if_pos (by omega)]
  · rw [pk_un h]
    unfold shTo
    by_cases z : j < c
    · rw [if_pos z, if_pos (by omega)]
    · rw [if_neg z, if_neg (by omega)]
def blTo (q b : Nat → Int32) (n c j : Nat) : Int32 := if n * 67 ≤ j ∧ j < n * 67 + c then b (j - n * 67) else q j
theorem blTo_upd {q b : Nat → Int32} {n c : Nat} : upd (blTo q b n c) (n * 67 + c) (b c) = blTo q b n (c + 1) := by
  funext j
  by_cases h : j = n * 67 + c
  · subst h
    rw [pk_us]
    unfold blTo
    rw [if_pos ⟨by omega, by omega⟩]
    congr 1
    omega
  · rw [pk_un h]
    unfold blTo
    by_cases z : n * 67 ≤ j ∧ j < n * 67 + c
    · rw [if_pos z, if_pos ⟨z.1, by omega⟩]
    · rw [if_neg z, if_neg (by omega)]
theorem ix67 {n c : Nat} (hn : n < 8) (hc : c < 67) : mIx (nI n * 67 + nI c) (n * 67 + c) 536 := by
  have e : nI n * 67 = nI (n * 67) := by
    rcases (show n = 0 ∨ n = 1 ∨ n = 2 ∨ n = 3 ∨ n = 4 ∨ n = 5 ∨ n = 6 ∨ n = 7 by omega) with rfl | rfl | rfl | rfl | rfl | rfl | rfl | rfl <;> decide
  rw [e, nI_add]
  exact mIx_nI (by omega) (by decide)
theorem push8_8 {l : List sv} {y : sv} (h : l.length = 8) : push8 l y = l.tail ++ [y] := if_pos h
theorem push8_n {l : List sv} {y : sv} (h : ¬ l.length = 8) : push8 l y = l ++ [y] := if_neg h
theorem past_app {q : Nat → Int32} {l : List sv} {y : sv} (h : PastOK q l) (hn : l.length < 8) : PastOK (blTo q (enc y) l.length 67) (l ++ [y]) := by
  refine ⟨by rw [List.length_append]; simp; omega, fun i z hi k hk => ?_⟩
  rcases Nat.lt_or_ge i l.length with z1 | z1
  · rw [List.getElem?_append_left z1] at hi
    unfold blTo
    rw [if_neg (by omega)]
    exact h.2 i z hi k hk
  · rw [List.getElem?_append_right z1] at hi
    obtain ⟨z2, z3⟩ := List.getElem?_eq_some_iff.mp hi
    have z4 : i - l.length = 0 := by simp at z2; omega
    have z5 : i = l.length := by omega
    subst z5
    simp at z3
    subst z3
    unfold blTo
    rw [if_pos ⟨by omega, by omega⟩]
    congr 1
    omega
theorem past_tail {q : Nat → Int32} {l : List sv} (h : PastOK q l) (hn : l.length = 8) : PastOK (shTo q 469) l.tail := by
  refine ⟨by rw [List.length_tail]; omega, fun i z hi k hk => ?_⟩
  have hi2 : l[i + 1]? = some z := by
    rw [← hi]
    cases l with
    | nil => simp at hn
    | cons a r => rfl
  have hl : i + 1 < l.length := (List.getElem?_eq_some_iff.mp hi2).1
  unfold shTo
  rw [if_pos (by omega)]
  have := h.2 (i + 1) z hi2 k hk
  rw [← this]
  congr 1
  omega
set_option maxRecDepth 100000 in
set_option maxHeartbeats 4000000 in
theorem en1_it {X : mC} {d : Nat} {w : mW} {c : Nat} {m : Nat} {th ch ea fa sv0 tn he en ln iw id0 is : Int32} {q : Nat → Int32} (hC : Cx X RX9 cX9_ends d 0 0) (hnl : mNL X = 3) (hp : w[m + 5]? = some (mI 0 536 (shTo q c))) (hm : w[m]? = some (mO 10 [.int th, .int ch, .int ea, .int fa, .int sv0, .ref (m + 1), .ref (m + 2), .ref (m + 3), .ref (m + 4), .ref (m + 5), .ref (m + 6), .ref (m + 7), .ref (m + 8), .ref (m + 9), .ref (m + 10), .int tn, .int he, .int en, .int ln, .int iw, .int id0])) (hc : c < 469) (kk : ∀ w', w' = w.set (m + 5) (mI 0 536 (shTo q (c + 1))) → Wp X 0 0 w' [(2, .int (nI (c + 1))), (0, .ref m), (1, .int is)] [] 31) : Wp X 0 0 w [(2, .int (nI c)), (0, .ref m), (1, .int is)] [] 31 := by
  refine r_iload_n hC dX9_ends_31 rfl (j := 0) rfl ?_
  refine r_sipush hC dX9_ends_32 (v := 469) (by decide) ?_
  refine r_icmp_ge hC dX9_ends_35 (tgt := 59) (by decide) (fun h => absurd h (lit_ge (N := 469) rfl hc (by decide))) (fun _ => ?_)
  refine r_aload_n hC dX9_ends_38 rfl (j := 1) rfl ?_
  refine r_get hC gX9_ends_39 hm (v := .ref (m + 5)) rfl ?_
  refine r_iload_n hC dX9_ends_42 rfl (j := 0) rfl ?_
  refine r_aload_n hC dX9_ends_43 rfl (j := 1) rfl ?_
  refine r_get hC gX9_ends_44 hm (v := .ref (m + 5)) rfl ?_
  refine r_iload_n hC dX9_ends_47 rfl (j := 0) rfl ?_
  refine r_bipush hC dX9_ends_48 (v := 67) (by decide) ?_
  refine r_iadd hC dX9_ends_50 ?_
  refine r_iald hC dX9_ends_51 (j := (c + 67)) hp (by rw [show nI c + 67 = nI (c + 67) from nI_add c 67]; exact mIx_nI (by omega) (by decide)) ?_
  refine r_iast' hC dX9_ends_52 (j := c) hp (mIx_nI (by omega) (by decide)) (fun w_1 ew_1 => ?_)
  have hf1_m : w_1[m]? = some (mO 10 [.int th, .int ch, .int ea, .int fa, .int sv0, .ref (m + 1), .ref (m + 2), .ref (m + 3), .ref (m + 4), .ref (m + 5), .ref (m + 6), .ref (m + 7), .ref (m + 8), .ref (m + 9), .ref (m + 10), .int tn, .int he, .int en, .int ln, .int iw, .int id0]) := by rw [ew_1, List.getElem?_set_ne (by omega)]; exact hm
  have hf1__m___5_ : w_1[(m + 5)]? = some (mI 0 536 (upd (shTo q c) c ((shTo q c) (c + 67)))) := by rw [ew_1]; exact List.getElem?_set_self (lt_of_get hp)
  refine r_iinc hC dX9_ends_53 (j := 0) rfl (v := nI (c + 1)) (nI_succ c).symm (by rw [hnl]; decide) (L' := [(2, .int (nI (c + 1))), (0, .ref m), (1, .int is)]) rfl ?_
  refine r_goto hC dX9_ends_56 (tgt := 31) (by decide) ?_
  exact kk _ (by rw [ew_1, shTo_upd])
set_option maxRecDepth 100000 in
theorem en1_all {X : mC} {d : Nat} {w0 : mW} {m : Nat} {th ch ea fa sv0 tn he en ln iw id0 is : Int32} {q : Nat → Int32} (hC : Cx X RX9 cX9_ends d 0 0) (hnl : mNL X = 3) (hl0 : m + 5 < w0.length) (hm0 : w0[m]? = some (mO 10 [.int th, .int ch, .int ea, .int fa, .int sv0, .ref (m + 1), .ref (m + 2), .ref (m + 3), .ref (m + 4), .ref (m + 5), .ref (m + 6), .ref (m + 7), .ref (m + 8), .ref (m + 9), .ref (m + 10), .int tn, .int he, .int en, .int ln, .int iw, .int id0]))  (kk : ∀ w', w' = w0.set (m + 5) (mI 0 536 (shTo q 469)) → Wp X 0 0 w' [(2, .int (nI 469)), (0, .ref m), (1, .int is)] [] 31) : ∀ (n c : Nat) (w : mW), c + n = 469 → w = w0.set (m + 5) (mI 0 536 (shTo q c)) → Wp X 0 0 w [(2, .int (nI c)), (0, .ref m), (1, .int is)] [] 31 := by
  intro n
  induction n with
  | zero =>
    intro c w h9 e9
    obtain rfl : c = 469 := by omega
    exact kk w e9
  | succ n ih =>
    intro c w h9 e9
    refine en1_it hC hnl (by rw [e9]; exact List.getElem?_set_self hl0) (by rw [e9, List.getElem?_set_ne (by omega)]; exact hm0)  (by omega) (fun w2 e2 => ih (c + 1) w2 (by omega) (by rw [e2, e9, List.set_set]))
set_option maxRecDepth 100000 in
set_option maxHeartbeats 4000000 in
theorem en2_it {X : mC} {d : Nat} {w : mW} {c : Nat} {m n8 : Nat} {th ea fa sv0 tn he en ln iw id0 is : Int32} {q b : Nat → Int32} (hC : Cx X RX9 cX9_ends d 0 0) (hnl : mNL X = 3) (hp : w[m + 5]? = some (mI 0 536 (blTo q b n8 c))) (hm : w[m]? = some (mO 10 [.int th, .int (nI n8), .int ea, .int fa, .int sv0, .ref (m + 1), .ref (m + 2), .ref (m + 3), .ref (m + 4), .ref (m + 5), .ref (m + 6), .ref (m + 7), .ref (m + 8), .ref (m + 9), .ref (m + 10), .int tn, .int he, .int en, .int ln, .int iw, .int id0])) (hb : w[m + 2]? = some (mI 0 67 b)) (h8 : n8 < 8) (hc : c < 67) (kk : ∀ w', w' = w.set (m + 5) (mI 0 536 (blTo q b n8 (c + 1))) → Wp X 0 0 w' [(2, .int (nI (c + 1))), (0, .ref m), (1, .int is)] [] 71) : Wp X 0 0 w [(2, .int (nI c)), (0, .ref m), (1, .int is)] [] 71 := by
  refine r_iload_n hC dX9_ends_71 rfl (j := 0) rfl ?_
  refine r_bipush hC dX9_ends_72 (v := 67) (by decide) ?_
  refine r_icmp_ge hC dX9_ends_74 (tgt := 103) (by decide) (fun h => absurd h (lit_ge rfl hc (by decide))) (fun _ => ?_)
  refine r_aload_n hC dX9_ends_77 rfl (j := 1) rfl ?_
  refine r_get hC gX9_ends_78 hm (v := .ref (m + 5)) rfl ?_
  refine r_aload_n hC dX9_ends_81 rfl (j := 1) rfl ?_
  refine r_get hC gX9_ends_82 hm (v := .int (nI n8)) rfl ?_
  refine r_bipush hC dX9_ends_85 (v := 67) (by decide) ?_
  refine r_imul hC dX9_ends_87 ?_
  refine r_iload_n hC dX9_ends_88 rfl (j := 0) rfl ?_
  refine r_iadd hC dX9_ends_89 ?_
  refine r_aload_n hC dX9_ends_90 rfl (j := 1) rfl ?_
  refine r_get hC gX9_ends_91 hm (v := .ref (m + 2)) rfl ?_
  refine r_iload_n hC dX9_ends_94 rfl (j := 0) rfl ?_
  refine r_iald hC dX9_ends_95 (j := c) hb (mIx_nI (by omega) (by decide)) ?_
  refine r_iast' hC dX9_ends_96 (j := (n8 * 67 + c)) hp (ix67 h8 (by omega)) (fun w_1 ew_1 => ?_)
  have hf1_m : w_1[m]? = some (mO 10 [.int th, .int (nI n8), .int ea, .int fa, .int sv0, .ref (m + 1), .ref (m + 2), .ref (m + 3), .ref (m + 4), .ref (m + 5), .ref (m + 6), .ref (m + 7), .ref (m + 8), .ref (m + 9), .ref (m + 10), .int tn, .int he, .int en, .int ln, .int iw, .int id0]) := by rw [ew_1, List.getElem?_set_ne (by omega)]; exact hm
  have hf1__m___5_ : w_1[(m + 5)]? = some (mI 0 536 (upd (blTo q b n8 c) (n8 * 67 + c) (b c))) := by rw [ew_1]; exact List.getElem?_set_self (lt_of_get hp)
  have hf1__m___2_ : w_1[(m + 2)]? = some (mI 0 67 b) := by rw [ew_1, List.getElem?_set_ne (by omega)]; exact hb
  refine r_iinc hC dX9_ends_97 (j := 0) rfl (v := nI (c + 1)) (nI_succ c).symm (by rw [hnl]; decide) (L' := [(2, .int (nI (c + 1))), (0, .ref m), (1, .int is)]) rfl ?_
  refine r_goto hC dX9_ends_100 (tgt := 71) (by decide) ?_
  exact kk _ (by rw [ew_1, blTo_upd])
set_option maxRecDepth 100000 in
theorem en2_all {X : mC} {d : Nat} {w0 : mW} {m n8 : Nat} {th ea fa sv0 tn he en ln iw id0 is : Int32} {q b : Nat → Int32} (hC : Cx X RX9 cX9_ends d 0 0) (hnl : mNL X = 3) (hl0 : m + 5 < w0.length) (hm0 : w0[m]? = some (mO 10 [.int th, .int (nI n8), .int ea, .int fa, .int sv0, .ref (m + 1), .ref (m + 2), .ref (m + 3), .ref (m + 4), .ref (m + 5), .ref (m + 6), .ref (m + 7), .ref (m + 8), .ref (m + 9), .ref (m + 10), .int tn, .int he, .int en, .int ln, .int iw, .int id0])) (hb0 : w0[m + 2]? = some (mI 0 67 b)) (h8 : n8 < 8) (kk : ∀ w', w' = w0.set (m + 5) (mI 0 536 (blTo q b n8 67)) → Wp X 0 0 w' [(2, .int (nI 67)), (0, .ref m), (1, .int is)] [] 71) : ∀ (n c : Nat) (w : mW), c + n = 67 → w = w0.set (m + 5) (mI 0 536 (blTo q b n8 c)) → Wp X 0 0 w [(2, .int (nI c)), (0, .ref m), (1, .int is)] [] 71 := by
  intro n
  induction n with
  | zero =>
    intro c w h9 e9
    obtain rfl : c = 67 := by omega
    exact kk w e9
  | succ n ih =>
    intro c w h9 e9
    refine en2_it hC hnl (by rw [e9]; exact List.getElem?_set_self hl0) (by rw [e9, List.getElem?_set_ne (by omega)]; exact hm0) (by rw [e9, List.getElem?_set_ne (by omega)]; exact hb0) h8 (by omega) (fun w2 e2 => ih (c + 1) w2 (by omega) (by rw [e2, e9, List.set_set]))
set_option maxRecDepth 100000 in
set_option maxHeartbeats 4000000 in
theorem sm_ends8 {d : Nat} {is : Int32} {w : mW} {m : Nat} {l : List sv} {y : sv} {ea fa sv0 tn he en ln iw id0 : Int32} {q : Nat → Int32} (hm : w[m]? = some (mO 10 [.int 0, .int (nI l.length), .int ea, .int fa, .int sv0, .ref (m + 1), .ref (m + 2), .ref (m + 3), .ref (m + 4), .ref (m + 5), .ref (m + 6), .ref (m + 7), .ref (m + 8), .ref (m + 9), .ref (m + 10), .int tn, .int he, .int en, .int ln, .int iw, .int id0])) (hb : w[m + 2]? = some (mI 0 67 (enc y))) (hp : w[m + 5]? = some (mI 0 536 q)) (hq : PastOK q l) (h8 : l.length = 8) : Sp d yX9_ends cX9_ends 3 (some .int) [.ref m, .int is] w 0 0 (fun v w' => v = some (.int is) ∧ ∃ q', PastOK q' (push8 l y) ∧ w' = (w.set (m + 5) (mI 0 536 q')).set m (mO 10 [.int 0, .int (nI (push8 l y).length), .int ea, .int fa, .int sv0, .ref (m + 1), .ref (m + 2), .ref (m + 3), .ref (m + 4), .ref (m + 5), .ref (m + 6), .ref (m + 7), .ref (m + 8), .ref (m + 9), .ref (m + 10), .int tn, .int he, .int en, .int ln, .int iw, .int id0])) noX := by
  refine Sp.of (by decide +kernel) (Nat.le_of_ble_eq_true rfl) (fun X hC hnl hE hR hN => ?_)
  have hC : Cx X RX9 cX9_ends d 0 0 := hC
  show Wp X 0 0 w [(0, .ref m), (1, .int is)] [] 0
  refine r_aload_n hC dX9_ends_0 rfl (j := 0) rfl ?_
  refine r_get hC gX9_ends_1 hm (v := .int 0) rfl ?_
  refine r_if_eq hC dX9_ends_4 (tgt := 20) (by decide) (fun _ => ?_) (fun h => absurd rfl h)
  refine r_aload_n hC dX9_ends_20 rfl (j := 0) rfl ?_
  refine r_get hC gX9_ends_21 hm (v := .int (nI l.length)) rfl ?_
  refine r_bipush hC dX9_ends_24 (v := 8) (by decide) ?_
  refine r_icmp_ne hC dX9_ends_26 (tgt := 69) (by decide) (fun h => absurd (show nI l.length = 8 by rw [h8]; rfl) h) (fun _ => ?_)
  refine r_iconst hC dX9_ends_29 (v := 0) (by decide) ?_
  refine r_istore_n hC dX9_ends_30 rfl (by rw [hnl]; decide) (L' := [(2, .int 0), (0, .ref m), (1, .int is)]) rfl ?_
  refine en1_all (q := q) (w0 := w) hC hnl (lt_of_get hp) hm (fun w2 e2 => ?_) 469 0 w rfl (set_same (by rw [show shTo q 0 = q from rfl]; exact hp)).symm
  have hm2 : w2[m]? = some (mO 10 [.int 0, .int (nI l.length), .int ea, .int fa, .int sv0, .ref (m + 1), .ref (m + 2), .ref (m + 3), .ref (m + 4), .ref (m + 5), .ref (m + 6), .ref (m + 7), .ref (m + 8), .ref (m + 9), .ref (m + 10), .int tn, .int he, .int en, .int ln, .int iw, .int id0]) := by rw [e2, List.getElem?_set_ne (by omega)]; exact hm
  have hb2 : w2[m + 2]? = some (mI 0 67 (enc y)) := by rw [e2, List.getElem?_set_ne (by omega)]; exact hb
  have hp2 : w2[m + 5]? = some (mI 0 536 (shTo q 469)) := by rw [e2]; exact List.getElem?_set_self (lt_of_get hp)
  have hq2 := past_tail hq h8
  have hl2 : l.tail.length = 7 := by rw [List.length_tail]; omega
  have hn7 : nI l.length - 1 = nI 7 := by rw [h8]; rfl
  refine r_iload_n hC dX9_ends_31 rfl (j := 0) rfl ?_
  refine r_sipush hC dX9_ends_32 (v := 469) (by decide) ?_
  refine r_icmp_ge hC dX9_ends_35 (tgt := 59) (by decide) (fun _ => ?_) (fun h => absurd (lit_le (N := 469) rfl (Nat.le_refl 469) (by decide)) h)
  refine r_aload_n hC dX9_ends_59 rfl (j := 1) rfl ?_
  refine r_dup hC dX9_ends_60 rfl ?_
  refine r_get hC gX9_ends_61 hm2 (v := .int (nI l.length)) rfl ?_
  refine r_iconst hC dX9_ends_64 (v := 1) (by decide) ?_
  refine r_isub hC dX9_ends_65 ?_
  rw [hn7]
  refine r_put' hC pX9_ends_66 hm2 (Nat.le_of_ble_eq_true rfl) (fun _ => rfl) (fun _ => rfl) (fun w_1 ew_1 => ?_)
  replace ew_1 : w_1 = (w2).set (m) (mO 10 [.int 0, .int (nI 7), .int ea, .int fa, .int sv0, .ref (m + 1), .ref (m + 2), .ref (m + 3), .ref (m + 4), .ref (m + 5), .ref (m + 6), .ref (m + 7), .ref (m + 8), .ref (m + 9), .ref (m + 10), .int tn, .int he, .int en, .int ln, .int iw, .int id0]) := ew_1
  have hf1_m : w_1[m]? = some (mO 10 [.int 0, .int (nI 7), .int ea, .int fa, .int sv0, .ref (m + 1), .ref (m + 2), .ref (m + 3), .ref (m + 4), .ref (m + 5), .ref (m + 6), .ref (m + 7), .ref (m + 8), .ref (m + 9), .ref (m + 10), .int tn, .int he, .int en, .int ln, .int iw, .int id0]) := by rw [ew_1]; exact List.getElem?_set_self (lt_of_get hm2)
  have hf1__m___2_ : w_1[(m + 2)]? = some (mI 0 67 (enc y)) := by rw [ew_1, List.getElem?_set_ne (by omega)]; exact hb2
  have hf1__m___5_ : w_1[(m + 5)]? = some (mI 0 536 (shTo q 469)) := by rw [ew_1, List.getElem?_set_ne (by omega)]; exact hp2
  refine r_iconst hC dX9_ends_69 (v := 0) (by decide) ?_
  refine r_istore_n hC dX9_ends_70 rfl (by rw [hnl]; decide) (L' := [(2, .int 0), (0, .ref m), (1, .int is)]) rfl ?_
  refine en2_all (n8 := 7) (q := shTo q 469) (b := enc y) (w0 := w_1) hC hnl (lt_of_get hf1__m___5_) hf1_m hf1__m___2_ (by decide) (fun w3 e3 => ?_) 67 0 w_1 rfl (set_same (by rw [show blTo (shTo q 469) (enc y) 7 0 = shTo q 469 from funext (fun j => if_neg (by omega))]; exact hf1__m___5_)).symm
  have hm3 : w3[m]? = some (mO 10 [.int 0, .int (nI 7), .int ea, .int fa, .int sv0, .ref (m + 1), .ref (m + 2), .ref (m + 3), .ref (m + 4), .ref (m + 5), .ref (m + 6), .ref (m + 7), .ref (m + 8), .ref (m + 9), .ref (m + 10), .int tn, .int he, .int en, .int ln, .int iw, .int id0]) := by rw [e3, List.getElem?_set_ne (by omega)]; exact hf1_m
  have hq3 : PastOK (blTo (shTo q 469) (enc y) 7 67) (push8 l y) := by
    rw [push8_8 h8, ← hl2]
    exact past_app hq2 (by omega)
  have hn9 : nI 7 + 1 = nI (push8 l y).length := by rw [push8_len (by omega), if_pos h8]; rfl
  have hl3 : w3.length = w.length := by simp only [e3, ew_1, e2, List.length_set]
  refine r_iload_n hC dX9_ends_71 rfl (j := 0) rfl ?_
  refine r_bipush hC dX9_ends_72 (v := 67) (by decide) ?_
  refine r_icmp_ge hC dX9_ends_74 (tgt := 103) (by decide) (fun _ => ?_) (fun h => absurd (lit_le rfl (Nat.le_refl 67) (by decide)) h)
  refine r_aload_n hC dX9_ends_103 rfl (j := 1) rfl ?_
  refine r_dup hC dX9_ends_104 rfl ?_
  refine r_get hC gX9_ends_105 hm3 (v := .int (nI 7)) rfl ?_
  refine r_iconst hC dX9_ends_108 (v := 1) (by decide) ?_
  refine r_iadd hC dX9_ends_109 ?_
  rw [hn9]
  refine r_put' hC pX9_ends_110 hm3 (Nat.le_of_ble_eq_true rfl) (fun _ => rfl) (fun _ => rfl) (fun w_11 ew_11 => ?_)
  replace ew_11 : w_11 = (w3).set (m) (mO 10 [.int 0, .int (nI (push8 l y).length), .int ea, .int fa, .int sv0, .ref (m + 1), .ref (m + 2), .ref (m + 3), .ref (m + 4), .ref (m + 5), .ref (m + 6), .ref (m + 7), .ref (m + 8), .ref (m + 9), .ref (m + 10), .int tn, .int he, .int en, .int ln, .int iw, .int id0]) := ew_11
  have hf11_m : w_11[m]? = some (mO 10 [.int 0, .int (nI (push8 l y).length), .int ea, .int fa, .int sv0, .ref (m + 1), .ref (m + 2), .ref (m + 3), .ref (m + 4), .ref (m + 5), .ref (m + 6), .ref (m + 7), .ref (m + 8), .ref (m + 9), .ref (m + 10), .int tn, .int he, .int en, .int ln, .int iw, .int id0]) := by rw [ew_11]; exact List.getElem?_set_self (lt_of_get hm3)
  refine r_iload_n hC dX9_ends_113 rfl (j := 2) rfl ?_
  refine r_iret hC hE hR dX9_ends_114 (by omega) (by omega) (by simp only [ew_11, hl3, List.length_set]) ?_
  refine ⟨rfl, _, hq3, ?_⟩
  rw [ew_11, e3, ew_1, e2]
  rw [List.set_comm _ _ (show m ≠ m + 5 by omega)]
  simp only [List.set_set]
set_option maxRecDepth 100000 in
set_option maxHeartbeats 4000000 in
theorem sm_endsn {d : Nat} {is : Int32} {w : mW} {m : Nat} {l : List sv} {y : sv} {ea fa sv0 tn he en ln iw id0 : Int32} {q : Nat → Int32} (hm : w[m]? = some (mO 10 [.int 0, .int (nI l.length), .int ea, .int fa, .int sv0, .ref (m + 1), .ref (m + 2), .ref (m + 3), .ref (m + 4), .ref (m + 5), .ref (m + 6), .ref (m + 7), .ref (m + 8), .ref (m + 9), .ref (m + 10), .int tn, .int he, .int en, .int ln, .int iw, .int id0])) (hb : w[m + 2]? = some (mI 0 67 (enc y))) (hp : w[m + 5]? = some (mI 0 536 q)) (hq : PastOK q l) (h8 : l.length < 8) : Sp d yX9_ends cX9_ends 3 (some .int) [.ref m, .int is] w 0 0 (fun v w' => v = some (.int is) ∧ ∃ q', PastOK q' (push8 l y) ∧ w' = (w.set (m + 5) (mI 0 536 q')).set m (mO 10 [.int 0, .int (nI (push8 l y).length), .int ea, .int fa, .int sv0, .ref (m + 1), .ref (m + 2), .ref (m + 3), .ref (m + 4), .ref (m + 5), .ref (m + 6), .ref (m + 7), .ref (m + 8), .ref (m + 9), .ref (m + 10), .int tn, .int he, .int en, .int ln, .int iw, .int id0])) noX := by
  refine Sp.of (by decide +kernel) (Nat.le_of_ble_eq_true rfl) (fun X hC hnl hE hR hN => ?_)
  have hC : Cx X RX9 cX9_ends d 0 0 := hC
  show Wp X 0 0 w [(0, .ref m), (1, .int is)] [] 0
  refine r_aload_n hC dX9_ends_0 rfl (j := 0) rfl ?_
  refine r_get hC gX9_ends_1 hm (v := .int 0) rfl ?_
  refine r_if_eq hC dX9_ends_4 (tgt := 20) (by decide) (fun _ => ?_) (fun h => absurd rfl h)
  refine r_aload_n hC dX9_ends_20 rfl (j := 0) rfl ?_
  refine r_get hC gX9_ends_21 hm (v := .int (nI l.length)) rfl ?_
  refine r_bipush hC dX9_ends_24 (v := 8) (by decide) ?_
  refine r_icmp_ne hC dX9_ends_26 (tgt := 69) (by decide) (fun _ => ?_) (fun h => absurd h (fun z => absurd ((nI_eq (b := 8) (by omega) (by decide)).mp z) (by omega)))
  refine r_iconst hC dX9_ends_69 (v := 0) (by decide) ?_
  refine r_istore_n hC dX9_ends_70 rfl (by rw [hnl]; decide) (L' := [(2, .int 0), (0, .ref m), (1, .int is)]) rfl ?_
  refine en2_all (n8 := l.length) (q := q) (b := enc y) (w0 := w) hC hnl (lt_of_get hp) hm hb h8 (fun w3 e3 => ?_) 67 0 w rfl (set_same (by rw [show blTo q (enc y) l.length 0 = q from funext (fun j => if_neg (by omega))]; exact hp)).symm
  have hm3 : w3[m]? = some (mO 10 [.int 0, .int (nI l.length), .int ea, .int fa, .int sv0, .ref (m + 1), .ref (m + 2), .ref (m + 3), .ref (m + 4), .ref (m + 5), .ref (m + 6), .ref (m + 7), .ref (m + 8), .ref (m + 9), .ref (m + 10), .int tn, .int he, .int en, .int ln, .int iw, .int id0]) := by rw [e3, List.getElem?_set_ne (by omega)]; exact hm
  have hq3 : PastOK (blTo q (enc y) l.length 67) (push8 l y) := by
    rw [push8_n (by omega)]
    exact past_app hq (by omega)
  have hn9 : nI l.length + 1 = nI (push8 l y).length := by rw [push8_len (by omega), if_neg (by omega), nI_succ]
  have hl3 : w3.length = w.length := by simp only [e3, List.length_set]
  refine r_iload_n hC dX9_ends_71 rfl (j := 0) rfl ?_
  refine r_bipush hC dX9_ends_72 (v := 67) (by decide) ?_
  refine r_icmp_ge hC dX9_ends_74 (tgt := 103) (by decide) (fun _ => ?_) (fun h => absurd (lit_le rfl (Nat.le_refl 67) (by decide)) h)
  refine r_aload_n hC dX9_ends_103 rfl (j := 1) rfl ?_
  refine r_dup hC dX9_ends_104 rfl ?_
  refine r_get hC gX9_ends_105 hm3 (v := .int (nI l.length)) rfl ?_
  refine r_iconst hC dX9_ends_108 (v := 1) (by decide) ?_
  refine r_iadd hC dX9_ends_109 ?_
  rw [hn9]
  refine r_put' hC pX9_ends_110 hm3 (Nat.le_of_ble_eq_true rfl) (fun _ => rfl) (fun _ => rfl) (fun w_11 ew_11 => ?_)
  replace ew_11 : w_11 = (w3).set (m) (mO 10 [.int 0, .int (nI (push8 l y).length), .int ea, .int fa, .int sv0, .ref (m + 1), .ref (m + 2), .ref (m + 3), .ref (m + 4), .ref (m + 5), .ref (m + 6), .ref (m + 7), .ref (m + 8), .ref (m + 9), .ref (m + 10), .int tn, .int he, .int en, .int ln, .int iw, .int id0]) := ew_11
  have hf11_m : w_11[m]? = some (mO 10 [.int 0, .int (nI (push8 l y).length), .int ea, .int fa, .int sv0, .ref (m + 1), .ref (m + 2), .ref (m + 3), .ref (m + 4), .ref (m + 5), .ref (m + 6), .ref (m + 7), .ref (m + 8), .ref (m + 9), .ref (m + 10), .int tn, .int he, .int en, .int ln, .int iw, .int id0]) := by rw [ew_11]; exact List.getElem?_set_self (lt_of_get hm3)
  refine r_iload_n hC dX9_ends_113 rfl (j := 2) rfl ?_
  refine r_iret hC hE hR dX9_ends_114 (by omega) (by omega) (by simp only [ew_11, hl3, List.length_set]) ?_
  refine ⟨rfl, _, hq3, ?_⟩
  rw [ew_11, e3]
theorem sm_endsK {w : mW} {m : Nat} {l : List sv} {y : sv} {ea fa sv0 tn he en ln iw id0 : Int32} {q : Nat → Int32} {d : Nat} {is : Int32} (hm : w[m]? = some (mO 10 [.int 0, .int (nI l.length), .int ea, .int fa, .int sv0, .ref (m + 1), .ref (m + 2), .ref (m + 3), .ref (m + 4), .ref (m + 5), .ref (m + 6), .ref (m + 7), .ref (m + 8), .ref (m + 9), .ref (m + 10), .int tn, .int he, .int en, .int ln, .int iw, .int id0])) (hb : w[m + 2]? = some (mI 0 67 (enc y))) (hp : w[m + 5]? = some (mI 0 536 q)) (hq : PastOK q l) : Sp d yX9_ends cX9_ends 3 (some .int) [.ref m, .int is] w 0 0 (fun v w' => v = some (.int is) ∧ ∃ q', PastOK q' (push8 l y) ∧ w' = (w.set (m + 5) (mI 0 536 q')).set m (mO 10 [.int 0, .int (nI (push8 l y).length), .int ea, .int fa, .int sv0, .ref (m + 1), .ref (m + 2), .ref (m + 3), .ref (m + 4), .ref (m + 5), .ref (m + 6), .ref (m + 7), .ref (m + 8), .ref (m + 9), .ref (m + 10), .int tn, .int he, .int en, .int ln, .int iw, .int id0])) noX := by
  rcases Nat.lt_or_ge l.length 8 with h | h
  · exact sm_endsn hm hb hp hq h
  · exact sm_ends8 hm hb hp hq (by have := hq.1; omega)
end MD7
