section TX2
def waN (c : Nat) : Nat := waL.getD c 0
theorem waN_le {c : Nat} (hc : c < 9) : waN c ≤ 41 := by
  have : ∀ c, c < 9 → waN c ≤ 41 := by decide
  exact this c hc
theorem waN_gap {c : Nat} (hc : c < 8) : waN (c + 1) ≤ waN c + 7 := by
  have : ∀ c, c < 8 → waN (c + 1) ≤ waN c + 7 := by decide
  exact this c hc
/-- the first n letters of the word c stand from h on -/
def al (t : Nat → Int32) (e h c : Nat) : Nat → Bool
  | 0 => true
  | n + 1 => al t e h c n && (decide (waN c + n < waN (c + 1)) && decide (wdF (waN c + n) = sgn t e (h + n)))
def anyA (t : Nat → Int32) (e h n : Nat) : Nat → Bool
  | 0 => false
  | c + 1 => anyA t e h n c || al t e h c n
/-- a whole word: the last one below c -/
def finO (t : Nat → Int32) (e h n : Nat) : Nat → Option Nat
  | 0 => none
  | c + 1 => if (al t e h c n && decide (waN c + n = waN (c + 1))) = true then some c else finO t e h n c
/-- which word stands from h on, and how many signs were read -/
def wordR (t : Nat → Int32) (e h : Nat) : Nat → Nat → Option Nat × Nat
  | 0, n => (none, n)
  | k + 1, n => if anyA t e h (n + 1) 8 = true then (match finO t e h (n + 1) 8 with
      | some c => (some c, n + 1)
      | none => wordR t e h k (n + 1)) else (none, n)
def ltF (t : Nat → Int32) (e h n c j : Nat) : Int32 := if j < c then bI (al t e h j (n + 1)) else bI (al t e h j n)
theorem ltF_upd {t : Nat → Int32} {e h n c : Nat} : upd (ltF t e h n c) c (bI (al t e h c (n + 1))) = ltF t e h n (c + 1) := by
  funext j
  by_cases z : j = c
  · subst z
    rw [pk_us]
    exact (if_pos (Nat.lt_succ_self j)).symm
  · rw [pk_un z]
    unfold ltF
    by_cases q : j < c
    · rw [if_pos q, if_pos (by omega)]
    · rw [if_neg q, if_neg (by omega)]
theorem ltF_at {t : Nat → Int32} {e h n c : Nat} : ltF t e h n c c = bI (al t e h c n) := if_neg (Nat.lt_irrefl c)
theorem ltF_at2 {t : Nat → Int32} {e h n c : Nat} : ltF t e h n (c + 1) c = bI (al t e h c (n + 1)) := if_pos (Nat.lt_succ_self c)
theorem ltF_0 {t : Nat → Int32} {e h n : Nat} {j : Nat} : ltF t e h n 0 j = bI (al t e h j n) := if_neg (Nat.not_lt_zero j)
theorem al_len {t : Nat → Int32} {e h c : Nat} : ∀ {n : Nat}, al t e h c n = true → 0 < n → waN c + n ≤ waN (c + 1)
  | 0, _, q => absurd q (Nat.lt_irrefl 0)
  | n + 1, q, _ => by
    simp only [al, Bool.and_eq_true, decide_eq_true_eq] at q
    omega
theorem al_lt {t : Nat → Int32} {e h c : Nat} (hc : c < 8) : ∀ {n : Nat}, al t e h c n = true → h ≤ e → h + n ≤ e
  | 0, _, z => z
  | n + 1, q, z => by
    simp only [al, Bool.and_eq_true, decide_eq_true_eq] at q
    have q1 := al_lt hc q.1 z
    refine sgn_lt q.2.2.symm ?_
    have q2 : ∀ k, k < 41 → ¬ wdF k = -1 := by decide
    exact q2 _ (by have := waN_le (c := c + 1) (by omega); omega)
theorem anyA_ex {t : Nat → Int32} {e h n : Nat} : ∀ {c : Nat}, anyA t e h n c = true → ∃ k, k < c ∧ al t e h k n = true
  | 0, q => by cases q
  | c + 1, q => by
    simp only [anyA, Bool.or_eq_true] at q
    rcases q with q | q
    · obtain ⟨k, hk, q⟩ := anyA_ex q
      exact ⟨k, by omega, q⟩
    · exact ⟨c, Nat.lt_succ_self c, q⟩
theorem anyA_no {t : Nat → Int32} {e h n : Nat} : ∀ {c : Nat}, anyA t e h n c = false → ∀ k, k < c → al t e h k n = false
  | 0, _, k, hk => absurd hk (Nat.not_lt_zero k)
  | c + 1, q, k, hk => by
    simp only [anyA, Bool.or_eq_false_iff] at q
    rcases Nat.lt_or_ge k c with z | z
    · exact anyA_no q.1 k z
    · obtain rfl : k = c := by omega
      exact q.2
theorem finO_lt {t : Nat → Int32} {e h n : Nat} : ∀ {c k : Nat}, finO t e h n c = some k → k < c
  | 0, k, q => by cases q
  | c + 1, k, q => by
    unfold finO at q
    split at q
    · cases q; omega
    · have := finO_lt q; omega
theorem finO_no {t : Nat → Int32} {e h n : Nat} : ∀ {c : Nat}, (∀ k, k < c → al t e h k n = false) → finO t e h n c = none
  | 0, _ => rfl
  | c + 1, q => by
    unfold finO
    rw [if_neg (by rw [q c (Nat.lt_succ_self c)]; simp)]
    exact finO_no (fun k hk => q k (by omega))
theorem finO_al {t : Nat → Int32} {e h n : Nat} : ∀ {c k : Nat}, finO t e h n c = some k → al t e h k n = true ∧ waN k + n = waN (k + 1)
  | 0, k, q => by cases q
  | c + 1, k, q => by
    unfold finO at q
    split at q
    · rename_i z
      cases q
      simpa using z
    · exact finO_al q
theorem bI_and1 {b : Bool} : bI b &&& 1 = bI b := by cases b <;> decide
theorem bI_and0 {b : Bool} : bI b &&& 0 = 0 := by cases b <;> decide
theorem bI_or1 {b : Bool} : bI b ||| 1 = 1 := by cases b <;> decide
theorem bI_or0 {b : Bool} : bI b ||| 0 = bI b := by cases b <;> decide
set_option maxRecDepth 100000 in
set_option maxHeartbeats 4000000 in
theorem wi0_it {X : mC} {d : Nat} {w : mW} {c : Nat} {m : Nat} {th ch ea fa sv0 tn he en ln iw id0 : Int32} {q : Nat → Int32} (hC : Cx X RX9 cX9_word d 0 0) (hnl : mNL X = 5) (hlt : w[m + 8]? = some (mI 0 8 (cpTo q (fun _ => 1) c))) (hm : w[m]? = some (mO 10 [.int th, .int ch, .int ea, .int fa, .int sv0, .ref (m + 1), .ref (m + 2), .ref (m + 3), .ref (m + 4), .ref (m + 5), .ref (m + 6), .ref (m + 7), .ref (m + 8), .ref (m + 9), .ref (m + 10), .int tn, .int he, .int en, .int ln, .int iw, .int id0])) (hc : c < 8) (kk : ∀ w', w' = w.set (m + 8) (mI 0 8 (cpTo q (fun _ => 1) (c + 1))) → Wp X 0 0 w' [(1, .int (nI (c + 1))), (0, .ref m)] [] 2) : Wp X 0 0 w [(1, .int (nI c)), (0, .ref m)] [] 2 := by
  refine r_iload_n hC dX9_word_2 rfl (j := 0) rfl ?_
  refine r_bipush hC dX9_word_3 (v := 8) (by decide) ?_
  refine r_icmp_ge hC dX9_word_5 (tgt := 21) (by decide) (fun h => absurd h (lit_ge rfl hc (by decide))) (fun _ => ?_)
  refine r_aload_n hC dX9_word_8 rfl (j := 1) rfl ?_
  refine r_get hC gX9_word_9 hm (v := .ref (m + 8)) rfl ?_
  refine r_iload_n hC dX9_word_12 rfl (j := 0) rfl ?_
  refine r_iconst hC dX9_word_13 (v := 1) (by decide) ?_
  refine r_iast' hC dX9_word_14 (j := c) hlt (mIx_nI (by omega) (by decide)) (fun w_1 ew_1 => ?_)
  have hf1_m : w_1[m]? = some (mO 10 [.int th, .int ch, .int ea, .int fa, .int sv0, .ref (m + 1), .ref (m + 2), .ref (m + 3), .ref (m + 4), .ref (m + 5), .ref (m + 6), .ref (m + 7), .ref (m + 8), .ref (m + 9), .ref (m + 10), .int tn, .int he, .int en, .int ln, .int iw, .int id0]) := by rw [ew_1, List.getElem?_set_ne (by omega)]; exact hm
  have hf1__m___8_ : w_1[(m + 8)]? = some (mI 0 8 (upd (cpTo q (fun _ => 1) c) c 1)) := by rw [ew_1]; exact List.getElem?_set_self (lt_of_get hlt)
  refine r_iinc hC dX9_word_15 (j := 0) rfl (v := nI (c + 1)) (nI_succ c).symm (by rw [hnl]; decide) (L' := [(1, .int (nI (c + 1))), (0, .ref m)]) rfl ?_
  refine r_goto hC dX9_word_18 (tgt := 2) (by decide) ?_
  exact kk _ (by rw [ew_1]; rw [← cpTo_upd (fb := fun _ => (1 : Int32))])
set_option maxRecDepth 100000 in
theorem wi0_all {X : mC} {d : Nat} {w0 : mW} {m : Nat} {th ch ea fa sv0 tn he en ln iw id0 : Int32} {q : Nat → Int32} (hC : Cx X RX9 cX9_word d 0 0) (hnl : mNL X = 5) (hl0 : m + 8 < w0.length) (hm0 : w0[m]? = some (mO 10 [.int th, .int ch, .int ea, .int fa, .int sv0, .ref (m + 1), .ref (m + 2), .ref (m + 3), .ref (m + 4), .ref (m + 5), .ref (m + 6), .ref (m + 7), .ref (m + 8), .ref (m + 9), .ref (m + 10), .int tn, .int he, .int en, .int ln, .int iw, .int id0]))  (kk : ∀ w', w' = w0.set (m + 8) (mI 0 8 (cpTo q (fun _ => 1) 8)) → Wp X 0 0 w' [(1, .int (nI 8)), (0, .ref m)] [] 2) : ∀ (i9 c : Nat) (w : mW), c + i9 = 8 → w = w0.set (m + 8) (mI 0 8 (cpTo q (fun _ => 1) c)) → Wp X 0 0 w [(1, .int (nI c)), (0, .ref m)] [] 2 := by
  intro i9
  induction i9 with
  | zero =>
    intro c w h9 e9
    obtain rfl : c = 8 := by omega
    exact kk w e9
  | succ i9 ih =>
    intro c w h9 e9
    refine wi0_it hC hnl (by rw [e9]; exact List.getElem?_set_self hl0) (by rw [e9, List.getElem?_set_ne (by omega)]; exact hm0)  (by omega) (fun w2 e2 => ih (c + 1) w2 (by omega) (by rw [e2, e9, List.set_set]))
set_option maxRecDepth 100000 in
set_option maxHeartbeats 4000000 in
theorem wi1_it {X : mC} {d : Nat} {n c : Nat} {w : mW} {m : Nat} {th ch ea fa sv0 tn ln id0 : Int32} {tx : Nat → Int32} {h e : Nat} (hC : Cx X RX9 cX9_word (d + 1) 0 0) (hnl : mNL X = 5) (hlt : w[m + 8]? = some (mI 0 8 (ltF tx e h n c))) (hm : w[m]? = some (mO 10 [.int th, .int ch, .int ea, .int fa, .int sv0, .ref (m + 1), .ref (m + 2), .ref (m + 3), .ref (m + 4), .ref (m + 5), .ref (m + 6), .ref (m + 7), .ref (m + 8), .ref (m + 9), .ref (m + 10), .int tn, .int (nI (h + n)), .int (nI e), .int ln, .int 0, .int id0])) (htx : w[m + 6]? = some (mI 0 60 tx)) (hwd : w[m + 9]? = some (mI 0 41 wdF)) (hwa : w[m + 10]? = some (mI 0 9 waF)) (he : e ≤ 60) (hh : h + n ≤ e) (hc : c < 8) (kk : ∀ w', w' = w.set (m + 8) (mI 0 8 (ltF tx e h n (c + 1))) → Wp X 0 0 w' [(4, .int (nI (c + 1))), (3, .int (bI (anyA tx e h (n + 1) (c + 1)))), (2, .int (-1)), (1, .int (nI n)), (0, .ref m)] [] 41) : Wp X 0 0 w [(4, .int (nI c)), (3, .int (bI (anyA tx e h (n + 1) c))), (2, .int (-1)), (1, .int (nI n)), (0, .ref m)] [] 41 := by
  refine r_iload hC dX9_word_41 (j := 0) rfl ?_
  refine r_bipush hC dX9_word_43 (v := 8) (by decide) ?_
  refine r_icmp_ge hC dX9_word_45 (tgt := 130) (by decide) (fun h => absurd h (lit_ge rfl hc (by decide))) (fun _ => ?_)
  refine r_aload_n hC dX9_word_48 rfl (j := 4) rfl ?_
  refine r_get hC gX9_word_49 hm (v := .ref (m + 8)) rfl ?_
  refine r_iload hC dX9_word_52 (j := 0) rfl ?_
  refine r_dup2 hC dX9_word_54 rfl rfl ?_
  refine r_iald hC dX9_word_55 (j := c) hlt (mIx_nI (by omega) (by decide)) ?_
  rw [ltF_at]
  refine r_aload_n hC dX9_word_56 rfl (j := 4) rfl ?_
  refine r_get hC gX9_word_57 hm (v := .ref (m + 10)) rfl ?_
  refine r_iload hC dX9_word_60 (j := 0) rfl ?_
  refine r_iald hC dX9_word_62 (j := c) hwa (mIx_nI (by omega) (by decide)) ?_
  rw [show waF c = nI (waN c) from rfl]
  refine r_iload_n hC dX9_word_63 rfl (j := 3) rfl ?_
  refine r_iadd hC dX9_word_64 ?_
  rw [show nI (waN c) + nI n = nI (waN c + n) from nI_add _ _]
  refine r_aload_n hC dX9_word_65 rfl (j := 4) rfl ?_
  refine r_get hC gX9_word_66 hm (v := .ref (m + 10)) rfl ?_
  refine r_iload hC dX9_word_69 (j := 0) rfl ?_
  refine r_iconst hC dX9_word_71 (v := 1) (by decide) ?_
  refine r_iadd hC dX9_word_72 ?_
  refine r_iald hC dX9_word_73 (j := (c + 1)) hwa (by rw [show nI c + 1 = nI (c + 1) from (nI_succ c).symm]; exact mIx_nI (by omega) (by decide)) ?_
  rw [show waF (c + 1) = nI (waN (c + 1)) from rfl]
  refine r_icmp_ge hC dX9_word_74 (tgt := 102) (by decide) (fun c74 => ?_) (fun c74 => ?_)
  · refine r_iconst hC dX9_word_102 (v := 0) (by decide) ?_
    refine r_iand hC dX9_word_103 ?_
    have y1 : ¬ waN c + n < waN (c + 1) := fun z => absurd c74 (nI_ge z (by have := waN_le (c := c) (by omega); have := waN_le (c := c + 1) (by omega); omega))
    have y2 : al tx e h c (n + 1) = false := by
      simp [al, y1]
    rw [show (((bI (al tx e h c n)) &&& 0) : Int32) = bI (al tx e h c (n + 1)) from by rw [y2]; exact bI_and0]
    refine r_iast' hC dX9_word_104 (j := c) hlt (mIx_nI (by omega) (by decide)) (fun w_1 ew_1 => ?_)
    have hf1_m : w_1[m]? = some (mO 10 [.int th, .int ch, .int ea, .int fa, .int sv0, .ref (m + 1), .ref (m + 2), .ref (m + 3), .ref (m + 4), .ref (m + 5), .ref (m + 6), .ref (m + 7), .ref (m + 8), .ref (m + 9), .ref (m + 10), .int tn, .int (nI (h + n)), .int (nI e), .int ln, .int 0, .int id0]) := by rw [ew_1, List.getElem?_set_ne (by omega)]; exact hm
    have hf1__m___6_ : w_1[(m + 6)]? = some (mI 0 60 tx) := by rw [ew_1, List.getElem?_set_ne (by omega)]; exact htx
    have hf1__m___8_ : w_1[(m + 8)]? = some (mI 0 8 (upd (ltF tx e h n c) c (bI (al tx e h c (n + 1))))) := by rw [ew_1]; exact List.getElem?_set_self (lt_of_get hlt)
    have hf1__m___9_ : w_1[(m + 9)]? = some (mI 0 41 wdF) := by rw [ew_1, List.getElem?_set_ne (by omega)]; exact hwd
    have hf1__m___10_ : w_1[(m + 10)]? = some (mI 0 9 waF) := by rw [ew_1, List.getElem?_set_ne (by omega)]; exact hwa
    refine r_iload_n hC dX9_word_105 rfl (j := 1) rfl ?_
    refine r_aload_n hC dX9_word_106 rfl (j := 4) rfl ?_
    refine r_get hC gX9_word_107 hf1_m (v := .ref (m + 8)) rfl ?_
    refine r_iload hC dX9_word_110 (j := 0) rfl ?_
    refine r_iald hC dX9_word_112 (j := c) hf1__m___8_ (mIx_nI (by omega) (by decide)) ?_
    rw [pk_us]
    refine r_iconst hC dX9_word_113 (v := 1) (by decide) ?_
    refine r_icmp_ne hC dX9_word_114 (tgt := 121) (by decide) (fun c114 => ?_) (fun c114 => ?_)
    · refine r_iconst hC dX9_word_121 (v := 0) (by decide) ?_
      refine r_ior hC dX9_word_122 ?_
      have y3 : al tx e h c (n + 1) = false := by cases hq : al tx e h c (n + 1) with | false => rfl | true => exact absurd (by rw [hq]; rfl) c114
      rw [show (((bI (anyA tx e h (n + 1) c)) ||| 0) : Int32) = (bI (anyA tx e h (n + 1) (c + 1))) from by show _ = bI (anyA tx e h (n + 1) c || al tx e h c (n + 1)); rw [y3, Bool.or_false]; exact bI_or0]
      refine r_istore_n hC dX9_word_123 rfl (by rw [hnl]; decide) (L' := [(3, .int (bI (anyA tx e h (n + 1) (c + 1)))), (4, .int (nI c)), (2, .int (-1)), (1, .int (nI n)), (0, .ref m)]) rfl ?_
      refine r_iinc hC dX9_word_124 (j := 1) rfl (v := nI (c + 1)) (nI_succ c).symm (by rw [hnl]; decide) (L' := [(4, .int (nI (c + 1))), (3, .int (bI (anyA tx e h (n + 1) (c + 1)))), (2, .int (-1)), (1, .int (nI n)), (0, .ref m)]) rfl ?_
      refine r_goto hC dX9_word_127 (tgt := 41) (by decide) ?_
      exact kk _ (by rw [ew_1, ltF_upd])
    · refine r_iconst hC dX9_word_117 (v := 1) (by decide) ?_
      refine r_goto hC dX9_word_118 (tgt := 122) (by decide) ?_
      refine r_ior hC dX9_word_122 ?_
      have y3 : al tx e h c (n + 1) = true := by cases hq : al tx e h c (n + 1) with | true => rfl | false => exact absurd c114 (by rw [hq]; decide)
      rw [show (((bI (anyA tx e h (n + 1) c)) ||| 1) : Int32) = (bI (anyA tx e h (n + 1) (c + 1))) from by show _ = bI (anyA tx e h (n + 1) c || al tx e h c (n + 1)); rw [y3, Bool.or_true]; exact bI_or1]
      refine r_istore_n hC dX9_word_123 rfl (by rw [hnl]; decide) (L' := [(3, .int (bI (anyA tx e h (n + 1) (c + 1)))), (4, .int (nI c)), (2, .int (-1)), (1, .int (nI n)), (0, .ref m)]) rfl ?_
      refine r_iinc hC dX9_word_124 (j := 1) rfl (v := nI (c + 1)) (nI_succ c).symm (by rw [hnl]; decide) (L' := [(4, .int (nI (c + 1))), (3, .int (bI (anyA tx e h (n + 1) (c + 1)))), (2, .int (-1)), (1, .int (nI n)), (0, .ref m)]) rfl ?_
      refine r_goto hC dX9_word_127 (tgt := 41) (by decide) ?_
      exact kk _ (by rw [ew_1, ltF_upd])
  · have y0 : waN c + n < waN (c + 1) := Nat.lt_of_not_le (fun z => c74 (nI_le z (by have := waN_le (c := c) (by omega); omega)))
    refine r_aload_n hC dX9_word_77 rfl (j := 4) rfl ?_
    refine r_get hC gX9_word_78 hm (v := .ref (m + 9)) rfl ?_
    refine r_aload_n hC dX9_word_81 rfl (j := 4) rfl ?_
    refine r_get hC gX9_word_82 hm (v := .ref (m + 10)) rfl ?_
    refine r_iload hC dX9_word_85 (j := 0) rfl ?_
    refine r_iald hC dX9_word_87 (j := c) hwa (mIx_nI (by omega) (by decide)) ?_
    rw [show waF c = nI (waN c) from rfl]
    refine r_iload_n hC dX9_word_88 rfl (j := 3) rfl ?_
    refine r_iadd hC dX9_word_89 ?_
    rw [show nI (waN c) + nI n = nI (waN c + n) from nI_add _ _]
    refine r_iald hC dX9_word_90 (j := (waN c + n)) hwd (mIx_nI (by have := waN_le (c := c + 1) (by omega); omega) (by decide)) ?_
    refine r_aload_n hC dX9_word_91 rfl (j := 4) rfl ?_
    refine r_callV hC (vs := []) vX9_word_92 (sm_sign (d := d) (h := h + n) hm htx he hh) hm rfl rfl (by omega) (by omega) (by omega) (Nat.le_of_ble_eq_true rfl) (fun v_2 w_2 hP_2 hlen_2 => ?_) (fun _ _ h => h.elim)
    rw [hP_2.1, hP_2.2]
    show Wp X 0 0 w [(4, .int (nI c)), (3, .int (bI (anyA tx e h (n + 1) c))), (2, .int (-1)), (1, .int (nI n)), (0, .ref m)] [.int (sgn tx e (h + n)), .int (wdF (waN c + n)), .int (bI (al tx e h c n)), .int (nI c), .ref (m + 8)] 95
    refine r_icmp_ne hC dX9_word_95 (tgt := 102) (by decide) (fun c95 => ?_) (fun c95 => ?_)
    · refine r_iconst hC dX9_word_102 (v := 0) (by decide) ?_
      refine r_iand hC dX9_word_103 ?_
      have y2 : al tx e h c (n + 1) = false := by
        simp [al, c95]
      rw [show (((bI (al tx e h c n)) &&& 0) : Int32) = bI (al tx e h c (n + 1)) from by rw [y2]; exact bI_and0]
      refine r_iast' hC dX9_word_104 (j := c) hlt (mIx_nI (by omega) (by decide)) (fun w_3 ew_3 => ?_)
      have hf3_m : w_3[m]? = some (mO 10 [.int th, .int ch, .int ea, .int fa, .int sv0, .ref (m + 1), .ref (m + 2), .ref (m + 3), .ref (m + 4), .ref (m + 5), .ref (m + 6), .ref (m + 7), .ref (m + 8), .ref (m + 9), .ref (m + 10), .int tn, .int (nI (h + n)), .int (nI e), .int ln, .int 0, .int id0]) := by rw [ew_3, List.getElem?_set_ne (by omega)]; exact hm
      have hf3__m___6_ : w_3[(m + 6)]? = some (mI 0 60 tx) := by rw [ew_3, List.getElem?_set_ne (by omega)]; exact htx
      have hf3__m___8_ : w_3[(m + 8)]? = some (mI 0 8 (upd (ltF tx e h n c) c (bI (al tx e h c (n + 1))))) := by rw [ew_3]; exact List.getElem?_set_self (lt_of_get hlt)
      have hf3__m___9_ : w_3[(m + 9)]? = some (mI 0 41 wdF) := by rw [ew_3, List.getElem?_set_ne (by omega)]; exact hwd
      have hf3__m___10_ : w_3[(m + 10)]? = some (mI 0 9 waF) := by rw [ew_3, List.getElem?_set_ne (by omega)]; exact hwa
      refine r_iload_n hC dX9_word_105 rfl (j := 1) rfl ?_
      refine r_aload_n hC dX9_word_106 rfl (j := 4) rfl ?_
      refine r_get hC gX9_word_107 hf3_m (v := .ref (m + 8)) rfl ?_
      refine r_iload hC dX9_word_110 (j := 0) rfl ?_
      refine r_iald hC dX9_word_112 (j := c) hf3__m___8_ (mIx_nI (by omega) (by decide)) ?_
      rw [pk_us]
      refine r_iconst hC dX9_word_113 (v := 1) (by decide) ?_
      refine r_icmp_ne hC dX9_word_114 (tgt := 121) (by decide) (fun c114 => ?_) (fun c114 => ?_)
      · refine r_iconst hC dX9_word_121 (v := 0) (by decide) ?_
        refine r_ior hC dX9_word_122 ?_
        have y3 : al tx e h c (n + 1) = false := by cases hq : al tx e h c (n + 1) with | false => rfl | true => exact absurd (by rw [hq]; rfl) c114
        rw [show (((bI (anyA tx e h (n + 1) c)) ||| 0) : Int32) = (bI (anyA tx e h (n + 1) (c + 1))) from by show _ = bI (anyA tx e h (n + 1) c || al tx e h c (n + 1)); rw [y3, Bool.or_false]; exact bI_or0]
        refine r_istore_n hC dX9_word_123 rfl (by rw [hnl]; decide) (L' := [(3, .int (bI (anyA tx e h (n + 1) (c + 1)))), (4, .int (nI c)), (2, .int (-1)), (1, .int (nI n)), (0, .ref m)]) rfl ?_
        refine r_iinc hC dX9_word_124 (j := 1) rfl (v := nI (c + 1)) (nI_succ c).symm (by rw [hnl]; decide) (L' := [(4, .int (nI (c + 1))), (3, .int (bI (anyA tx e h (n + 1) (c + 1)))), (2, .int (-1)), (1, .int (nI n)), (0, .ref m)]) rfl ?_
        refine r_goto hC dX9_word_127 (tgt := 41) (by decide) ?_
        exact kk _ (by rw [ew_3, ltF_upd])
      · refine r_iconst hC dX9_word_117 (v := 1) (by decide) ?_
        refine r_goto hC dX9_word_118 (tgt := 122) (by decide) ?_
        refine r_ior hC dX9_word_122 ?_
        have y3 : al tx e h c (n + 1) = true := by cases hq : al tx e h c (n + 1) with | true => rfl | false => exact absurd c114 (by rw [hq]; decide)
        rw [show (((bI (anyA tx e h (n + 1) c)) ||| 1) : Int32) = (bI (anyA tx e h (n + 1) (c + 1))) from by show _ = bI (anyA tx e h (n + 1) c || al tx e h c (n + 1)); rw [y3, Bool.or_true]; exact bI_or1]
        refine r_istore_n hC dX9_word_123 rfl (by rw [hnl]; decide) (L' := [(3, .int (bI (anyA tx e h (n + 1) (c + 1)))), (4, .int (nI c)), (2, .int (-1)), (1, .int (nI n)), (0, .ref m)]) rfl ?_
        refine r_iinc hC dX9_word_124 (j := 1) rfl (v := nI (c + 1)) (nI_succ c).symm (by rw [hnl]; decide) (L' := [(4, .int (nI (c + 1))), (3, .int (bI (anyA tx e h (n + 1) (c + 1)))), (2, .int (-1)), (1, .int (nI n)), (0, .ref m)]) rfl ?_
        refine r_goto hC dX9_word_127 (tgt := 41) (by decide) ?_
        exact kk _ (by rw [ew_3, ltF_upd])
    · refine r_iconst hC dX9_word_98 (v := 1) (by decide) ?_
      refine r_goto hC dX9_word_99 (tgt := 103) (by decide) ?_
      refine r_iand hC dX9_word_103 ?_
      have y2 : al tx e h c (n + 1) = al tx e h c n := by
        simp [al, y0, c95]
      rw [show (((bI (al tx e h c n)) &&& 1) : Int32) = bI (al tx e h c (n + 1)) from by rw [y2]; exact bI_and1]
      refine r_iast' hC dX9_word_104 (j := c) hlt (mIx_nI (by omega) (by decide)) (fun w_4 ew_4 => ?_)
      have hf4_m : w_4[m]? = some (mO 10 [.int th, .int ch, .int ea, .int fa, .int sv0, .ref (m + 1), .ref (m + 2), .ref (m + 3), .ref (m + 4), .ref (m + 5), .ref (m + 6), .ref (m + 7), .ref (m + 8), .ref (m + 9), .ref (m + 10), .int tn, .int (nI (h + n)), .int (nI e), .int ln, .int 0, .int id0]) := by rw [ew_4, List.getElem?_set_ne (by omega)]; exact hm
      have hf4__m___6_ : w_4[(m + 6)]? = some (mI 0 60 tx) := by rw [ew_4, List.getElem?_set_ne (by omega)]; exact htx
      have hf4__m___8_ : w_4[(m + 8)]? = some (mI 0 8 (upd (ltF tx e h n c) c (bI (al tx e h c (n + 1))))) := by rw [ew_4]; exact List.getElem?_set_self (lt_of_get hlt)
      have hf4__m___9_ : w_4[(m + 9)]? = some (mI 0 41 wdF) := by rw [ew_4, List.getElem?_set_ne (by omega)]; exact hwd
      have hf4__m___10_ : w_4[(m + 10)]? = some (mI 0 9 waF) := by rw [ew_4, List.getElem?_set_ne (by omega)]; exact hwa
      refine r_iload_n hC dX9_word_105 rfl (j := 1) rfl ?_
      refine r_aload_n hC dX9_word_106 rfl (j := 4) rfl ?_
      refine r_get hC gX9_word_107 hf4_m (v := .ref (m + 8)) rfl ?_
      refine r_iload hC dX9_word_110 (j := 0) rfl ?_
      refine r_iald hC dX9_word_112 (j := c) hf4__m___8_ (mIx_nI (by omega) (by decide)) ?_
      rw [pk_us]
      refine r_iconst hC dX9_word_113 (v := 1) (by decide) ?_
      refine r_icmp_ne hC dX9_word_114 (tgt := 121) (by decide) (fun c114 => ?_) (fun c114 => ?_)
      · refine r_iconst hC dX9_word_121 (v := 0) (by decide) ?_
        refine r_ior hC dX9_word_122 ?_
        have y3 : al tx e h c (n + 1) = false := by cases hq : al tx e h c (n + 1) with | false => rfl | true => exact absurd (by rw [hq]; rfl) c114
        rw [show (((bI (anyA tx e h (n + 1) c)) ||| 0) : Int32) = (bI (anyA tx e h (n + 1) (c + 1))) from by show _ = bI (anyA tx e h (n + 1) c || al tx e h c (n + 1)); rw [y3, Bool.or_false]; exact bI_or0]
        refine r_istore_n hC dX9_word_123 rfl (by rw [hnl]; decide) (L' := [(3, .int (bI (anyA tx e h (n + 1) (c + 1)))), (4, .int (nI c)), (2, .int (-1)), (1, .int (nI n)), (0, .ref m)]) rfl ?_
        refine r_iinc hC dX9_word_124 (j := 1) rfl (v := nI (c + 1)) (nI_succ c).symm (by rw [hnl]; decide) (L' := [(4, .int (nI (c + 1))), (3, .int (bI (anyA tx e h (n + 1) (c + 1)))), (2, .int (-1)), (1, .int (nI n)), (0, .ref m)]) rfl ?_
        refine r_goto hC dX9_word_127 (tgt := 41) (by decide) ?_
        exact kk _ (by rw [ew_4, ltF_upd])
      · refine r_iconst hC dX9_word_117 (v := 1) (by decide) ?_
        refine r_goto hC dX9_word_118 (tgt := 122) (by decide) ?_
        refine r_ior hC dX9_word_122 ?_
        have y3 : al tx e h c (n + 1) = true := by cases hq : al tx e h c (n + 1) with | true => rfl | false => exact absurd c114 (by rw [hq]; decide)
        rw [show (((bI (anyA tx e h (n + 1) c)) ||| 1) : Int32) = (bI (anyA tx e h (n + 1) (c + 1))) from by show _ = bI (anyA tx e h (n + 1) c || al tx e h c (n + 1)); rw [y3, Bool.or_true]; exact bI_or1]
        refine r_istore_n hC dX9_word_123 rfl (by rw [hnl]; decide) (L' := [(3, .int (bI (anyA tx e h (n + 1) (c + 1)))), (4, .int (nI c)), (2, .int (-1)), (1, .int (nI n)), (0, .ref m)]) rfl ?_
        refine r_iinc hC dX9_word_124 (j := 1) rfl (v := nI (c + 1)) (nI_succ c).symm (by rw [hnl]; decide) (L' := [(4, .int (nI (c + 1))), (3, .int (bI (anyA tx e h (n + 1) (c + 1)))), (2, .int (-1)), (1, .int (nI n)), (0, .ref m)]) rfl ?_
        refine r_goto hC dX9_word_127 (tgt := 41) (by decide) ?_
        exact kk _ (by rw [ew_4, ltF_upd])
set_option maxRecDepth 100000 in
theorem wi1_all {X : mC} {d : Nat} {w0 : mW} {n : Nat} {m : Nat} {th ch ea fa sv0 tn ln id0 : Int32} {tx : Nat → Int32} {h e : Nat} (hC : Cx X RX9 cX9_word (d + 1) 0 0) (hnl : mNL X = 5) (hl0 : m + 8 < w0.length) (hm0 : w0[m]? = some (mO 10 [.int th, .int ch, .int ea, .int fa, .int sv0, .ref (m + 1), .ref (m + 2), .ref (m + 3), .ref (m + 4), .ref (m + 5), .ref (m + 6), .ref (m + 7), .ref (m + 8), .ref (m + 9), .ref (m + 10), .int tn, .int (nI (h + n)), .int (nI e), .int ln, .int 0, .int id0])) (htx0 : w0[m + 6]? = some (mI 0 60 tx)) (hwd0 : w0[m + 9]? = some (mI 0 41 wdF)) (hwa0 : w0[m + 10]? = some (mI 0 9 waF)) (he : e ≤ 60) (hh : h + n ≤ e) (kk : ∀ w', w' = w0.set (m + 8) (mI 0 8 (ltF tx e h n 8)) → Wp X 0 0 w' [(4, .int (nI 8)), (3, .int (bI (anyA tx e h (n + 1) 8))), (2, .int (-1)), (1, .int (nI n)), (0, .ref m)] [] 41) : ∀ (i9 c : Nat) (w : mW), c + i9 = 8 → w = w0.set (m + 8) (mI 0 8 (ltF tx e h n c)) → Wp X 0 0 w [(4, .int (nI c)), (3, .int (bI (anyA tx e h (n + 1) c))), (2, .int (-1)), (1, .int (nI n)), (0, .ref m)] [] 41 := by
  intro i9
  induction i9 with
  | zero =>
    intro c w h9 e9
    obtain rfl : c = 8 := by omega
    exact kk w e9
  | succ i9 ih =>
    intro c w h9 e9
    refine wi1_it hC hnl (by rw [e9]; exact List.getElem?_set_self hl0) (by rw [e9, List.getElem?_set_ne (by omega)]; exact hm0) (by rw [e9, List.getElem?_set_ne (by omega)]; exact htx0) (by rw [e9, List.getElem?_set_ne (by omega)]; exact hwd0) (by rw [e9, List.getElem?_set_ne (by omega)]; exact hwa0) he hh (by omega) (fun w2 e2 => ih (c + 1) w2 (by omega) (by rw [e2, e9, List.set_set]))
set_option maxRecDepth 100000 in
set_option maxHeartbeats 4000000 in
theorem wi2_it {X : mC} {d : Nat} {c : Nat} {n : Nat} {x3 : Int32} {w : mW} {m : Nat} {th ch ea fa sv0 tn he en ln iw id0 : Int32} {tx : Nat → Int32} {h e : Nat} {q : Nat → Int32} (hC : Cx X RX9 cX9_word (d + 1) 0 0) (hnl : mNL X = 5) (hlt : w[m + 8]? = some (mI 0 8 q)) (hm : w[m]? = some (mO 10 [.int th, .int ch, .int ea, .int fa, .int sv0, .ref (m + 1), .ref (m + 2), .ref (m + 3), .ref (m + 4), .ref (m + 5), .ref (m + 6), .ref (m + 7), .ref (m + 8), .ref (m + 9), .ref (m + 10), .int tn, .int he, .int en, .int ln, .int iw, .int id0])) (hwa : w[m + 10]? = some (mI 0 9 waF)) (hq : ∀ j, j < 8 → q j = bI (al tx e h j n)) (hn : n ≤ 8) (hc : c < 8) (kk : Wp X 0 0 w [(4, .int (nI (c + 1))), (2, .int (oI (finO tx e h n (c + 1)))), (3, .int x3), (1, .int (nI n)), (0, .ref m)] [] 167) : Wp X 0 0 w [(4, .int (nI c)), (2, .int (oI (finO tx e h n c))), (3, .int x3), (1, .int (nI n)), (0, .ref m)] [] 167 := by
  refine r_iload hC dX9_word_167 (j := 0) rfl ?_
  refine r_bipush hC dX9_word_169 (v := 8) (by decide) ?_
  refine r_icmp_ge hC dX9_word_171 (tgt := 219) (by decide) (fun h => absurd h (lit_ge rfl hc (by decide))) (fun _ => ?_)
  refine r_aload_n hC dX9_word_174 rfl (j := 4) rfl ?_
  refine r_get hC gX9_word_175 hm (v := .ref (m + 8)) rfl ?_
  refine r_iload hC dX9_word_178 (j := 0) rfl ?_
  refine r_iald hC dX9_word_180 (j := c) hlt (mIx_nI (by omega) (by decide)) ?_
  rw [hq c hc]
  refine r_iconst hC dX9_word_181 (v := 1) (by decide) ?_
  refine r_icmp_ne hC dX9_word_182 (tgt := 211) (by decide) (fun c182 => ?_) (fun c182 => ?_)
  · refine r_iload_n hC dX9_word_211 rfl (j := 1) rfl ?_
    refine r_istore_n hC dX9_word_212 rfl (by rw [hnl]; decide) (L' := [(2, .int (oI (finO tx e h n c))), (4, .int (nI c)), (3, .int x3), (1, .int (nI n)), (0, .ref m)]) rfl ?_
    refine r_iinc hC dX9_word_213 (j := 1) rfl (v := nI (c + 1)) (nI_succ c).symm (by rw [hnl]; decide) (L' := [(4, .int (nI (c + 1))), (2, .int (oI (finO tx e h n c))), (3, .int x3), (1, .int (nI n)), (0, .ref m)]) rfl ?_
    refine r_goto hC dX9_word_216 (tgt := 167) (by decide) ?_
    have y3 : al tx e h c n = false := by cases hq9 : al tx e h c n with | false => rfl | true => exact absurd (by rw [hq9]; rfl) c182
    have e9 : finO tx e h n (c + 1) = finO tx e h n c := if_neg (by rw [y3]; simp)
    rw [e9] at kk
    exact kk
  · refine r_aload_n hC dX9_word_185 rfl (j := 4) rfl ?_
    refine r_get hC gX9_word_186 hm (v := .ref (m + 10)) rfl ?_
    refine r_iload hC dX9_word_189 (j := 0) rfl ?_
    refine r_iald hC dX9_word_191 (j := c) hwa (mIx_nI (by omega) (by decide)) ?_
    rw [show waF c = nI (waN c) from rfl]
    refine r_iload_n hC dX9_word_192 rfl (j := 3) rfl ?_
    refine r_iadd hC dX9_word_193 ?_
    rw [show nI (waN c) + nI n = nI (waN c + n) from nI_add _ _]
    refine r_aload_n hC dX9_word_194 rfl (j := 4) rfl ?_
    refine r_get hC gX9_word_195 hm (v := .ref (m + 10)) rfl ?_
    refine r_iload hC dX9_word_198 (j := 0) rfl ?_
    refine r_iconst hC dX9_word_200 (v := 1) (by decide) ?_
    refine r_iadd hC dX9_word_201 ?_
    refine r_iald hC dX9_word_202 (j := (c + 1)) hwa (by rw [show nI c + 1 = nI (c + 1) from (nI_succ c).symm]; exact mIx_nI (by omega) (by decide)) ?_
    rw [show waF (c + 1) = nI (waN (c + 1)) from rfl]
    refine r_icmp_ne hC dX9_word_203 (tgt := 211) (by decide) (fun c203 => ?_) (fun c203 => ?_)
    · refine r_iload_n hC dX9_word_211 rfl (j := 1) rfl ?_
      refine r_istore_n hC dX9_word_212 rfl (by rw [hnl]; decide) (L' := [(2, .int (oI (finO tx e h n c))), (4, .int (nI c)), (3, .int x3), (1, .int (nI n)), (0, .ref m)]) rfl ?_
      refine r_iinc hC dX9_word_213 (j := 1) rfl (v := nI (c + 1)) (nI_succ c).symm (by rw [hnl]; decide) (L' := [(4, .int (nI (c + 1))), (2, .int (oI (finO tx e h n c))), (3, .int x3), (1, .int (nI n)), (0, .ref m)]) rfl ?_
      refine r_goto hC dX9_word_216 (tgt := 167) (by decide) ?_
      have y3 : al tx e h c n = true := by cases hq9 : al tx e h c n with | true => rfl | false => exact absurd c182 (by rw [hq9]; decide)
      have y4 : ¬ waN c + n = waN (c + 1) := fun z => c203 (by rw [z])
      have e9 : finO tx e h n (c + 1) = finO tx e h n c := if_neg (by simp [y4])
      rw [e9] at kk
      exact kk
    · refine r_iload hC dX9_word_206 (j := 0) rfl ?_
      refine r_goto hC dX9_word_208 (tgt := 212) (by decide) ?_
      refine r_istore_n hC dX9_word_212 rfl (by rw [hnl]; decide) (L' := [(2, .int (nI c)), (4, .int (nI c)), (3, .int x3), (1, .int (nI n)), (0, .ref m)]) rfl ?_
      refine r_iinc hC dX9_word_213 (j := 1) rfl (v := nI (c + 1)) (nI_succ c).symm (by rw [hnl]; decide) (L' := [(4, .int (nI (c + 1))), (2, .int (nI c)), (3, .int x3), (1, .int (nI n)), (0, .ref m)]) rfl ?_
      refine r_goto hC dX9_word_216 (tgt := 167) (by decide) ?_
      have y3 : al tx e h c n = true := by cases hq9 : al tx e h c n with | true => rfl | false => exact absurd c182 (by rw [hq9]; decide)
      have y4 : waN c + n = waN (c + 1) := (nI_eq (by have := waN_le (c := c) (by omega); omega) (by have := waN_le (c := c + 1) (by omega); omega)).mp c203
      have e9 : finO tx e h n (c + 1) = some c := if_pos (by simp [y3, y4])
      rw [e9] at kk
      exact kk
set_option maxRecDepth 100000 in
theorem wi2_all {X : mC} {d : Nat} {n : Nat} {x3 : Int32} {w : mW} {m : Nat} {th ch ea fa sv0 tn he en ln iw id0 : Int32} {tx : Nat → Int32} {h e : Nat} {q : Nat → Int32} (hC : Cx X RX9 cX9_word (d + 1) 0 0) (hnl : mNL X = 5) (hlt : w[m + 8]? = some (mI 0 8 q)) (hm : w[m]? = some (mO 10 [.int th, .int ch, .int ea, .int fa, .int sv0, .ref (m + 1), .ref (m + 2), .ref (m + 3), .ref (m + 4), .ref (m + 5), .ref (m + 6), .ref (m + 7), .ref (m + 8), .ref (m + 9), .ref (m + 10), .int tn, .int he, .int en, .int ln, .int iw, .int id0])) (hwa : w[m + 10]? = some (mI 0 9 waF)) (hq : ∀ j, j < 8 → q j = bI (al tx e h j n)) (hn : n ≤ 8) (kk : Wp X 0 0 w [(4, .int (nI 8)), (2, .int (oI (finO tx e h n 8))), (3, .int x3), (1, .int (nI n)), (0, .ref m)] [] 167) : ∀ i9 c : Nat, c + i9 = 8 → Wp X 0 0 w [(4, .int (nI c)), (2, .int (oI (finO tx e h n c))), (3, .int x3), (1, .int (nI n)), (0, .ref m)] [] 167 := by
  intro i9
  induction i9 with
  | zero =>
    intro c h9
    obtain rfl : c = 8 := by omega
    exact kk
  | succ i9 ih =>
    intro c h9
    exact wi2_it hC hnl hlt hm hwa hq hn (by omega) (ih (c + 1) (by omega))
end TX2
