section LV
/-- how many of the first c cells are at least lv high -/
def lvC (f : Nat → Int32) (lv : Nat) (c : Nat) : Nat := sN (fun k => if lv ≤ cN f k then 1 else 0) c
/-- .. of the levels 1 to j -/
def lvT (f : Nat → Int32) : Nat → Nat
  | 0 => 0
  | j + 1 => lvT f j + lvC f (j + 1) 25
theorem lvC_s {f : Nat → Int32} {lv c : Nat} : lvC f lv (c + 1) = lvC f lv c + (if lv ≤ cN f c then 1 else 0) := rfl
theorem nI_ltS {a b : Nat} (ha : a < 2 ^ 31) (hb : b < 2 ^ 31) : nI a < nI b ↔ a < b := by
  rw [Int32.lt_iff_toInt_lt, nI_toInt ha, nI_toInt hb]
  omega
theorem lvl_lt {f : Nat → Int32} {c lv : Nat} (h : ¬ f c < 0) (h4 : cN f c < 400) (hl : lv < 1000) : f c < nI lv ↔ cN f c < lv := by
  rw [(cN_eq h).1, nI_ltS (by omega) (by omega)]
theorem sN_add {F G : Nat → Nat} : ∀ {n : Nat}, sN F n + sN G n = sN (fun k => F k + G k) n
  | 0 => rfl
  | n + 1 => by
    have := sN_add (F := F) (G := G) (n := n)
    unfold sN
    show sN F n + F n + (sN G n + G n) = sN (fun k => F k + G k) n + (F n + G n)
    omega
theorem lvT_min {f : Nat → Int32} : ∀ j, lvT f j = sN (fun k => min (cN f k) j) 25
  | 0 => by
    show 0 = _
    have : sN (fun k => min (cN f k) 0) 25 = sN (fun _ => 0) 25 := sN_congr (fun k _ => Nat.min_zero _)
    rw [this]
    rfl
  | j + 1 => by
    show lvT f j + lvC f (j + 1) 25 = _
    rw [lvT_min j]
    unfold lvC
    rw [sN_add]
    refine sN_congr (fun k _ => ?_)
    by_cases z : j + 1 ≤ cN f k
    · rw [if_pos z, Nat.min_eq_right (by omega), Nat.min_eq_right z]
    · rw [if_neg z, Nat.min_eq_left (by omega), Nat.min_eq_left (by omega), Nat.add_zero]
theorem hMax_ge {f : Nat → Int32} : ∀ {n k : Nat}, k < n → f k ≤ f (hMax f n)
  | 0, k, h => absurd h (Nat.not_lt_zero k)
  | n + 1, k, h => by
    unfold hMax
    split
    · rename_i z
      rcases Nat.lt_or_ge k n with q | q
      · exact Int32.le_trans (hMax_ge q) (Int32.le_of_lt (Int32.not_le.mp z))
      · obtain rfl : k = n := by omega
        exact Int32.le_refl _
    · rename_i z
      rcases Nat.lt_or_ge k n with q | q
      · exact hMax_ge q
      · obtain rfl : k = n := by omega
        exact Decidable.not_not.mp z
theorem lvT_all {f : Nat → Int32} (hk : ∀ c, c < 25 → ¬ f c < 0) (h4 : ∀ c, c < 25 → cN f c < 400) : nI (lvT f (cN f (hMax f 25))) = hSum f 25 := by
  rw [hSum_N hk, lvT_min]
  refine congrArg nI (sN_congr (fun k hk9 => Nat.min_eq_left ?_))
  have h1 := hMax_ge (f := f) hk9
  have hm := hMax_lt (f := f) (c := 25) (by decide)
  rw [(cN_eq (hk k hk9)).1, (cN_eq (hk _ hm)).1, Int32.le_iff_toInt_le, nI_toInt (by have := h4 k hk9; omega), nI_toInt (by have := h4 _ hm; omega)] at h1
  omega
set_option maxRecDepth 100000 in
set_option maxHeartbeats 4000000 in
theorem lvi_it {X : mC} {d : Nat} {c : Nat} {t lv a9 : Nat} {w : mW} {h a b : Nat} {f g : Nat → Int32} {sl op lo : Int32} (hC : Cx X RX4 cX4_countByLevels ((d + 1)) 0 0) (hnl : mNL X = 5) (H : HillAt w h a b (f, g, sl, op, lo)) (hk : ∀ c, c < 25 → ¬ f c < 0) (h4 : ∀ c, c < 25 → cN f c < 400) (hlv : lv < 1000) (hc : c < 25) (kk : Wp X 0 0 w [(0, .ref h), (1, .int (nI (a9 + lvC f lv (c + 1)))), (2, .int (nI t)), (3, .int (nI lv)), (4, .int (nI (c + 1)))] [] 22) : Wp X 0 0 w [(0, .ref h), (1, .int (nI (a9 + lvC f lv c))), (2, .int (nI t)), (3, .int (nI lv)), (4, .int (nI c))] [] 22 := by
  obtain ⟨nha, nhb, nab⟩ := H.ne
  have hh : w[h]? = some (mO 6 [.ref a, .ref b, .int sl, .int op, .int lo]) := H.1
  have ha : w[a]? = some (mI 0 26 f) := H.2.1
  have hb : w[b]? = some (mI 0 25 g) := H.2.2
  refine r_iload hC dX4_countByLevels_22 (j := 4) rfl ?_
  refine r_bipush hC dX4_countByLevels_24 (v := 25) (by decide) ?_
  refine r_icmp_ge hC dX4_countByLevels_26 (tgt := 49) (by decide) (fun h => absurd h (lit_ge rfl hc (by decide))) (fun _ => ?_)
  refine r_aload_n hC dX4_countByLevels_29 rfl (j := 0) rfl ?_
  refine r_get hC gX4_countByLevels_30 hh (v := .ref a) rfl ?_
  refine r_iload hC dX4_countByLevels_33 (j := 4) rfl ?_
  refine r_iald hC dX4_countByLevels_35 (j := c) ha (mIx_nI (by omega) (by decide)) ?_
  refine r_iload_n hC dX4_countByLevels_36 rfl (j := 3) rfl ?_
  refine r_icmp_lt hC dX4_countByLevels_37 (tgt := 43) (by decide) (fun c37 => ?_) (fun c37 => ?_)
  · refine r_iinc hC dX4_countByLevels_43 (j := 4) rfl (v := nI (c + 1)) (nI_succ c).symm (by rw [hnl]; decide) (L' := [(4, .int (nI (c + 1))), (0, .ref h), (1, .int (nI (a9 + lvC f lv c))), (2, .int (nI t)), (3, .int (nI lv))]) rfl ?_
    refine r_goto hC dX4_countByLevels_46 (tgt := 22) (by decide) ?_
    refine r_locals [1, 2, 3, 4, 0] (L' := [(0, .ref h), (1, .int (nI (a9 + lvC f lv c))), (2, .int (nI t)), (3, .int (nI lv)), (4, .int (nI (c + 1)))]) rfl ?_
    have e9 : a9 + lvC f lv (c + 1) = a9 + lvC f lv c := by rw [lvC_s, if_neg (by have := (lvl_lt (hk c hc) (h4 c hc) hlv).mp c37; omega)]; rfl
    rw [e9] at kk
    exact kk
  · refine r_iinc hC dX4_countByLevels_40 (j := 1) rfl (v := nI (a9 + lvC f lv c + 1)) (nI_succ _).symm (by rw [hnl]; decide) (L' := [(1, .int (nI (a9 + lvC f lv c + 1))), (0, .ref h), (2, .int (nI t)), (3, .int (nI lv)), (4, .int (nI c))]) rfl ?_
    refine r_iinc hC dX4_countByLevels_43 (j := 4) rfl (v := nI (c + 1)) (nI_succ c).symm (by rw [hnl]; decide) (L' := [(4, .int (nI (c + 1))), (1, .int (nI (a9 + lvC f lv c + 1))), (0, .ref h), (2, .int (nI t)), (3, .int (nI lv))]) rfl ?_
    refine r_goto hC dX4_countByLevels_46 (tgt := 22) (by decide) ?_
    refine r_locals [2, 1, 3, 4, 0] (L' := [(0, .ref h), (1, .int (nI (a9 + lvC f lv c + 1))), (2, .int (nI t)), (3, .int (nI lv)), (4, .int (nI (c + 1)))]) rfl ?_
    have e9 : a9 + lvC f lv (c + 1) = a9 + lvC f lv c + 1 := by rw [lvC_s, if_pos (Nat.le_of_not_lt (fun z => c37 ((lvl_lt (hk c hc) (h4 c hc) hlv).mpr z)))]; omega
    rw [e9] at kk
    exact kk
set_option maxRecDepth 100000 in
theorem lvi_all {X : mC} {d : Nat} {t lv a9 : Nat} {w : mW} {h a b : Nat} {f g : Nat → Int32} {sl op lo : Int32} (hC : Cx X RX4 cX4_countByLevels ((d + 1)) 0 0) (hnl : mNL X = 5) (H : HillAt w h a b (f, g, sl, op, lo)) (hk : ∀ c, c < 25 → ¬ f c < 0) (h4 : ∀ c, c < 25 → cN f c < 400) (hlv : lv < 1000) (kk : Wp X 0 0 w [(0, .ref h), (1, .int (nI (a9 + lvC f lv 25))), (2, .int (nI t)), (3, .int (nI lv)), (4, .int (nI 25))] [] 22) : ∀ i9 c : Nat, c + i9 = 25 → Wp X 0 0 w [(0, .ref h), (1, .int (nI (a9 + lvC f lv c))), (2, .int (nI t)), (3, .int (nI lv)), (4, .int (nI c))] [] 22 := by
  intro i9
  induction i9 with
  | zero =>
    intro c h9
    obtain rfl : c = 25 := by omega
    exact kk
  | succ i9 ih =>
    intro c h9
    exact lvi_it hC hnl H hk h4 hlv (by omega) (ih (c + 1) (by omega))
set_option maxRecDepth 100000 in
set_option maxHeartbeats 4000000 in
theorem lvo_it {X : mC} {d : Nat} {t j : Nat} {w : mW} {h a b : Nat} {f g : Nat → Int32} {sl op lo : Int32} (hC : Cx X RX4 cX4_countByLevels ((d + 1)) 0 0) (hnl : mNL X = 5) (H : HillAt w h a b (f, g, sl, op, lo)) (hk : ∀ c, c < 25 → ¬ f c < 0) (h4 : ∀ c, c < 25 → cN f c < 400) (hj : j < t) (ht : t < 400) (kk : Wp X 0 0 w [(0, .ref h), (1, .int (nI (lvT f (j + 1)))), (2, .int (nI t)), (3, .int (nI (j + 1 + 1)))] [] 14) : Wp X 0 0 w [(0, .ref h), (1, .int (nI (lvT f j))), (2, .int (nI t)), (3, .int (nI (j + 1)))] [] 14 := by
  obtain ⟨nha, nhb, nab⟩ := H.ne
  have hh : w[h]? = some (mO 6 [.ref a, .ref b, .int sl, .int op, .int lo]) := H.1
  have ha : w[a]? = some (mI 0 26 f) := H.2.1
  have hb : w[b]? = some (mI 0 25 g) := H.2.2
  refine r_iload_n hC dX4_countByLevels_14 rfl (j := 3) rfl ?_
  refine r_iload_n hC dX4_countByLevels_15 rfl (j := 2) rfl ?_
  refine r_icmp_gt hC dX4_countByLevels_16 (tgt := 55) (by decide) (fun h => absurd h (Int32.not_lt.mpr (nI_le (by omega) (by omega)))) (fun _ => ?_)
  refine r_iconst hC dX4_countByLevels_19 (v := 0) (by decide) ?_
  refine r_istore hC dX4_countByLevels_20 (by rw [hnl]; decide) (L' := [(4, .int 0), (0, .ref h), (1, .int (nI (lvT f j))), (2, .int (nI t)), (3, .int (nI (j + 1)))]) rfl ?_
  refine r_locals [1, 2, 3, 4, 0] (L' := [(0, .ref h), (1, .int (nI (lvT f j))), (2, .int (nI t)), (3, .int (nI (j + 1))), (4, .int 0)]) rfl ?_
  suffices kk9 : Wp X 0 0 w [(0, .ref h), (1, .int (nI (lvT f j + lvC f (j + 1) 25))), (2, .int (nI t)), (3, .int (nI (j + 1))), (4, .int (nI 25))] [] 22 from lvi_all (a9 := lvT f j) (lv := j + 1) (t := t) (d := d) hC hnl H hk h4 (by omega) kk9 25 0 rfl
  refine r_iload hC dX4_countByLevels_22 (j := 4) rfl ?_
  refine r_bipush hC dX4_countByLevels_24 (v := 25) (by decide) ?_
  refine r_icmp_ge hC dX4_countByLevels_26 (tgt := 49) (by decide) (fun _ => ?_) (fun h => absurd (lit_le rfl (Nat.le_refl 25) (by decide)) h)
  refine r_iinc hC dX4_countByLevels_49 (j := 3) rfl (v := nI (j + 1 + 1)) (nI_succ _).symm (by rw [hnl]; decide) (L' := [(3, .int (nI (j + 1 + 1))), (0, .ref h), (1, .int (nI (lvT f j + lvC f (j + 1) 25))), (2, .int (nI t)), (4, .int (nI 25))]) rfl ?_
  refine r_goto hC dX4_countByLevels_52 (tgt := 14) (by decide) ?_
  refine r_locals [1, 2, 3, 0] (L' := [(0, .ref h), (1, .int (nI (lvT f j + lvC f (j + 1) 25))), (2, .int (nI t)), (3, .int (nI (j + 1 + 1)))]) rfl ?_
  exact kk
set_option maxRecDepth 100000 in
theorem lvo_all {X : mC} {d : Nat} {t : Nat} {w : mW} {h a b : Nat} {f g : Nat → Int32} {sl op lo : Int32} (hC : Cx X RX4 cX4_countByLevels (d + 1) 0 0) (hnl : mNL X = 5) (H : HillAt w h a b (f, g, sl, op, lo)) (hk : ∀ c, c < 25 → ¬ f c < 0) (h4 : ∀ c, c < 25 → cN f c < 400) (ht : t < 400) (kk : Wp X 0 0 w [(0, .ref h), (1, .int (nI (lvT f t))), (2, .int (nI t)), (3, .int (nI (t + 1)))] [] 14) : ∀ i9 c : Nat, c + i9 = t → Wp X 0 0 w [(0, .ref h), (1, .int (nI (lvT f c))), (2, .int (nI t)), (3, .int (nI (c + 1)))] [] 14 := by
  intro i9
  induction i9 with
  | zero =>
    intro c h9
    obtain rfl : c = t := by omega
    exact kk
  | succ i9 ih =>
    intro c h9
    exact lvo_it hC hnl H hk h4 (by omega) ht (ih (c + 1) (by omega))
set_option maxRecDepth 100000 in
set_option maxHeartbeats 4000000 in
theorem sp_levels {d : Nat} {w : mW} {h a b : Nat} {f g : Nat → Int32} {sl op lo : Int32} (H : HillAt w h a b (f, g, sl, op, lo)) (hk : ∀ c, c < 25 → ¬ f c < 0) (h4 : ∀ c, c < 25 → cN f c < 400) : Sp (d + 1) yX4_countByLevels cX4_countByLevels 5 (some .int) [.ref h] w 0 0 (fun v w' => v = some (.int (hSum f 25)) ∧ w' = w) noX := by
  refine Sp.of (by decide +kernel) (Nat.le_of_ble_eq_true rfl) (fun X hC hnl hE hR hN => ?_)
  have hC : Cx X RX4 cX4_countByLevels (d + 1) 0 0 := hC
  show Wp X 0 0 w [(0, .ref h)] [] 0
  obtain ⟨nha, nhb, nab⟩ := H.ne
  have hh : w[h]? = some (mO 6 [.ref a, .ref b, .int sl, .int op, .int lo]) := H.1
  have ha : w[a]? = some (mI 0 26 f) := H.2.1
  have hb : w[b]? = some (mI 0 25 g) := H.2.2
  have hm := hMax_lt (f := f) (c := 25) (by decide)
  have ht := h4 _ hm
  generalize et : cN f (hMax f 25) = t at ht
  refine r_iconst hC dX4_countByLevels_0 (v := 0) (by decide) ?_
  refine r_istore_n hC dX4_countByLevels_1 rfl (by rw [hnl]; decide) (L' := [(1, .int 0), (0, .ref h)]) rfl ?_
  refine r_aload_n hC dX4_countByLevels_2 rfl (j := 1) rfl ?_
  refine r_get hC gX4_countByLevels_3 hh (v := .ref a) rfl ?_
  refine r_aload_n hC dX4_countByLevels_6 rfl (j := 1) rfl ?_
  refine r_callV hC (vs := []) vX4_countByLevels_7 (sp_highest (d := d) H) hh rfl rfl (by omega) (by omega) (by omega) (Nat.le_of_ble_eq_true rfl) (fun v_1 w_1 hP_1 hlen_1 => ?_) (fun _ _ h => h.elim)
  rw [hP_1.1, hP_1.2]
  show Wp X 0 0 w [(1, .int 0), (0, .ref h)] [.int (nI (hMax f 25)), .ref a] 10
  refine r_iald hC dX4_countByLevels_10 (j := (hMax f 25)) ha (mIx_nI (by omega) (by decide)) ?_
  rw [show f (hMax f 25) = nI t from et ▸ (cN_eq (hk _ hm)).1]
  refine r_istore_n hC dX4_countByLevels_11 rfl (by rw [hnl]; decide) (L' := [(2, .int (nI t)), (1, .int 0), (0, .ref h)]) rfl ?_
  refine r_iconst hC dX4_countByLevels_12 (v := 1) (by decide) ?_
  refine r_istore_n hC dX4_countByLevels_13 rfl (by rw [hnl]; decide) (L' := [(3, .int 1), (2, .int (nI t)), (1, .int 0), (0, .ref h)]) rfl ?_
  refine r_locals [3, 2, 1, 0] (L' := [(0, .ref h), (1, .int 0), (2, .int (nI t)), (3, .int 1)]) rfl ?_
  refine lvo_all (t := t) (d := d) hC hnl H hk h4 ht ?_ t 0 (Nat.zero_add t)
  refine r_iload_n hC dX4_countByLevels_14 rfl (j := 3) rfl ?_
  refine r_iload_n hC dX4_countByLevels_15 rfl (j := 2) rfl ?_
  refine r_icmp_gt hC dX4_countByLevels_16 (tgt := 55) (by decide) (fun _ => ?_) (fun h => absurd ((nI_ltS (by omega) (by omega)).mpr (Nat.lt_succ_self t)) h)
  refine r_iload_n hC dX4_countByLevels_55 rfl (j := 1) rfl ?_
  refine r_iret hC hE hR dX4_countByLevels_56 (by omega) (by omega) (rfl) ?_
  exact ⟨by rw [← et, lvT_all hk h4], rfl⟩
end LV
