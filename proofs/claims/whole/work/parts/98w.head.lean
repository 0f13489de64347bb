section LH
theorem dv_X8 : ∀ j, j < 12 → defaultValue (tyX8 j) = vp_V [.null, .null, .null, .int 0, .null, .int 0, .int 0, .null, .null, .int 0, .int 0, .null] j := by
  intro j hj
  match j, hj with
  | 0, _ => rfl
  | 1, _ => rfl
  | 2, _ => rfl
  | 3, _ => rfl
  | 4, _ => rfl
  | 5, _ => rfl
  | 6, _ => rfl
  | 7, _ => rfl
  | 8, _ => rfl
  | 9, _ => rfl
  | 10, _ => rfl
  | 11, _ => rfl
  | j + 12, hj => exact absurd hj (by omega)
theorem clL_8 : Cond.classLink RL 8 RX8 ∈ mGood := mGood_in (List.mem_of_getElem? (i := 93) (by decide +kernel)) rfl
theorem in_X8 : Cond.instantiable RX8 12 ∈ mGood := mGood_in (List.mem_of_getElem? (i := 94) (by decide +kernel)) rfl
theorem nL_law_0 : mNewO RL cL_law 0 9 12 [.null, .null, .null, .int 0, .null, .int 0, .int 0, .null, .null, .int 0, .int 0, .null] := ⟨8, RX8, TX8, tyX8, rfl, clL_8, in_X8, ic_X8, uX8, tyX8_ok, dv_X8, dL_law_0⟩
theorem cd_X8_init : Cond.code yX8_init cX8_init 2 none ∈ mGood := mGood_in (List.mem_of_getElem? (i := 97) (by decide +kernel)) rfl
theorem im_X8_init : Cond.instanceMethod yX8_init ∈ mGood := mGood_in (List.mem_of_getElem? (i := 96) (by decide +kernel)) rfl
theorem mlL_114 : Cond.methodLink RL 114 yX8_init ∈ mGood := mGood_in (List.mem_of_getElem? (i := 95) (by decide +kernel)) rfl
theorem vL_law_4 : mCallI RL cL_law 4 yX8_init cX8_init 2 0 := ⟨114, mlL_114, im_X8_init, ic_X8, cd_X8_init, rfl, by decide +kernel, by decide +kernel, by decide, dL_law_4⟩
theorem dv_X9 : ∀ j, j < 21 → defaultValue (tyX9 j) = vp_V [.int 0, .int 0, .int 0, .int 0, .int 0, .null, .null, .null, .null, .null, .null, .null, .null, .null, .null, .int 0, .int 0, .int 0, .int 0, .int 0, .int 0] j := by
  intro j hj
  match j, hj with
  | 0, _ => rfl
  | 1, _ => rfl
  | 2, _ => rfl
  | 3, _ => rfl
  | 4, _ => rfl
  | 5, _ => rfl
  | 6, _ => rfl
  | 7, _ => rfl
  | 8, _ => rfl
  | 9, _ => rfl
  | 10, _ => rfl
  | 11, _ => rfl
  | 12, _ => rfl
  | 13, _ => rfl
  | 14, _ => rfl
  | 15, _ => rfl
  | 16, _ => rfl
  | 17, _ => rfl
  | 18, _ => rfl
  | 19, _ => rfl
  | 20, _ => rfl
  | j + 21, hj => exact absurd hj (by omega)
theorem clL_115 : Cond.classLink RL 115 RX9 ∈ mGood := mGood_in (List.mem_of_getElem? (i := 1395) (by decide +kernel)) rfl
theorem in_X9 : Cond.instantiable RX9 21 ∈ mGood := mGood_in (List.mem_of_getElem? (i := 1396) (by decide +kernel)) rfl
theorem nL_law_8 : mNewO RL cL_law 8 10 21 [.int 0, .int 0, .int 0, .int 0, .int 0, .null, .null, .null, .null, .null, .null, .null, .null, .null, .null, .int 0, .int 0, .int 0, .int 0, .int 0, .int 0] := ⟨115, RX9, TX9, tyX9, rfl, clL_115, in_X9, ic_X9, uX9, tyX9_ok, dv_X9, dL_law_8⟩
theorem cd_X9_init : Cond.code yX9_init cX9_init 1 none ∈ mGood := mGood_in (List.mem_of_getElem? (i := 1399) (by decide +kernel)) rfl
theorem im_X9_init : Cond.instanceMethod yX9_init ∈ mGood := mGood_in (List.mem_of_getElem? (i := 1398) (by decide +kernel)) rfl
theorem mlL_117 : Cond.methodLink RL 117 yX9_init ∈ mGood := mGood_in (List.mem_of_getElem? (i := 1397) (by decide +kernel)) rfl
theorem vL_law_12 : mCallI RL cL_law 12 yX9_init cX9_init 1 0 := ⟨117, mlL_117, im_X9_init, ic_X9, cd_X9_init, rfl, by decide +kernel, by decide +kernel, by decide, dL_law_12⟩
theorem ac_long : Cond.arrayClass (newarray.typeOf .long) ∈ mGood := mGood_in (List.mem_of_getElem? (i := 1798) (by decide +kernel)) rfl
theorem ac_double : Cond.arrayClass (newarray.typeOf .double) ∈ mGood := mGood_in (List.mem_of_getElem? (i := 1799) (by decide +kernel)) rfl
theorem mTie.trans0 {n n' : Nat} {X X1 X2 : mC} (h1 : mTie n X X1) (h2 : mTie n' X1 X2) : mTie 0 X X2 := by
  obtain ⟨p, l, e, R, s, m, args, below, meth, c, Q, D, dt, ad, A, nL⟩ := X
  obtain ⟨a1, k1, rfl⟩ := h1
  obtain ⟨a2, k2, rfl⟩ := h2
  refine ⟨a2, ⟨fun i hi => absurd hi (Nat.not_lt_zero i), fun i hi => (k2.2 i hi).trans (k1.2 i hi)⟩, rfl⟩
theorem sN_zero : ∀ {n : Nat} {F : Nat → Nat}, (∀ j, j < n → F j = 0) → sN F n = 0
  | 0, _, _ => rfl
  | n + 1, F, h => by
    unfold sN
    rw [sN_zero (fun j hj => h j (by omega)), h n (Nat.lt_succ_self n)]
theorem inv_sv0 : SInv sv0 := by
  refine ⟨⟨⟨fun c _ => by show ¬ (0 : Int32) < 0; decide, ?_⟩, rfl, Or.inl rfl, by show ¬ (3 : Int32) < 2; decide, by show ¬ (6 : Int32) < 3; decide, fun c _ => Or.inl rfl⟩, by show ¬ (0 : Int32) < 0; decide, Nat.zero_le _⟩
  rw [sN_zero (fun j _ => by show cN (fun _ => 0) j = 0; rfl)]
  exact Nat.zero_le _
set_option maxRecDepth 100000 in
set_option maxHeartbeats 4000000 in
/-- the law from its first instruction -/
theorem law_head {X : mC} {d mc ms N : Nat} {xs : Nat → Int32} (hX : mScr X N xs) (hC : Cx X RL cL_law (d + 12) mc ms) (hnl : mNL X = 9) (hN : N ≤ 2048) (hmc : 40000 ≤ mc) (hms : 4000000 ≤ ms) (kk : ∀ (X1 : mC), mTie 0 X X1 → ∀ (k n : Nat) (w : mW) (L : List (Nat × Value)), k ≤ mc → n ≤ ms → Wp X1 k n w L [] 2115) : Wp X 0 0 [] [(0, .ref 2000000)] [] 0 := by
  refine n_new hC nL_law_0 (fun _ => rfl) mLowW.nil (by decide) (by omega) (by omega) ⟨Or.inr (by decide), trivial⟩ trivial (fun X1 hT1 => ?_)
  have hC1 := hC.tie hT1
  have hX1 := hX.tie hT1
  have hn1 := (mNL.tie hT1).trans hnl
  have hw1 : mLowW ([mO 9 [.null, .null, .null, .int 0, .null, .int 0, .int 0, .null, .null, .int 0, .int 0, .null]] : mW).length [mO 9 [.null, .null, .null, .int 0, .null, .int 0, .int 0, .null, .null, .int 0, .int 0, .null]] := mLowW.cons (by show mLows _ _; exact ⟨trivial, trivial, trivial, trivial, trivial, trivial, trivial, trivial, trivial, trivial, trivial, trivial, trivial⟩) mLowW.nil
  show Wp X1 (0 + 1) (0 + 12) [mO 9 [.null, .null, .null, .int 0, .null, .int 0, .int 0, .null, .null, .int 0, .int 0, .null]] [(0, .ref 2000000)] [.ref 0] 3
  refine r_dup hC1 dL_law_3 rfl ?_
  refine n_callI hC1 (vs := []) vL_law_4 (cn_contest (d := d) (s := 0) rfl rfl hw1 (by decide)) rfl (by omega) (by omega) (by omega) (Nat.le_of_ble_eq_true rfl) ⟨Or.inr (by decide), trivial⟩ ⟨Or.inl (by decide), trivial⟩ (fun v_2 w_2 X2 hT2 hP_2 hlen_2 => ?_)
  obtain ⟨rfl, ⟨hl2, hw2, -⟩, hct2⟩ := hP_2
  have hC2 := hC1.tie hT2
  have hX2 := hX1.tie hT2
  have hn2 := (mNL.tie hT2).trans hn1
  have hl2 : w_2.length = 89 := hl2
  show Wp X2 (0 + 1 + 90) (0 + 12 + 1043) w_2 [(0, .ref 2000000)] [.ref 0] 7
  refine r_astore_n hC2 dL_law_7 rfl (by rw [hn2]; decide) (L' := [(1, .ref 0), (0, .ref 2000000)]) rfl ?_
  refine n_new hC2 nL_law_8 (fun _ => rfl) hw2 (by omega) (by omega) (by omega) ⟨Or.inl (show 0 < w_2.length by omega), Or.inr (by decide), trivial⟩ trivial (fun X3 hT3 => ?_)
  have hC3 := hC2.tie hT3
  have hX3 := hX2.tie hT3
  have hn3 := (mNL.tie hT3).trans hn2
  obtain ⟨w3, ew3⟩ : ∃ w3 : mW, w3 = w_2 ++ [mO 10 [.int 0, .int 0, .int 0, .int 0, .int 0, .null, .null, .null, .null, .null, .null, .null, .null, .null, .null, .int 0, .int 0, .int 0, .int 0, .int 0, .int 0]] := ⟨_, rfl⟩
  have hl3 : w3.length = 89 + 1 := by rw [ew3, List.length_append, hl2]; rfl
  have hw3 : mLowW w3.length w3 := by
    rw [ew3]
    refine mLowW.app (hw2.mono (by rw [List.length_append]; omega)) (mLowW.cons (by show mLows _ _; exact ⟨trivial, trivial, trivial, trivial, trivial, trivial, trivial, trivial, trivial, trivial, trivial, trivial, trivial, trivial, trivial, trivial, trivial, trivial, trivial, trivial, trivial, trivial⟩) mLowW.nil)
  have hk3 : w3[89]? = some (mO 10 [.int 0, .int 0, .int 0, .int 0, .int 0, .null, .null, .null, .null, .null, .null, .null, .null, .null, .null, .int 0, .int 0, .int 0, .int 0, .int 0, .int 0]) := by rw [ew3, List.getElem?_append_right (by omega), hl2]; rfl
  have hg3 : ∀ k, k < 89 → w3[k]? = w_2[k]? := fun k hk => by rw [ew3, List.getElem?_append_left (by omega)]
  rw [← ew3, hl2]
  show Wp X3 (0 + 1 + 90 + 1) (0 + 12 + 1043 + 21) w3 [(1, .ref 0), (0, .ref 2000000)] [.ref 89] 11
  refine r_dup hC3 dL_law_11 rfl ?_
  refine n_callI hC3 (vs := []) vL_law_12 (cn_model (d := d) (s := 89) hl3 hk3 hw3 (by decide)) rfl (by omega) (by omega) (by omega) (Nat.le_of_ble_eq_true rfl) ⟨Or.inl (show 0 < w3.length by omega), Or.inr (by decide), trivial⟩ ⟨Or.inl (show 89 < w3.length by omega), trivial⟩ (fun v_4 w_4 X4 hT4 hP_4 hlen_4 => ?_)
  obtain ⟨rfl, ⟨hl4, hw4, hg4⟩, hmd4⟩ := hP_4
  have hC4 := hC3.tie hT4
  have hX4 := hX3.tie hT4
  have hn4 := (mNL.tie hT4).trans hn3
  have hl4 : w_4.length = 100 := by rw [hl4, hl3]
  show Wp X4 (0 + 1 + 90 + 1 + 10) (0 + 12 + 1043 + 21 + 962) w_4 [(1, .ref 0), (0, .ref 2000000)] [.ref 89] 15
  refine r_astore_n hC4 dL_law_15 rfl (by rw [hn4]; decide) (L' := [(2, .ref 89), (1, .ref 0), (0, .ref 2000000)]) rfl ?_
  refine r_iconst hC4 dL_law_16 (v := 1) (by decide) ?_
  refine n_newa hC4 (atype := .long) (ty := .long) (t := 1) (N := 1) (a0 := (1, .inr (.inl (fun _ => 0)))) ac_long rfl (fun _ => rfl) (fun _ => rfl) (fun _ => rfl) (by decide) (by decide) (by decide) dL_law_17 hw4 (by omega) (by omega) (by omega) ⟨Or.inl (show 89 < w_4.length by omega), Or.inl (show 0 < w_4.length by omega), Or.inr (by decide), trivial⟩ trivial (fun X5 hT5 => ?_)
  have hC5 := hC4.tie hT5
  have hX5 := hX4.tie hT5
  have hn5 := (mNL.tie hT5).trans hn4
  obtain ⟨w5, ew5⟩ : ∃ w5 : mW, w5 = w_4 ++ [.inl (1, 1, .inr (.inl (fun _ => 0)))] := ⟨_, rfl⟩
  have hl5 : w5.length = 101 := by rw [ew5, List.length_append, hl4]; rfl
  have hw5 : mLowW w5.length w5 := by
    rw [ew5]
    refine mLowW.app (hw4.mono (by rw [List.length_append]; omega)) (mLowW.cons trivial mLowW.nil)
  have hk5 : w5[100]? = some (.inl (1, 1, .inr (.inl (fun _ => 0)))) := by rw [ew5, List.getElem?_append_right (by omega), hl4]; rfl
  have hg5 : ∀ k, k < 100 → w5[k]? = w_4[k]? := fun k hk => by rw [ew5, List.getElem?_append_left (by omega)]
  rw [← ew5, hl4]
  refine r_astore_n hC5 dL_law_19 rfl (by rw [hn5]; decide) (L' := [(3, .ref 100), (2, .ref 89), (1, .ref 0), (0, .ref 2000000)]) rfl ?_
  refine r_iconst hC5 dL_law_20 (v := 1) (by decide) ?_
  refine n_newa hC5 (atype := .double) (ty := .double) (t := 2) (N := 1) (a0 := (1, .inr (.inr (.inr (.inl (fun _ => 0)))))) ac_double rfl (fun _ => rfl) (fun _ => rfl) (fun _ => rfl) (by decide) (by decide) (by decide) dL_law_21 hw5 (by omega) (by omega) (by omega) ⟨Or.inl (show 100 < w5.length by omega), Or.inl (show 89 < w5.length by omega), Or.inl (show 0 < w5.length by omega), Or.inr (by decide), trivial⟩ trivial (fun X6 hT6 => ?_)
  have hC6 := hC5.tie hT6
  have hX6 := hX5.tie hT6
  have hn6 := (mNL.tie hT6).trans hn5
  obtain ⟨w6, ew6⟩ : ∃ w6 : mW, w6 = w5 ++ [.inl (2, 1, .inr (.inr (.inr (.inl (fun _ => 0)))))] := ⟨_, rfl⟩
  have hk6 : w6[101]? = some (.inl (2, 1, .inr (.inr (.inr (.inl (fun _ => 0)))))) := by rw [ew6, List.getElem?_append_right (by omega), hl5]; rfl
  have hg6 : ∀ k, k < 101 → w6[k]? = w5[k]? := fun k hk => by rw [ew6, List.getElem?_append_left (by omega)]
  rw [← ew6, hl5]
  refine r_astore hC6 dL_law_23 (by rw [hn6]; decide) (L' := [(4, .ref 101), (3, .ref 100), (2, .ref 89), (1, .ref 0), (0, .ref 2000000)]) rfl ?_
  refine r_iconst hC6 dL_law_25 (v := 0) (by decide) ?_
  refine r_istore hC6 dL_law_26 (by rw [hn6]; decide) (L' := [(5, .int 0), (4, .ref 101), (3, .ref 100), (2, .ref 89), (1, .ref 0), (0, .ref 2000000)]) rfl ?_
  refine r_locals [5, 4, 3, 2, 1, 0] (L' := [(0, .ref 2000000), (1, .ref 0), (2, .ref 89), (3, .ref 100), (4, .ref 101), (5, .int (nI (4 * 0)))]) rfl ?_
  have hJ : JV w6 := by
    refine ⟨0, sv0, [], -1, -1, none, [], [], fun _ => 0, 0, fun _ => 0, 0, ?_, ?_, ⟨_, (hg6 100 (by decide)).trans hk5⟩, ⟨_, hk6⟩, TxE.nil, ⟨rfl, fun _ h => absurd h (Nat.not_lt_zero _)⟩, inv_sv0, (fun z h => by cases h), (fun z h => by cases h), Nat.zero_le _, Nat.zero_le _, (fun z h => by cases h), Or.inl rfl, Or.inl rfl⟩
    · exact hct2.frame (fun k _ hk => (hg6 k (by omega)).trans ((hg5 k (by omega)).trans ((hg4 k (by omega)).trans (hg3 k (by omega)))))
    · exact hmd4.frame (fun k _ hk => (hg6 k (by omega)).trans (hg5 k (by omega)))
  have hT : mTie 0 X X6 := ((((hT1.trans0 hT2).trans0 hT3).trans0 hT4).trans0 hT5).trans0 hT6
  exact law_loop hX6 hC6 hn6 hN hmc hms (kk X6 hT) 513 0 (0 + 1 + 90 + 1 + 10 + 1 + 1) (0 + 12 + 1043 + 21 + 962 + 1 + 1) w6 (by omega) (by omega) (by omega) hJ
end LH
