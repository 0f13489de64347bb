section JD
theorem gZ_cs : ("java/lang/String", "COMPACT_STRINGS", "Z", Value.int 1) ∈ gZs := List.mem_of_getElem? (i := 19) rfl
theorem r_getSf {X : mC} {own : String} {cc : ByteArray} {d mc ms k n pc : Nat} {w : mW} {L : List (Nat × Value)} {st : List Value} (hC : Cx X own cc d mc ms) (hf : mGetS own cc pc "jdk/internal/util/Preconditions" "SIOOBE_FORMATTER" "Ljava/util/function/BiFunction;") (k1 : Wp X k n w L (.null :: st) (pc + 3)) (k2 : Wp X k n w L (.ref 1000070 :: st) (pc + 3)) : Wp X k n w L st pc := by
  obtain ⟨p, l, e, R, s, m, args, below, meth, c, Q, D, dt, ad, A, nL⟩ := X
  obtain ⟨hx, hb, hml, hown, hts, hlk, htr, hK, hA, hG, -⟩ := hC
  intro ws H locs ls hp hP hD hS hl
  obtain ⟨idx, hfl, hd⟩ := hf
  rcases hG.2.2.2.2.2.2.2.2.2.2 with hZ | hZ
  · rcases hfl with h | ⟨host, h⟩
    · exact va_gets hx hb hZ hS hown (hts _ h) (fun _ h9 => h9) hd (k1 ws H locs ls hp hP hD hS hl)
    · exact va_getsN hx hb hZ hS hown (va_Nw.use rfl (hG.2.2.2.2.2.2.1 _ h)) (fun _ h9 => h9) hd (k1 ws H locs ls hp hP hD hS hl)
  · rcases hfl with h | ⟨host, h⟩
    · exact va_gets hx hb hZ hS hown (hts _ h) (fun _ h9 => h9) hd (k2 ws H locs ls hp hP hD hS hl)
    · exact va_getsN hx hb hZ hS hown (va_Nw.use rfl (hG.2.2.2.2.2.2.1 _ h)) (fun _ h9 => h9) hd (k2 ws H locs ls hp hP hD hS hl)
theorem kc_J8_200 : Cond.constant RJ8 200 2147483639 ∈ mGood := mGood_in (List.mem_of_getElem? (i := 990) (by decide +kernel)) rfl
theorem kc_J5_39 : Cond.constant RJ5 39 2147483647 ∈ mGood := mGood_in (List.mem_of_getElem? (i := 994) (by decide +kernel)) rfl
theorem nI_max {g p : Nat} (hg : g < 2 ^ 31) (hp : p < 2 ^ 31) : (if nI g < nI p then nI p else nI g) = nI (max g p) := by
  by_cases z : g < p
  · rw [if_pos (Int32.not_le.mp (nI_ge z hp)), Nat.max_eq_right (by omega)]
  · rw [if_neg (Int32.not_lt.mpr (nI_le (by omega) hg)), Nat.max_eq_left (by omega)]
theorem nI_min {g p : Nat} (hgp : g ≤ p) (hp : p < 2 ^ 31) : (if nI p < nI g then nI p else nI g) = nI g := if_neg (Int32.not_lt.mpr (nI_le hgp hp))
theorem min_code : cJ9_min_7cf53 = Lib.Math.min.code := by decide +kernel
theorem r_min {X : mC} {own : String} {cc : ByteArray} {d mc ms k n pc : Nat} {w : mW} {L : List (Nat × Value)} {st : List Value} (hC : Cx X own cc d mc ms) {x y : Int32} (hcv : mCallS own cc pc yJ9_min_7cf53 cJ9_min_7cf53 2 (some .int) 2) (hcat : (st.map fun v => v.category).sum ≤ 8) (hd : 1 ≤ d) (hk : k ≤ mc) (hn : n ≤ ms) (kk : Wp X k n w L (.int (if y < x then y else x) :: st) (pc + 3)) : Wp X k n w L (.int y :: .int x :: st) pc := by
  obtain ⟨p, l, e, R, s, m, args, below, meth, c, Q, D, dt, ad, A, nL⟩ := X
  obtain ⟨hx, hb, hml, hown, hts, hlk, htr, hK, hA, hG, hfr, hlo, hcc, hss⟩ := hC
  intro ws H locs ls hp hP hD hS hl
  obtain ⟨idx, hli, hstt, hini, hcode, hmh, hpar, hmL, hdd⟩ := hcv
  rw [min_code] at hcode
  have hcat' := cat_tr ad hcat
  exact va_mmin hx hb (hml.trans hl.1.symm) hown (hts _ hli) (hts _ hstt) (hts _ hini) (hts _ hcode) (by omega) (by omega) (by omega) (by omega) hdd (kk ws H locs ls hp hP hD hS hl)
theorem nI_lel {x : Nat} (hx : x < 2147483639) : ¬ (2147483639 : Int32) < nI x := by
  rw [Int32.lt_iff_toInt_lt, nI_toInt (by omega)]
  have : (2147483639 : Int32).toInt = 2147483639 := by decide
  omega
theorem nI_lel7 {x : Nat} (hx : x < 2147483639) : ¬ nI x = (2147483647 : Int32) := fun h => by
  have h2 := congrArg Int32.toInt h
  rw [nI_toInt (by omega)] at h2
  have : (2147483647 : Int32).toInt = 2147483647 := by decide
  omega
theorem nI_subLe {q c : Nat} (h : q ≤ c) (hc : c < 2 ^ 31) : nI q - nI c ≤ 0 := by
  rcases Nat.eq_or_lt_of_le h with z | z
  · rw [z, Int32.sub_self]; exact Int32.le_refl 0
  · rw [Int32.le_iff_toInt_le, Int32.toInt_sub, nI_toInt (by omega), nI_toInt hc]
    show Int.bmod ((q : Int) - c) (2 ^ 32) ≤ 0
    rw [Int.bmod_eq_of_le (by omega) (by omega)]
    omega
def capN (cap q : Nat) : Nat := cap + max (q - cap) (cap + 2)
theorem nar_b : ∀ c, c < 256 → vp_nar .byte (sb_b c) = sb_b c := by decide +kernel
theorem nar_c : ∀ k, k < 256 → narrow .char (.int (nI k)) = .int (nI k) := by
  have : ∀ k, k < 256 → (match narrow .char (.int (nI k)) with | .int z => decide (z = nI k) | _ => false) = true := by decide +kernel
  intro k hk
  have h := this k hk
  split at h
  · rename_i z e
    rw [e, of_decide_eq_true h]
  · cases h
set_option maxRecDepth 100000 in
set_option maxHeartbeats 4000000 in
theorem sj_lat {d n cap : Nat} {ml : Int32} {a : Nat → Int32}  : Sp d yJ5_isLatin1_aae02 cJ5_isLatin1_aae02 1 (some .boolean) [.ref 0] [(mO 1 [.ref 1, .int 0, .int ml, .int (nI n)]), (mI 5 cap a)] 0 0 (fun v w' => v = some (.int 1) ∧ w' = [mO 1 [.ref 1, .int 0, .int ml, .int (nI n)], mI 5 cap a]) noX := by
  refine Sp.of (by decide +kernel) (Nat.le_of_ble_eq_true rfl) (fun X hC hnl hE hR hN => ?_)
  have hC : Cx X RJ5 cJ5_isLatin1_aae02 d 0 0 := hC
  show Wp X 0 0 [(mO 1 [.ref 1, .int 0, .int ml, .int (nI n)]), (mI 5 cap a)] [(0, .ref 0)] [] 0
  refine r_gets hC sJ5_isLatin1_aae02_0 (v := .int 1) gZ_cs ?_
  refine r_if_eq hC dJ5_isLatin1_aae02_3 (tgt := 17) (by decide) (fun h => absurd h (by decide)) (fun _ => ?_)
  refine r_aload_n hC dJ5_isLatin1_aae02_6 rfl (j := 0) rfl ?_
  refine r_get hC gJ5_isLatin1_aae02_7 (show _ = some (mO 1 [.ref 1, .int 0, .int ml, .int (nI n)]) from rfl) (v := .int 0) rfl ?_
  refine r_if_ne hC dJ5_isLatin1_aae02_10 (tgt := 17) (by decide) (fun h => absurd (by decide) h) (fun _ => ?_)
  refine r_iconst hC dJ5_isLatin1_aae02_13 (v := 1) (by decide) ?_
  refine r_goto hC dJ5_isLatin1_aae02_14 (tgt := 18) (by decide) ?_
  refine r_nret hC hE hR dJ5_isLatin1_aae02_18 (by decide) (by omega) (by omega) rfl ?_
  exact ⟨rfl, rfl⟩
set_option maxRecDepth 100000 in
set_option maxHeartbeats 4000000 in
theorem sj_len5 {d n cap : Nat} {ml : Int32} {a : Nat → Int32}  : Sp d yJ5_length_8abf5 cJ5_length_8abf5 1 (some .int) [.ref 0] [(mO 1 [.ref 1, .int 0, .int ml, .int (nI n)]), (mI 5 cap a)] 0 0 (fun v w' => v = some (.int (nI n)) ∧ w' = [mO 1 [.ref 1, .int 0, .int ml, .int (nI n)], mI 5 cap a]) noX := by
  refine Sp.of (by decide +kernel) (Nat.le_of_ble_eq_true rfl) (fun X hC hnl hE hR hN => ?_)
  have hC : Cx X RJ5 cJ5_length_8abf5 d 0 0 := hC
  show Wp X 0 0 [(mO 1 [.ref 1, .int 0, .int ml, .int (nI n)]), (mI 5 cap a)] [(0, .ref 0)] [] 0
  refine r_aload_n hC dJ5_length_8abf5_0 rfl (j := 0) rfl ?_
  refine r_get hC gJ5_length_8abf5_1 (show _ = some (mO 1 [.ref 1, .int 0, .int ml, .int (nI n)]) from rfl) (v := .int (nI n)) rfl ?_
  refine r_iret hC hE hR dJ5_length_8abf5_4 (by omega) (by omega) rfl ?_
  exact ⟨rfl, rfl⟩
set_option maxRecDepth 100000 in
set_option maxHeartbeats 4000000 in
theorem sj_len {d n cap : Nat} {ml : Int32} {a : Nat → Int32}  : Sp (d + 1) yJ4_length_8abf5 cJ4_length_8abf5 1 (some .int) [.ref 0] [(mO 1 [.ref 1, .int 0, .int ml, .int (nI n)]), (mI 5 cap a)] 0 0 (fun v w' => v = some (.int (nI n)) ∧ w' = [mO 1 [.ref 1, .int 0, .int ml, .int (nI n)], mI 5 cap a]) noX := by
  refine Sp.of (by decide +kernel) (Nat.le_of_ble_eq_true rfl) (fun X hC hnl hE hR hN => ?_)
  have hC : Cx X RJ4 cJ4_length_8abf5 (d + 1) 0 0 := hC
  show Wp X 0 0 [(mO 1 [.ref 1, .int 0, .int ml, .int (nI n)]), (mI 5 cap a)] [(0, .ref 0)] [] 0
  refine r_aload_n hC dJ4_length_8abf5_0 rfl (j := 0) rfl ?_
  refine r_callSU hC (vs := []) vJ4_length_8abf5_1 (sj_len5 (d := d)) (show _ = some (mO 1 [.ref 1, .int 0, .int ml, .int (nI n)]) from rfl) rfl rfl (by omega) (by omega) (by omega) (Nat.le_of_ble_eq_true rfl) (fun v_1 w_1 hP_1 hlen_1 => ?_)
  obtain ⟨rfl, rfl⟩ := hP_1
  show Wp X 0 0 [(mO 1 [.ref 1, .int 0, .int ml, .int (nI n)]), (mI 5 cap a)] [(0, .ref 0)] [.int (nI n)] 4
  refine r_iret hC hE hR dJ4_length_8abf5_4 (by omega) (by omega) rfl ?_
  exact ⟨rfl, rfl⟩
set_option maxRecDepth 100000 in
set_option maxHeartbeats 4000000 in
theorem sj_enc {d c : Nat} {w : mW} (hc : c < 256) : Sp d yJ1_canEncode_fc78d cJ1_canEncode_fc78d 1 (some .boolean) [.int (nI c)] w 0 0 (fun v w' => v = some (.int 1) ∧ w' = w) noX := by
  refine Sp.of (by decide +kernel) (Nat.le_of_ble_eq_true rfl) (fun X hC hnl hE hR hN => ?_)
  have hC : Cx X RJ1 cJ1_canEncode_fc78d d 0 0 := hC
  show Wp X 0 0 w [(0, .int (nI c))] [] 0
  refine r_iload_n hC dJ1_canEncode_fc78d_0 rfl (j := 0) rfl ?_
  refine r_sipush hC dJ1_canEncode_fc78d_1 (v := 255) (by decide) ?_
  refine r_icmp_gt hC dJ1_canEncode_fc78d_4 (tgt := 11) (by decide) (fun h => absurd h (Int32.not_lt.mpr (nI_le (b := 255) (by omega) (by decide)))) (fun _ => ?_)
  refine r_iconst hC dJ1_canEncode_fc78d_7 (v := 1) (by decide) ?_
  refine r_goto hC dJ1_canEncode_fc78d_8 (tgt := 12) (by decide) ?_
  refine r_nret hC hE hR dJ1_canEncode_fc78d_12 (by decide) (by omega) (by omega) (rfl) ?_
  exact ⟨rfl, rfl⟩
set_option maxRecDepth 100000 in
set_option maxHeartbeats 4000000 in
theorem sj_newLen {d o g q : Nat} {w : mW} (h : o + g + q < 1000000000) (hq : 0 < q) : Sp (d + 1) yJ8_newLength_cabcc cJ8_newLength_cabcc 4 (some .int) [.int (nI o), .int (nI g), .int (nI q)] w 0 0 (fun v w' => v = some (.int (nI (o + max g q))) ∧ w' = w) noX := by
  refine Sp.of (by decide +kernel) (Nat.le_of_ble_eq_true rfl) (fun X hC hnl hE hR hN => ?_)
  have hC : Cx X RJ8 cJ8_newLength_cabcc (d + 1) 0 0 := hC
  show Wp X 0 0 w [(0, .int (nI o)), (1, .int (nI g)), (2, .int (nI q))] [] 0
  have hmx : max g q ≤ g + q ∧ q ≤ max g q := ⟨Nat.max_le.mpr ⟨by omega, by omega⟩, Nat.le_max_right _ _⟩
  refine r_iload_n hC dJ8_newLength_cabcc_0 rfl (j := 0) rfl ?_
  refine r_iload_n hC dJ8_newLength_cabcc_1 rfl (j := 1) rfl ?_
  refine r_iload_n hC dJ8_newLength_cabcc_2 rfl (j := 2) rfl ?_
  refine r_max hC vJ8_newLength_cabcc_3 (Nat.le_of_ble_eq_true rfl) (by omega) (by omega) (by omega) ?_
  rw [nI_max (by omega) (by omega)]
  refine r_iadd hC dJ8_newLength_cabcc_6 ?_
  rw [nI_add _ _]
  refine r_istore_n hC dJ8_newLength_cabcc_7 rfl (by rw [hnl]; decide) (L' := [(3, .int (nI (o + max g q))), (0, .int (nI o)), (1, .int (nI g)), (2, .int (nI q))]) rfl ?_
  refine r_iconst hC dJ8_newLength_cabcc_8 (v := 0) (by decide) ?_
  refine r_iload_n hC dJ8_newLength_cabcc_9 rfl (j := 0) rfl ?_
  refine r_icmp_ge hC dJ8_newLength_cabcc_10 (tgt := 21) (by decide) (fun h => absurd h (fun z => absurd ((nI_leI (a := o + max g q) (b := 0) (by omega) (by decide)).mp z) (by omega))) (fun _ => ?_)
  refine r_iload_n hC dJ8_newLength_cabcc_13 rfl (j := 0) rfl ?_
  refine r_ldci hC dJ8_newLength_cabcc_14 kc_J8_200 ?_
  refine r_icmp_gt hC dJ8_newLength_cabcc_16 (tgt := 21) (by decide) (fun h => absurd h (nI_lel (by omega))) (fun _ => ?_)
  refine r_iload_n hC dJ8_newLength_cabcc_19 rfl (j := 0) rfl ?_
  refine r_iret hC hE hR dJ8_newLength_cabcc_20 (by omega) (by omega) (rfl) ?_
  exact ⟨rfl, rfl⟩
set_option maxRecDepth 100000 in
set_option maxHeartbeats 4000000 in
theorem sj_newCap {q : Nat} {d n cap : Nat} {ml : Int32} {a : Nat → Int32} (hq : cap < q) (hb : q < 100000000) : Sp (d + 2) yJ5_newCapacity_0f7a4 cJ5_newCapacity_0f7a4 6 (some .int) [.ref 0, .int (nI q)] [(mO 1 [.ref 1, .int 0, .int ml, .int (nI n)]), (mI 5 cap a)] 0 0 (fun v w' => v = some (.int (nI (capN cap q))) ∧ w' = [mO 1 [.ref 1, .int 0, .int ml, .int (nI n)], mI 5 cap a]) noX := by
  refine Sp.of (by decide +kernel) (Nat.le_of_ble_eq_true rfl) (fun X hC hnl hE hR hN => ?_)
  have hC : Cx X RJ5 cJ5_newCapacity_0f7a4 (d + 2) 0 0 := hC
  show Wp X 0 0 [(mO 1 [.ref 1, .int 0, .int ml, .int (nI n)]), (mI 5 cap a)] [(0, .ref 0), (1, .int (nI q))] [] 0
  have hmx : max (q - cap) (cap + 2) ≤ q + (cap + 2) := Nat.max_le.mpr ⟨by omega, by omega⟩
  refine r_aload_n hC dJ5_newCapacity_0f7a4_0 rfl (j := 0) rfl ?_
  refine r_get hC gJ5_newCapacity_0f7a4_1 (show _ = some (mO 1 [.ref 1, .int 0, .int ml, .int (nI n)]) from rfl) (v := .ref 1) rfl ?_
  refine r_alen hC (t := 5) (v := nI cap) (fun dt => ⟨_, rfl⟩) dJ5_newCapacity_0f7a4_4 (show _ = some (mI 5 cap a) from rfl) rfl ?_
  refine r_istore_n hC dJ5_newCapacity_0f7a4_5 rfl (by rw [hnl]; decide) (L' := [(2, .int (nI cap)), (0, .ref 0), (1, .int (nI q))]) rfl ?_
  refine r_iload_n hC dJ5_newCapacity_0f7a4_6 rfl (j := 2) rfl ?_
  refine r_aload_n hC dJ5_newCapacity_0f7a4_7 rfl (j := 1) rfl ?_
  refine r_get hC gJ5_newCapacity_0f7a4_8 (show _ = some (mO 1 [.ref 1, .int 0, .int ml, .int (nI n)]) from rfl) (v := .int 0) rfl ?_
  refine r_ishl0 hC dJ5_newCapacity_0f7a4_11 ?_
  refine r_istore_n hC dJ5_newCapacity_0f7a4_12 rfl (by rw [hnl]; decide) (L' := [(3, .int (nI q)), (2, .int (nI cap)), (0, .ref 0), (1, .int (nI q))]) rfl ?_
  refine r_iload_n hC dJ5_newCapacity_0f7a4_13 rfl (j := 0) rfl ?_
  refine r_iload_n hC dJ5_newCapacity_0f7a4_14 rfl (j := 1) rfl ?_
  refine r_isub hC dJ5_newCapacity_0f7a4_15 ?_
  rw [nI_sub (by omega)]
  refine r_istore hC dJ5_newCapacity_0f7a4_16 (by rw [hnl]; decide) (L' := [(4, .int (nI (q - cap))), (3, .int (nI q)), (2, .int (nI cap)), (0, .ref 0), (1, .int (nI q))]) rfl ?_
  refine r_iload_n hC dJ5_newCapacity_0f7a4_18 rfl (j := 2) rfl ?_
  refine r_iload hC dJ5_newCapacity_0f7a4_19 (j := 0) rfl ?_
  refine r_iload_n hC dJ5_newCapacity_0f7a4_21 rfl (j := 2) rfl ?_
  refine r_iconst hC dJ5_newCapacity_0f7a4_22 (v := 2) (by decide) ?_
  refine r_aload_n hC dJ5_newCapacity_0f7a4_23 rfl (j := 3) rfl ?_
  refine r_get hC gJ5_newCapacity_0f7a4_24 (show _ = some (mO 1 [.ref 1, .int 0, .int ml, .int (nI n)]) from rfl) (v := .int 0) rfl ?_
  refine r_ishl0 hC dJ5_newCapacity_0f7a4_27 ?_
  refine r_iadd hC dJ5_newCapacity_0f7a4_28 ?_
  rw [show nI cap + 2 = nI (cap + 2) from nI_add cap 2]
  refine r_callS hC (vs := [.int (nI cap), .int (nI (q - cap)), .int (nI (cap + 2))]) vJ5_newCapacity_0f7a4_29 (sj_newLen (d := d) (o := cap) (g := q - cap) (q := cap + 2) (by omega) (by omega)) rfl (by omega) (by omega) (by omega) (Nat.le_of_ble_eq_true rfl) (fun v_1 w_1 hP_1 hlen_1 => ?_) (fun _ _ h => h.elim)
  obtain ⟨rfl, rfl⟩ := hP_1
  show Wp X 0 0 [(mO 1 [.ref 1, .int 0, .int ml, .int (nI n)]), (mI 5 cap a)] [(4, .int (nI (q - cap))), (3, .int (nI q)), (2, .int (nI cap)), (0, .ref 0), (1, .int (nI q))] [.int (nI (capN cap q))] 32
  refine r_istore hC dJ5_newCapacity_0f7a4_32 (by rw [hnl]; decide) (L' := [(5, .int (nI (capN cap q))), (4, .int (nI (q - cap))), (3, .int (nI q)), (2, .int (nI cap)), (0, .ref 0), (1, .int (nI q))]) rfl ?_
  refine r_iload hC dJ5_newCapacity_0f7a4_34 (j := 0) rfl ?_
  refine r_ldci hC dJ5_newCapacity_0f7a4_36 kc_J5_39 ?_
  refine r_icmp_ne hC dJ5_newCapacity_0f7a4_38 (tgt := 51) (by decide) (fun _ => ?_) (fun h => absurd h (show ¬ nI (capN cap q) = 2147483647 from nI_lel7 (by unfold capN; omega)))
  refine r_iload hC dJ5_newCapacity_0f7a4_51 (j := 0) rfl ?_
  refine r_aload_n hC dJ5_newCapacity_0f7a4_53 rfl (j := 4) rfl ?_
  refine r_get hC gJ5_newCapacity_0f7a4_54 (show _ = some (mO 1 [.ref 1, .int 0, .int ml, .int (nI n)]) from rfl) (v := .int 0) rfl ?_
  refine r_ishr0 hC dJ5_newCapacity_0f7a4_57 ?_
  refine r_iret hC hE hR dJ5_newCapacity_0f7a4_58 (by omega) (by omega) rfl ?_
  exact ⟨rfl, rfl⟩
set_option maxRecDepth 100000 in
set_option maxHeartbeats 4000000 in
theorem sj_copy {q : Nat} {d n cap : Nat} {ml : Int32} {a : Nat → Int32} (hq : cap < q) (hb : q ≤ 65536) (hf : sb_Fit a) : SpN (d + 1) yJ7_copyOf_9075b cJ7_copyOf_9075b 3 (some (.array .byte)) [.ref 1, .int (nI q)] [(mO 1 [.ref 1, .int 0, .int ml, .int (nI n)]), (mI 5 cap a)] 1 q (fun v w' => v = some (.ref 2) ∧ w' = [mO 1 [.ref 1, .int 0, .int ml, .int (nI n)], mI 5 cap a, mI 5 q (va_cpy a (fun _ => 0) 0 0 cap)]) := by
  refine SpN.of (by decide +kernel) (Nat.le_of_ble_eq_true rfl) (fun X hC hnl hE hR hN hNm => ?_)
  have hC : Cx X RJ7 cJ7_copyOf_9075b (d + 1) 1 q := hC
  show Wp X 0 0 [(mO 1 [.ref 1, .int 0, .int ml, .int (nI n)]), (mI 5 cap a)] [(0, .ref 1), (1, .int (nI q))] [] 0
  refine r_iload_n hC dJ7_copyOf_9075b_0 rfl (j := 1) rfl ?_
  refine r_aload_n hC dJ7_copyOf_9075b_1 rfl (j := 0) rfl ?_
  refine r_alen hC (t := 5) (v := nI cap) (fun dt => ⟨_, rfl⟩) dJ7_copyOf_9075b_2 (show _ = some (mI 5 cap a) from rfl) rfl ?_
  refine r_icmp_ne hC dJ7_copyOf_9075b_3 (tgt := 14) (by decide) (fun _ => ?_) (fun h => absurd h (fun z => absurd ((nI_eq (by omega) (by omega)).mp z) (by omega)))
  refine r_iload_n hC dJ7_copyOf_9075b_14 rfl (j := 1) rfl ?_
  refine n_newa hC (atype := .byte) (ty := .byte) (t := 5) (N := q) (a0 := (q, .inl (fun _ => 0))) ac_byte rfl (fun _ => rfl) (fun _ => rfl) (fun _ => rfl) (nI_pos (by omega)) (nI_clamp (by omega)) (by show q * 1 ≤ 536870912; omega) dJ7_copyOf_9075b_15 (mLowW.cons ⟨(Or.inl (Nat.le_of_ble_eq_true rfl)), trivial, trivial, trivial, trivial⟩ (mLowW.cons trivial mLowW.nil)) (Nat.le_of_ble_eq_true rfl) (by omega) (by omega) ⟨(Or.inl (Nat.le_of_ble_eq_true rfl)), trivial, trivial⟩ trivial (fun X hT => ?_)
  have hC := Cx.tie hT hC
  have hnl := (mNL.tie hT).trans hnl
  have hE := mEndN.tie hT (Nat.le_of_ble_eq_true rfl) hE
  have hR := mRet.tie hT hR
  have hN := mNoTab.tie hT hN
  have hNm := mNam.tie hT hNm
  clear hT
  show Wp X (0 + 1) (0 + q) [(mO 1 [.ref 1, .int 0, .int ml, .int (nI n)]), (mI 5 cap a), (mI 5 q (fun _ => 0))] [(0, .ref 1), (1, .int (nI q))] [.ref 2] _
  refine r_astore_n hC dJ7_copyOf_9075b_17 rfl (by rw [hnl]; decide) (L' := [(2, .ref 2), (0, .ref 1), (1, .int (nI q))]) rfl ?_
  refine r_aload_n hC dJ7_copyOf_9075b_18 rfl (j := 1) rfl ?_
  refine r_iconst hC dJ7_copyOf_9075b_19 (v := 0) (by decide) ?_
  refine r_aload_n hC dJ7_copyOf_9075b_20 rfl (j := 0) rfl ?_
  refine r_iconst hC dJ7_copyOf_9075b_21 (v := 0) (by decide) ?_
  refine r_aload_n hC dJ7_copyOf_9075b_22 rfl (j := 1) rfl ?_
  refine r_alen hC (t := 5) (v := nI cap) (fun dt => ⟨_, rfl⟩) dJ7_copyOf_9075b_23 (show _ = some (mI 5 cap a) from rfl) rfl ?_
  refine r_iload_n hC dJ7_copyOf_9075b_24 rfl (j := 2) rfl ?_
  refine r_min hC vJ7_copyOf_9075b_25 (Nat.le_of_ble_eq_true rfl) (by omega) (by omega) (by omega) ?_
  rw [nI_min (by omega) (by omega)]
  refine r_copy5 hC vJ7_copyOf_9075b_28 (show _ = some (mI 5 cap a) from rfl) (show _ = some (mI 5 q (fun _ => 0)) from rfl) hf (by decide) (by decide) (nI_pos (by omega)) (by rw [sb_cl0, nI_clamp (by omega)]; omega) (by rw [sb_cl0, nI_clamp (by omega)]; omega) (Nat.le_of_ble_eq_true rfl) (fun w_2 ew_2 => ?_)
  rw [sb_cl0, nI_clamp (show cap < 2 ^ 31 by omega)] at ew_2
  subst ew_2
  show Wp X (0 + 1) (0 + q) [(mO 1 [.ref 1, .int 0, .int ml, .int (nI n)]), (mI 5 cap a), (mI 5 q (va_cpy a (fun _ => 0) 0 0 cap))] [(2, .ref 2), (0, .ref 1), (1, .int (nI q))] [] _
  refine r_aload_n hC dJ7_copyOf_9075b_31 rfl (j := 0) rfl ?_
  refine n_aret hC hE (Or.inr ⟨_, rfl⟩) hR dJ7_copyOf_9075b_32 (by omega) (by omega) (Nat.le_of_ble_eq_true rfl) ?_
  exact ⟨rfl, rfl⟩
set_option maxRecDepth 100000 in
set_option maxHeartbeats 4000000 in
theorem sj_ens0 {q : Nat} {d n cap : Nat} {ml : Int32} {a : Nat → Int32} (hq : q ≤ cap) (hb : cap ≤ 65536) : Sp d yJ5_ensureCapacityInternal_d00df cJ5_ensureCapacityInternal_d00df 3 none [.ref 0, .int (nI q)] [(mO 1 [.ref 1, .int 0, .int ml, .int (nI n)]), (mI 5 cap a)] 0 0 (fun v w' => v = none ∧ w' = [mO 1 [.ref 1, .int 0, .int ml, .int (nI n)], mI 5 cap a]) noX := by
  refine Sp.of (by decide +kernel) (Nat.le_of_ble_eq_true rfl) (fun X hC hnl hE hR hN => ?_)
  have hC : Cx X RJ5 cJ5_ensureCapacityInternal_d00df d 0 0 := hC
  show Wp X 0 0 [(mO 1 [.ref 1, .int 0, .int ml, .int (nI n)]), (mI 5 cap a)] [(0, .ref 0), (1, .int (nI q))] [] 0
  refine r_aload_n hC dJ5_ensureCapacityInternal_d00df_0 rfl (j := 0) rfl ?_
  refine r_get hC gJ5_ensureCapacityInternal_d00df_1 (show _ = some (mO 1 [.ref 1, .int 0, .int ml, .int (nI n)]) from rfl) (v := .ref 1) rfl ?_
  refine r_alen hC (t := 5) (v := nI cap) (fun dt => ⟨_, rfl⟩) dJ5_ensureCapacityInternal_d00df_4 (show _ = some (mI 5 cap a) from rfl) rfl ?_
  refine r_aload_n hC dJ5_ensureCapacityInternal_d00df_5 rfl (j := 0) rfl ?_
  refine r_get hC gJ5_ensureCapacityInternal_d00df_6 (show _ = some (mO 1 [.ref 1, .int 0, .int ml, .int (nI n)]) from rfl) (v := .int 0) rfl ?_
  refine r_ishr0 hC dJ5_ensureCapacityInternal_d00df_9 ?_
  refine r_istore_n hC dJ5_ensureCapacityInternal_d00df_10 rfl (by rw [hnl]; decide) (L' := [(2, .int (nI cap)), (0, .ref 0), (1, .int (nI q))]) rfl ?_
  refine r_iload_n hC dJ5_ensureCapacityInternal_d00df_11 rfl (j := 2) rfl ?_
  refine r_iload_n hC dJ5_ensureCapacityInternal_d00df_12 rfl (j := 0) rfl ?_
  refine r_isub hC dJ5_ensureCapacityInternal_d00df_13 ?_
  refine r_if_le hC dJ5_ensureCapacityInternal_d00df_14 (tgt := 38) (by decide) (fun _ => ?_) (fun h => absurd (nI_subLe hq (by omega)) h)
  refine r_vret hC hE hR dJ5_ensureCapacityInternal_d00df_38 (by omega) (by omega) rfl ?_
  exact ⟨rfl, rfl⟩
set_option maxRecDepth 100000 in
set_option maxHeartbeats 4000000 in
theorem sj_ens1 {q : Nat} {d n cap : Nat} {ml : Int32} {a : Nat → Int32} (hq : cap < q) (hb : capN cap q ≤ 65536) (hf : sb_Fit a) : SpN (d + 3) yJ5_ensureCapacityInternal_d00df cJ5_ensureCapacityInternal_d00df 3 none [.ref 0, .int (nI q)] [(mO 1 [.ref 1, .int 0, .int ml, .int (nI n)]), (mI 5 cap a)] 1 (capN cap q) (fun v w' => v = none ∧ w' = [mO 1 [.ref 2, .int 0, .int ml, .int (nI n)], mI 5 cap a, mI 5 (capN cap q) (va_cpy a (fun _ => 0) 0 0 cap)]) := by
  refine SpN.of (by decide +kernel) (Nat.le_of_ble_eq_true rfl) (fun X hC hnl hE hR hN hNm => ?_)
  have hC : Cx X RJ5 cJ5_ensureCapacityInternal_d00df (d + 3) 1 (capN cap q) := hC
  show Wp X 0 0 [(mO 1 [.ref 1, .int 0, .int ml, .int (nI n)]), (mI 5 cap a)] [(0, .ref 0), (1, .int (nI q))] [] 0
  have hcq : q ≤ capN cap q := by
    unfold capN
    have := Nat.le_max_left (q - cap) (cap + 2)
    omega
  have hcq2 : cap < capN cap q := by omega
  refine r_aload_n hC dJ5_ensureCapacityInternal_d00df_0 rfl (j := 0) rfl ?_
  refine r_get hC gJ5_ensureCapacityInternal_d00df_1 (show _ = some (mO 1 [.ref 1, .int 0, .int ml, .int (nI n)]) from rfl) (v := .ref 1) rfl ?_
  refine r_alen hC (t := 5) (v := nI cap) (fun dt => ⟨_, rfl⟩) dJ5_ensureCapacityInternal_d00df_4 (show _ = some (mI 5 cap a) from rfl) rfl ?_
  refine r_aload_n hC dJ5_ensureCapacityInternal_d00df_5 rfl (j := 0) rfl ?_
  refine r_get hC gJ5_ensureCapacityInternal_d00df_6 (show _ = some (mO 1 [.ref 1, .int 0, .int ml, .int (nI n)]) from rfl) (v := .int 0) rfl ?_
  refine r_ishr0 hC dJ5_ensureCapacityInternal_d00df_9 ?_
  refine r_istore_n hC dJ5_ensureCapacityInternal_d00df_10 rfl (by rw [hnl]; decide) (L' := [(2, .int (nI cap)), (0, .ref 0), (1, .int (nI q))]) rfl ?_
  refine r_iload_n hC dJ5_ensureCapacityInternal_d00df_11 rfl (j := 2) rfl ?_
  refine r_iload_n hC dJ5_ensureCapacityInternal_d00df_12 rfl (j := 0) rfl ?_
  refine r_isub hC dJ5_ensureCapacityInternal_d00df_13 ?_
  rw [nI_sub (by omega)]
  refine r_if_le hC dJ5_ensureCapacityInternal_d00df_14 (tgt := 38) (by decide) (fun h => absurd h (fun z => absurd ((nI_leI (a := q - cap) (b := 0) (by omega) (by decide)).mp z) (by omega))) (fun _ => ?_)
  refine r_aload_n hC dJ5_ensureCapacityInternal_d00df_17 rfl (j := 1) rfl ?_
  refine r_aload_n hC dJ5_ensureCapacityInternal_d00df_18 rfl (j := 1) rfl ?_
  refine r_get hC gJ5_ensureCapacityInternal_d00df_19 (show _ = some (mO 1 [.ref 1, .int 0, .int ml, .int (nI n)]) from rfl) (v := .ref 1) rfl ?_
  refine r_aload_n hC dJ5_ensureCapacityInternal_d00df_22 rfl (j := 1) rfl ?_
  refine r_iload_n hC dJ5_ensureCapacityInternal_d00df_23 rfl (j := 2) rfl ?_
  refine r_callX hC (vs := [.int (nI q)]) vJ5_ensureCapacityInternal_d00df_24 (sj_newCap (d := d) hq (by omega)) (show _ = some (mO 1 [.ref 1, .int 0, .int ml, .int (nI n)]) from rfl) rfl rfl (by omega) (by omega) (by omega) (Nat.le_of_ble_eq_true rfl) (fun v_1 w_1 hP_1 hlen_1 => ?_)
  obtain ⟨rfl, rfl⟩ := hP_1
  show Wp X 0 0 [(mO 1 [.ref 1, .int 0, .int ml, .int (nI n)]), (mI 5 cap a)] [(2, .int (nI cap)), (0, .ref 0), (1, .int (nI q))] [.int (nI (capN cap q)), .ref 1, .ref 0] 27
  refine r_aload_n hC dJ5_ensureCapacityInternal_d00df_27 rfl (j := 1) rfl ?_
  refine r_get hC gJ5_ensureCapacityInternal_d00df_28 (show _ = some (mO 1 [.ref 1, .int 0, .int ml, .int (nI n)]) from rfl) (v := .int 0) rfl ?_
  refine r_ishl0 hC dJ5_ensureCapacityInternal_d00df_31 ?_
  refine n_callS hC (vs := [.ref 1, .int (nI (capN cap q))]) vJ5_ensureCapacityInternal_d00df_32 (sj_copy (d := d) hcq2 hb hf) rfl (by omega) (by omega) (by omega) (Nat.le_of_ble_eq_true rfl) ⟨trivial, (Or.inl (Nat.le_of_ble_eq_true rfl)), trivial, trivial⟩ ⟨(Or.inl (Nat.le_of_ble_eq_true rfl)), trivial⟩ (fun v_2 w_2 X hT hP_2 hlen_2 => ?_)
  have hC := Cx.tie hT hC
  have hnl := (mNL.tie hT).trans hnl
  have hE := mEndN.tie hT (Nat.le_of_ble_eq_true rfl) hE
  have hR := mRet.tie hT hR
  have hN := mNoTab.tie hT hN
  have hNm := mNam.tie hT hNm
  clear hT
  obtain ⟨rfl, rfl⟩ := hP_2
  show Wp X (0 + 1) (0 + capN cap q) [(mO 1 [.ref 1, .int 0, .int ml, .int (nI n)]), (mI 5 cap a), (mI 5 (capN cap q) (va_cpy a (fun _ => 0) 0 0 cap))] [(2, .int (nI cap)), (0, .ref 0), (1, .int (nI q))] [.ref 2, .ref 0] 35
  refine r_put' hC pJ5_ensureCapacityInternal_d00df_35 (show _ = some (mO 1 [.ref 1, .int 0, .int ml, .int (nI n)]) from rfl) (Nat.le_of_ble_eq_true rfl) (fun _ => rfl) (fun _ => rfl) (fun w_3 ew_3 => ?_)
  subst ew_3
  show Wp X (0 + 1) (0 + capN cap q) [(mO 1 [.ref 2, .int 0, .int ml, .int (nI n)]), (mI 5 cap a), (mI 5 (capN cap q) (va_cpy a (fun _ => 0) 0 0 cap))] [(2, .int (nI cap)), (0, .ref 0), (1, .int (nI q))] [] _
  refine n_vret hC hE hR dJ5_ensureCapacityInternal_d00df_38 (by omega) (by omega) (Nat.le_of_ble_eq_true rfl) ?_
  exact ⟨rfl, rfl⟩
end JD
